section
-- ===== PART A: goes FIRST, ahead of the names: the tables' words, and 'selects' of the private methods out of them =====
/-- a private method of a class that the tables say can be made, by its rows of tables_1 -/
def lw_okq (q : MethodName × Nat) : Prop := (q.1.cls ≠ "java/lang/invoke/MethodHandle" ∧ q.1.cls ≠ "java/lang/invoke/VarHandle") ∧ Cond.instantiable q.1.cls q.2 ∈ tables_1 ∧ Cond.privateMethod q.1 ∈ tables_1 ∧ Cond.instanceMethod q.1 ∈ tables_1
theorem lw_p0 : lw_okq (⟨"QuarryRopes$History", "slotOfDraft", "()LQuarryRopes$Quarry;"⟩, 3) := ⟨⟨by decide +kernel, by decide +kernel⟩, List.mem_of_getElem? (i := 150) (by decide +kernel), List.mem_of_getElem? (i := 285) (by decide +kernel), List.mem_of_getElem? (i := 286) (by decide +kernel)⟩
theorem lw_p1 : lw_okq (⟨"QuarryRopes", "settled", "(I)I"⟩, 9) := ⟨⟨by decide +kernel, by decide +kernel⟩, List.mem_of_getElem? (i := 26) (by decide +kernel), List.mem_of_getElem? (i := 329) (by decide +kernel), List.mem_of_getElem? (i := 330) (by decide +kernel)⟩
theorem lw_p2 : lw_okq (⟨"QuarryRopes$Trees", "link", "([III)V"⟩, 4) := ⟨⟨by decide +kernel, by decide +kernel⟩, List.mem_of_getElem? (i := 61) (by decide +kernel), List.mem_of_getElem? (i := 385) (by decide +kernel), List.mem_of_getElem? (i := 386) (by decide +kernel)⟩
theorem lw_p3 : lw_okq (⟨"QuarryRopes$Input", "takeCommand", "()Z"⟩, 7) := ⟨⟨by decide +kernel, by decide +kernel⟩, List.mem_of_getElem? (i := 170) (by decide +kernel), List.mem_of_getElem? (i := 496) (by decide +kernel), List.mem_of_getElem? (i := 497) (by decide +kernel)⟩
theorem lw_p4 : lw_okq (⟨"QuarryRopes$Input", "takeWord", "()LQuarryRopes$Word;"⟩, 7) := ⟨⟨by decide +kernel, by decide +kernel⟩, List.mem_of_getElem? (i := 170) (by decide +kernel), List.mem_of_getElem? (i := 500) (by decide +kernel), List.mem_of_getElem? (i := 501) (by decide +kernel)⟩
theorem lw_p5 : lw_okq (⟨"QuarryRopes$Input", "sameLetters", "(Ljava/lang/String;)I"⟩, 7) := ⟨⟨by decide +kernel, by decide +kernel⟩, List.mem_of_getElem? (i := 170) (by decide +kernel), List.mem_of_getElem? (i := 506) (by decide +kernel), List.mem_of_getElem? (i := 507) (by decide +kernel)⟩
theorem lw_p6 : lw_okq (⟨"QuarryRopes$Input", "codeAt", "(I)I"⟩, 7) := ⟨⟨by decide +kernel, by decide +kernel⟩, List.mem_of_getElem? (i := 170) (by decide +kernel), List.mem_of_getElem? (i := 520) (by decide +kernel), List.mem_of_getElem? (i := 521) (by decide +kernel)⟩
theorem lw_p7 : lw_okq (⟨"QuarryRopes$Input", "takeNumber", "()I"⟩, 7) := ⟨⟨by decide +kernel, by decide +kernel⟩, List.mem_of_getElem? (i := 170) (by decide +kernel), List.mem_of_getElem? (i := 566) (by decide +kernel), List.mem_of_getElem? (i := 567) (by decide +kernel)⟩
theorem lw_p8 : lw_okq (⟨"QuarryRopes$Input", "takeDigit", "()I"⟩, 7) := ⟨⟨by decide +kernel, by decide +kernel⟩, List.mem_of_getElem? (i := 170) (by decide +kernel), List.mem_of_getElem? (i := 570) (by decide +kernel), List.mem_of_getElem? (i := 571) (by decide +kernel)⟩
theorem lw_p9 : lw_okq (⟨"QuarryRopes$Input", "takeSign", "(C)Z"⟩, 7) := ⟨⟨by decide +kernel, by decide +kernel⟩, List.mem_of_getElem? (i := 170) (by decide +kernel), List.mem_of_getElem? (i := 574) (by decide +kernel), List.mem_of_getElem? (i := 575) (by decide +kernel)⟩
theorem lw_p10 : lw_okq (⟨"QuarryRopes$Input", "addCommand", "(LQuarryRopes$Word;II)V"⟩, 7) := ⟨⟨by decide +kernel, by decide +kernel⟩, List.mem_of_getElem? (i := 170) (by decide +kernel), List.mem_of_getElem? (i := 578) (by decide +kernel), List.mem_of_getElem? (i := 579) (by decide +kernel)⟩
theorem lw_p11 : lw_okq (⟨"QuarryRopes", "carryOut", "(I)I"⟩, 9) := ⟨⟨by decide +kernel, by decide +kernel⟩, List.mem_of_getElem? (i := 26) (by decide +kernel), List.mem_of_getElem? (i := 586) (by decide +kernel), List.mem_of_getElem? (i := 587) (by decide +kernel)⟩
theorem lw_p12 : lw_okq (⟨"QuarryRopes$Quarry", "weightDownTo", "(I)I"⟩, 6) := ⟨⟨by decide +kernel, by decide +kernel⟩, List.mem_of_getElem? (i := 34) (by decide +kernel), List.mem_of_getElem? (i := 815) (by decide +kernel), List.mem_of_getElem? (i := 816) (by decide +kernel)⟩
theorem lw_p13 : lw_okq (⟨"QuarryRopes$Trees", "neighbour", "([I[II)I"⟩, 4) := ⟨⟨by decide +kernel, by decide +kernel⟩, List.mem_of_getElem? (i := 61) (by decide +kernel), List.mem_of_getElem? (i := 838) (by decide +kernel), List.mem_of_getElem? (i := 839) (by decide +kernel)⟩
theorem lw_p14 : lw_okq (⟨"QuarryRopes$Quarry", "timesOnRopes", "(I)I"⟩, 6) := ⟨⟨by decide +kernel, by decide +kernel⟩, List.mem_of_getElem? (i := 34) (by decide +kernel), List.mem_of_getElem? (i := 851) (by decide +kernel), List.mem_of_getElem? (i := 852) (by decide +kernel)⟩
theorem lw_p15 : lw_okq (⟨"QuarryRopes$Blocks", "rankOf", "(I)I"⟩, 3) := ⟨⟨by decide +kernel, by decide +kernel⟩, List.mem_of_getElem? (i := 40) (by decide +kernel), List.mem_of_getElem? (i := 925) (by decide +kernel), List.mem_of_getElem? (i := 926) (by decide +kernel)⟩
def lw_privs_1 : List (MethodName × Nat) := [(⟨"QuarryRopes$History", "slotOfDraft", "()LQuarryRopes$Quarry;"⟩, 3), (⟨"QuarryRopes", "settled", "(I)I"⟩, 9), (⟨"QuarryRopes$Trees", "link", "([III)V"⟩, 4), (⟨"QuarryRopes$Input", "takeCommand", "()Z"⟩, 7), (⟨"QuarryRopes$Input", "takeWord", "()LQuarryRopes$Word;"⟩, 7), (⟨"QuarryRopes$Input", "sameLetters", "(Ljava/lang/String;)I"⟩, 7), (⟨"QuarryRopes$Input", "codeAt", "(I)I"⟩, 7), (⟨"QuarryRopes$Input", "takeNumber", "()I"⟩, 7), (⟨"QuarryRopes$Input", "takeDigit", "()I"⟩, 7), (⟨"QuarryRopes$Input", "takeSign", "(C)Z"⟩, 7), (⟨"QuarryRopes$Input", "addCommand", "(LQuarryRopes$Word;II)V"⟩, 7), (⟨"QuarryRopes", "carryOut", "(I)I"⟩, 9), (⟨"QuarryRopes$Quarry", "weightDownTo", "(I)I"⟩, 6), (⟨"QuarryRopes$Trees", "neighbour", "([I[II)I"⟩, 4), (⟨"QuarryRopes$Quarry", "timesOnRopes", "(I)I"⟩, 6), (⟨"QuarryRopes$Blocks", "rankOf", "(I)I"⟩, 3)]
theorem lw_r1 : ∀ q ∈ lw_privs_1, lw_okq q := List.forall_mem_cons.mpr ⟨lw_p0, List.forall_mem_cons.mpr ⟨lw_p1, List.forall_mem_cons.mpr ⟨lw_p2, List.forall_mem_cons.mpr ⟨lw_p3, List.forall_mem_cons.mpr ⟨lw_p4, List.forall_mem_cons.mpr ⟨lw_p5, List.forall_mem_cons.mpr ⟨lw_p6, List.forall_mem_cons.mpr ⟨lw_p7, List.forall_mem_cons.mpr ⟨lw_p8, List.forall_mem_cons.mpr ⟨lw_p9, List.forall_mem_cons.mpr ⟨lw_p10, List.forall_mem_cons.mpr ⟨lw_p11, List.forall_mem_cons.mpr ⟨lw_p12, List.forall_mem_cons.mpr ⟨lw_p13, List.forall_mem_cons.mpr ⟨lw_p14, List.forall_mem_cons.mpr ⟨lw_p15, fun _ h => absurd h List.not_mem_nil⟩⟩⟩⟩⟩⟩⟩⟩⟩⟩⟩⟩⟩⟩⟩⟩
theorem lw_p16 : lw_okq (⟨"QuarryRopes$Blocks", "isBefore", "(II)Z"⟩, 3) := ⟨⟨by decide +kernel, by decide +kernel⟩, List.mem_of_getElem? (i := 40) (by decide +kernel), List.mem_of_getElem? (i := 929) (by decide +kernel), List.mem_of_getElem? (i := 930) (by decide +kernel)⟩
theorem lw_p17 : lw_okq (⟨"QuarryRopes", "writeRope", "(I)V"⟩, 9) := ⟨⟨by decide +kernel, by decide +kernel⟩, List.mem_of_getElem? (i := 26) (by decide +kernel), List.mem_of_getElem? (i := 968) (by decide +kernel), List.mem_of_getElem? (i := 969) (by decide +kernel)⟩
def lw_privs_2 : List (MethodName × Nat) := [(⟨"QuarryRopes$Blocks", "isBefore", "(II)Z"⟩, 3), (⟨"QuarryRopes", "writeRope", "(I)V"⟩, 9)]
theorem lw_r2 : ∀ q ∈ lw_privs_2, lw_okq q := List.forall_mem_cons.mpr ⟨lw_p16, List.forall_mem_cons.mpr ⟨lw_p17, fun _ h => absurd h List.not_mem_nil⟩⟩
def lw_privs : List (MethodName × Nat) := lw_privs_1 ++ (lw_privs_2)
def lw_tbl : List Cond := k2_sels lw_privs ++ tables_1
theorem lw_privs_ok : ∀ q ∈ lw_privs, lw_okq q := by
  show ∀ q ∈ lw_privs_1 ++ (lw_privs_2), lw_okq q
  exact List.forall_mem_append.mpr ⟨lw_r1, lw_r2⟩
/-- the streams that the claim lets the run draw from -/
abbrev lw_cs : List Choice := [Jvm.Choice.named "NaN.bits"]
theorem lw_bits : nanBits ∈ lw_cs := by first | decide | exact List.mem_cons_self | simp [lw_cs, nanBits]
-- ===== end of PART A; then your names; then what follows =====
def RX0 : String := "QuarryRopes$1"
def TX0 : u_T := fun k => match k with
  | _ => ("", "", "", false)
def tyX0 : Nat → FieldType := fun k => match k with
  | _ => .int
abbrev wsX00 : List Cond := u_ws RX0 TX0 0
theorem nmX0 : ∀ a, a < 0 → ∀ b, b < 0 → a ≠ b → (TX0 a).2.1 ≠ (TX0 b).2.1 := by decide +kernel
theorem tyX0_ok : ∀ k, k < 0 → parseFieldDescriptor (TX0 k).2.2.1 = some (tyX0 k) := by decide +kernel
def RX1 : String := "QuarryRopes$Blocks"
def TX1 : u_T := fun k => match k with
  | 0 => ("QuarryRopes$Blocks", "weights", "[I", true)
  | 1 => ("QuarryRopes$Blocks", "holders", "[I", true)
  | _ => ("QuarryRopes$Blocks", "count", "I", false)
def tyX1 : Nat → FieldType := fun k => match k with
  | 0 => .array .int
  | 1 => .array .int
  | _ => .int
abbrev wsX10 : List Cond := u_ws RX1 TX1 3
theorem nmX1 : ∀ a, a < 3 → ∀ b, b < 3 → a ≠ b → (TX1 a).2.1 ≠ (TX1 b).2.1 := by decide +kernel
theorem tyX1_ok : ∀ k, k < 3 → parseFieldDescriptor (TX1 k).2.2.1 = some (tyX1 k) := by decide +kernel
abbrev cX1_init : ByteArray := prog_3_method_1_code
def yX1_init : MethodName := ⟨RX1, "<init>", "()V"⟩
abbrev cX1_makeEmpty : ByteArray := prog_3_method_2_code
def yX1_makeEmpty : MethodName := ⟨RX1, "makeEmpty", "()V"⟩
abbrev cX1_takeOver : ByteArray := prog_3_method_3_code
def yX1_takeOver : MethodName := ⟨RX1, "takeOver", "(LQuarryRopes$Blocks;)V"⟩
abbrev cX1_add : ByteArray := prog_3_method_4_code
def yX1_add : MethodName := ⟨RX1, "add", "(I)I"⟩
abbrev cX1_isThere : ByteArray := prog_3_method_5_code
def yX1_isThere : MethodName := ⟨RX1, "isThere", "(I)Z"⟩
abbrev cX1_weightOf : ByteArray := prog_3_method_6_code
def yX1_weightOf : MethodName := ⟨RX1, "weightOf", "(I)I"⟩
abbrev cX1_holderOf : ByteArray := prog_3_method_7_code
def yX1_holderOf : MethodName := ⟨RX1, "holderOf", "(I)I"⟩
abbrev cX1_depthOf : ByteArray := prog_3_method_8_code
def yX1_depthOf : MethodName := ⟨RX1, "depthOf", "(I)I"⟩
abbrev cX1_rootByHolders : ByteArray := prog_3_method_9_code
def yX1_rootByHolders : MethodName := ⟨RX1, "rootByHolders", "(I)I"⟩
abbrev cX1_sumByHolders : ByteArray := prog_3_method_10_code
def yX1_sumByHolders : MethodName := ⟨RX1, "sumByHolders", "(I)I"⟩
abbrev cX1_jointByHolders : ByteArray := prog_3_method_11_code
def yX1_jointByHolders : MethodName := ⟨RX1, "jointByHolders", "(II)I"⟩
abbrev cX1_hangingAtOnce : ByteArray := prog_3_method_12_code
def yX1_hangingAtOnce : MethodName := ⟨RX1, "hangingAtOnce", "(I)I"⟩
abbrev cX1_hangingInAll : ByteArray := prog_3_method_13_code
def yX1_hangingInAll : MethodName := ⟨RX1, "hangingInAll", "(I)I"⟩
abbrev cX1_sizeOfHang : ByteArray := prog_3_method_14_code
def yX1_sizeOfHang : MethodName := ⟨RX1, "sizeOfHang", "(I)I"⟩
abbrev cX1_countRoots : ByteArray := prog_3_method_15_code
def yX1_countRoots : MethodName := ⟨RX1, "countRoots", "()I"⟩
abbrev cX1_sumOfDepths : ByteArray := prog_3_method_16_code
def yX1_sumOfDepths : MethodName := ⟨RX1, "sumOfDepths", "()I"⟩
abbrev cX1_sumOfWeights : ByteArray := prog_3_method_17_code
def yX1_sumOfWeights : MethodName := ⟨RX1, "sumOfWeights", "()I"⟩
abbrev cX1_blockOfRank : ByteArray := prog_3_method_18_code
def yX1_blockOfRank : MethodName := ⟨RX1, "blockOfRank", "(I)I"⟩
abbrev cX1_rankOf : ByteArray := prog_3_method_19_code
def yX1_rankOf : MethodName := ⟨RX1, "rankOf", "(I)I"⟩
abbrev cX1_isBefore : ByteArray := prog_3_method_20_code
def yX1_isBefore : MethodName := ⟨RX1, "isBefore", "(II)Z"⟩
def RX2 : String := "QuarryRopes$History"
def TX2 : u_T := fun k => match k with
  | 0 => ("QuarryRopes$History", "slots", "[LQuarryRopes$Quarry;", true)
  | 1 => ("QuarryRopes$History", "next", "I", false)
  | _ => ("QuarryRopes$History", "count", "I", false)
def tyX2 : Nat → FieldType := fun k => match k with
  | 0 => .array (.object "QuarryRopes$Quarry")
  | 1 => .int
  | _ => .int
abbrev wsX20 : List Cond := u_ws RX2 TX2 3
theorem nmX2 : ∀ a, a < 3 → ∀ b, b < 3 → a ≠ b → (TX2 a).2.1 ≠ (TX2 b).2.1 := by decide +kernel
theorem tyX2_ok : ∀ k, k < 3 → parseFieldDescriptor (TX2 k).2.2.1 = some (tyX2 k) := by decide +kernel
abbrev cX2_init : ByteArray := prog_4_method_1_code
def yX2_init : MethodName := ⟨RX2, "<init>", "()V"⟩
abbrev cX2_forget : ByteArray := prog_4_method_2_code
def yX2_forget : MethodName := ⟨RX2, "forget", "()V"⟩
abbrev cX2_draft : ByteArray := prog_4_method_3_code
def yX2_draft : MethodName := ⟨RX2, "draft", "(LQuarryRopes$Quarry;)V"⟩
abbrev cX2_dropDraft : ByteArray := prog_4_method_4_code
def yX2_dropDraft : MethodName := ⟨RX2, "dropDraft", "(LQuarryRopes$Quarry;)V"⟩
abbrev cX2_keepDraft : ByteArray := prog_4_method_5_code
def yX2_keepDraft : MethodName := ⟨RX2, "keepDraft", "()V"⟩
abbrev cX2_takeBack : ByteArray := prog_4_method_6_code
def yX2_takeBack : MethodName := ⟨RX2, "takeBack", "(LQuarryRopes$Quarry;)Z"⟩
abbrev cX2_slotOfDraft : ByteArray := prog_4_method_7_code
def yX2_slotOfDraft : MethodName := ⟨RX2, "slotOfDraft", "()LQuarryRopes$Quarry;"⟩
def RX3 : String := "QuarryRopes$Input"
def TX3 : u_T := fun k => match k with
  | 0 => ("QuarryRopes$Input", "signs", "[I", true)
  | 1 => ("QuarryRopes$Input", "words", "[LQuarryRopes$Word;", true)
  | 2 => ("QuarryRopes$Input", "firsts", "[I", true)
  | 3 => ("QuarryRopes$Input", "seconds", "[I", true)
  | 4 => ("QuarryRopes$Input", "length", "I", false)
  | 5 => ("QuarryRopes$Input", "commands", "I", false)
  | _ => ("QuarryRopes$Input", "place", "I", false)
def tyX3 : Nat → FieldType := fun k => match k with
  | 0 => .array .int
  | 1 => .array (.object "QuarryRopes$Word")
  | 2 => .array .int
  | 3 => .array .int
  | 4 => .int
  | 5 => .int
  | _ => .int
abbrev wsX30 : List Cond := u_ws RX3 TX3 7
theorem nmX3 : ∀ a, a < 7 → ∀ b, b < 7 → a ≠ b → (TX3 a).2.1 ≠ (TX3 b).2.1 := by decide +kernel
theorem tyX3_ok : ∀ k, k < 7 → parseFieldDescriptor (TX3 k).2.2.1 = some (tyX3 k) := by decide +kernel
abbrev cX3_init : ByteArray := prog_5_method_1_code
def yX3_init : MethodName := ⟨RX3, "<init>", "()V"⟩
abbrev cX3_add : ByteArray := prog_5_method_2_code
def yX3_add : MethodName := ⟨RX3, "add", "(C)I"⟩
abbrev cX3_makeEmpty : ByteArray := prog_5_method_3_code
def yX3_makeEmpty : MethodName := ⟨RX3, "makeEmpty", "()V"⟩
abbrev cX3_wordOf : ByteArray := prog_5_method_4_code
def yX3_wordOf : MethodName := ⟨RX3, "wordOf", "(I)LQuarryRopes$Word;"⟩
abbrev cX3_takeApart : ByteArray := prog_5_method_5_code
def yX3_takeApart : MethodName := ⟨RX3, "takeApart", "()Z"⟩
abbrev cX3_takeCommand : ByteArray := prog_5_method_6_code
def yX3_takeCommand : MethodName := ⟨RX3, "takeCommand", "()Z"⟩
abbrev cX3_addCommand : ByteArray := prog_5_method_7_code
def yX3_addCommand : MethodName := ⟨RX3, "addCommand", "(LQuarryRopes$Word;II)V"⟩
abbrev cX3_takeWord : ByteArray := prog_5_method_8_code
def yX3_takeWord : MethodName := ⟨RX3, "takeWord", "()LQuarryRopes$Word;"⟩
abbrev cX3_sameLetters : ByteArray := prog_5_method_9_code
def yX3_sameLetters : MethodName := ⟨RX3, "sameLetters", "(Ljava/lang/String;)I"⟩
abbrev cX3_takeNumber : ByteArray := prog_5_method_10_code
def yX3_takeNumber : MethodName := ⟨RX3, "takeNumber", "()I"⟩
abbrev cX3_takeDigit : ByteArray := prog_5_method_11_code
def yX3_takeDigit : MethodName := ⟨RX3, "takeDigit", "()I"⟩
abbrev cX3_takeSign : ByteArray := prog_5_method_12_code
def yX3_takeSign : MethodName := ⟨RX3, "takeSign", "(C)Z"⟩
abbrev cX3_codeAt : ByteArray := prog_5_method_13_code
def yX3_codeAt : MethodName := ⟨RX3, "codeAt", "(I)I"⟩
def RX4 : String := "QuarryRopes$Line"
def TX4 : u_T := fun k => match k with
  | 0 => ("QuarryRopes$Line", "signs", "[I", true)
  | _ => ("QuarryRopes$Line", "length", "I", false)
def tyX4 : Nat → FieldType := fun k => match k with
  | 0 => .array .int
  | _ => .int
abbrev wsX40 : List Cond := u_ws RX4 TX4 2
theorem nmX4 : ∀ a, a < 2 → ∀ b, b < 2 → a ≠ b → (TX4 a).2.1 ≠ (TX4 b).2.1 := by decide +kernel
theorem tyX4_ok : ∀ k, k < 2 → parseFieldDescriptor (TX4 k).2.2.1 = some (tyX4 k) := by decide +kernel
abbrev cX4_init : ByteArray := prog_6_method_1_code
def yX4_init : MethodName := ⟨RX4, "<init>", "()V"⟩
abbrev cX4_makeEmpty : ByteArray := prog_6_method_2_code
def yX4_makeEmpty : MethodName := ⟨RX4, "makeEmpty", "()V"⟩
abbrev cX4_addSign : ByteArray := prog_6_method_3_code
def yX4_addSign : MethodName := ⟨RX4, "addSign", "(C)V"⟩
abbrev cX4_addNumber : ByteArray := prog_6_method_4_code
def yX4_addNumber : MethodName := ⟨RX4, "addNumber", "(I)V"⟩
abbrev cX4_codeAt : ByteArray := prog_6_method_5_code
def yX4_codeAt : MethodName := ⟨RX4, "codeAt", "(I)I"⟩
def RX5 : String := "QuarryRopes$Quarry"
def TX5 : u_T := fun k => match k with
  | 0 => ("QuarryRopes$Quarry", "blocks", "LQuarryRopes$Blocks;", true)
  | 1 => ("QuarryRopes$Quarry", "trees", "LQuarryRopes$Trees;", true)
  | 2 => ("QuarryRopes$Quarry", "sledges", "LQuarryRopes$Sledges;", true)
  | 3 => ("QuarryRopes$Quarry", "exposings", "I", false)
  | 4 => ("QuarryRopes$Quarry", "hangings", "I", false)
  | _ => ("QuarryRopes$Quarry", "cuttings", "I", false)
def tyX5 : Nat → FieldType := fun k => match k with
  | 0 => .object "QuarryRopes$Blocks"
  | 1 => .object "QuarryRopes$Trees"
  | 2 => .object "QuarryRopes$Sledges"
  | 3 => .int
  | 4 => .int
  | _ => .int
abbrev wsX50 : List Cond := u_ws RX5 TX5 6
theorem nmX5 : ∀ a, a < 6 → ∀ b, b < 6 → a ≠ b → (TX5 a).2.1 ≠ (TX5 b).2.1 := by decide +kernel
theorem tyX5_ok : ∀ k, k < 6 → parseFieldDescriptor (TX5 k).2.2.1 = some (tyX5 k) := by decide +kernel
abbrev cX5_init : ByteArray := prog_7_method_1_code
def yX5_init : MethodName := ⟨RX5, "<init>", "()V"⟩
abbrev cX5_makeEmpty : ByteArray := prog_7_method_2_code
def yX5_makeEmpty : MethodName := ⟨RX5, "makeEmpty", "()V"⟩
abbrev cX5_takeOver : ByteArray := prog_7_method_3_code
def yX5_takeOver : MethodName := ⟨RX5, "takeOver", "(LQuarryRopes$Quarry;)V"⟩
abbrev cX5_addBlock : ByteArray := prog_7_method_4_code
def yX5_addBlock : MethodName := ⟨RX5, "addBlock", "(ILQuarryRopes$Reasons;)I"⟩
abbrev cX5_hangOn : ByteArray := prog_7_method_5_code
def yX5_hangOn : MethodName := ⟨RX5, "hangOn", "(IILQuarryRopes$Reasons;)I"⟩
abbrev cX5_cutOff : ByteArray := prog_7_method_6_code
def yX5_cutOff : MethodName := ⟨RX5, "cutOff", "(ILQuarryRopes$Reasons;)I"⟩
abbrev cX5_walkTo : ByteArray := prog_7_method_7_code
def yX5_walkTo : MethodName := ⟨RX5, "walkTo", "(I)I"⟩
abbrev cX5_goUp : ByteArray := prog_7_method_8_code
def yX5_goUp : MethodName := ⟨RX5, "goUp", "(I)I"⟩
abbrev cX5_changeWeight : ByteArray := prog_7_method_9_code
def yX5_changeWeight : MethodName := ⟨RX5, "changeWeight", "(IILQuarryRopes$Reasons;)I"⟩
abbrev cX5_setSledge : ByteArray := prog_7_method_10_code
def yX5_setSledge : MethodName := ⟨RX5, "setSledge", "(ILQuarryRopes$Reasons;)I"⟩
abbrev cX5_pullSledges : ByteArray := prog_7_method_11_code
def yX5_pullSledges : MethodName := ⟨RX5, "pullSledges", "(LQuarryRopes$Reasons;)I"⟩
abbrev cX5_expose : ByteArray := prog_7_method_12_code
def yX5_expose : MethodName := ⟨RX5, "expose", "(I)V"⟩
abbrev cX5_countRopes : ByteArray := prog_7_method_13_code
def yX5_countRopes : MethodName := ⟨RX5, "countRopes", "()I"⟩
abbrev cX5_countRopesUp : ByteArray := prog_7_method_14_code
def yX5_countRopesUp : MethodName := ⟨RX5, "countRopesUp", "(I)I"⟩
abbrev cX5_sumByRopes : ByteArray := prog_7_method_15_code
def yX5_sumByRopes : MethodName := ⟨RX5, "sumByRopes", "(I)I"⟩
abbrev cX5_weightDownTo : ByteArray := prog_7_method_16_code
def yX5_weightDownTo : MethodName := ⟨RX5, "weightDownTo", "(I)I"⟩
abbrev cX5_weightBelow : ByteArray := prog_7_method_17_code
def yX5_weightBelow : MethodName := ⟨RX5, "weightBelow", "(I)I"⟩
abbrev cX5_rootByTops : ByteArray := prog_7_method_18_code
def yX5_rootByTops : MethodName := ⟨RX5, "rootByTops", "(I)I"⟩
abbrev cX5_jointByRopes : ByteArray := prog_7_method_19_code
def yX5_jointByRopes : MethodName := ⟨RX5, "jointByRopes", "(II)I"⟩
abbrev cX5_doWaysAgree : ByteArray := prog_7_method_20_code
def yX5_doWaysAgree : MethodName := ⟨RX5, "doWaysAgree", "()Z"⟩
abbrev cX5_areRopesWell : ByteArray := prog_7_method_21_code
def yX5_areRopesWell : MethodName := ⟨RX5, "areRopesWell", "()Z"⟩
abbrev cX5_timesOnRopes : ByteArray := prog_7_method_22_code
def yX5_timesOnRopes : MethodName := ⟨RX5, "timesOnRopes", "(I)I"⟩
abbrev cX5_isWeight : ByteArray := prog_7_method_23_code
def yX5_isWeight : MethodName := ⟨RX5, "isWeight", "(I)Z"⟩
def RX6 : String := "QuarryRopes$Reasons"
def TX6 : u_T := fun k => match k with
  | 0 => ("QuarryRopes$Reasons", "first", "I", false)
  | 1 => ("QuarryRopes$Reasons", "firstDetail", "I", false)
  | 2 => ("QuarryRopes$Reasons", "behind", "I", false)
  | _ => ("QuarryRopes$Reasons", "behindDetail", "I", false)
def tyX6 : Nat → FieldType := fun k => match k with
  | 0 => .int
  | 1 => .int
  | 2 => .int
  | _ => .int
abbrev wsX60 : List Cond := u_ws RX6 TX6 4
theorem nmX6 : ∀ a, a < 4 → ∀ b, b < 4 → a ≠ b → (TX6 a).2.1 ≠ (TX6 b).2.1 := by decide +kernel
theorem tyX6_ok : ∀ k, k < 4 → parseFieldDescriptor (TX6 k).2.2.1 = some (tyX6 k) := by decide +kernel
abbrev cX6_init : ByteArray := prog_8_method_1_code
def yX6_init : MethodName := ⟨RX6, "<init>", "()V"⟩
abbrev cX6_refuse : ByteArray := prog_8_method_2_code
def yX6_refuse : MethodName := ⟨RX6, "refuse", "(II)I"⟩
abbrev cX6_refuseBefore : ByteArray := prog_8_method_3_code
def yX6_refuseBefore : MethodName := ⟨RX6, "refuseBefore", "(II)I"⟩
abbrev cX6_tell : ByteArray := prog_8_method_4_code
def yX6_tell : MethodName := ⟨RX6, "tell", "(IZ)I"⟩
def RX7 : String := "QuarryRopes$Sledges"
def TX7 : u_T := fun k => match k with
  | 0 => ("QuarryRopes$Sledges", "places", "[I", true)
  | 1 => ("QuarryRopes$Sledges", "loads", "[I", true)
  | 2 => ("QuarryRopes$Sledges", "pulls", "[I", true)
  | 3 => ("QuarryRopes$Sledges", "arrivals", "[I", true)
  | _ => ("QuarryRopes$Sledges", "count", "I", false)
def tyX7 : Nat → FieldType := fun k => match k with
  | 0 => .array .int
  | 1 => .array .int
  | 2 => .array .int
  | 3 => .array .int
  | _ => .int
abbrev wsX70 : List Cond := u_ws RX7 TX7 5
theorem nmX7 : ∀ a, a < 5 → ∀ b, b < 5 → a ≠ b → (TX7 a).2.1 ≠ (TX7 b).2.1 := by decide +kernel
theorem tyX7_ok : ∀ k, k < 5 → parseFieldDescriptor (TX7 k).2.2.1 = some (tyX7 k) := by decide +kernel
abbrev cX7_init : ByteArray := prog_9_method_1_code
def yX7_init : MethodName := ⟨RX7, "<init>", "()V"⟩
abbrev cX7_makeEmpty : ByteArray := prog_9_method_2_code
def yX7_makeEmpty : MethodName := ⟨RX7, "makeEmpty", "()V"⟩
abbrev cX7_takeOver : ByteArray := prog_9_method_3_code
def yX7_takeOver : MethodName := ⟨RX7, "takeOver", "(LQuarryRopes$Sledges;)V"⟩
abbrev cX7_add : ByteArray := prog_9_method_4_code
def yX7_add : MethodName := ⟨RX7, "add", "(II)I"⟩
abbrev cX7_isUnderway : ByteArray := prog_9_method_5_code
def yX7_isUnderway : MethodName := ⟨RX7, "isUnderway", "(I)Z"⟩
abbrev cX7_placeAt : ByteArray := prog_9_method_6_code
def yX7_placeAt : MethodName := ⟨RX7, "placeAt", "(I)I"⟩
abbrev cX7_drag : ByteArray := prog_9_method_7_code
def yX7_drag : MethodName := ⟨RX7, "drag", "(II)V"⟩
abbrev cX7_countUnderway : ByteArray := prog_9_method_8_code
def yX7_countUnderway : MethodName := ⟨RX7, "countUnderway", "()I"⟩
abbrev cX7_countArrived : ByteArray := prog_9_method_9_code
def yX7_countArrived : MethodName := ⟨RX7, "countArrived", "()I"⟩
abbrev cX7_arrivedLoads : ByteArray := prog_9_method_10_code
def yX7_arrivedLoads : MethodName := ⟨RX7, "arrivedLoads", "()I"⟩
abbrev cX7_countAt : ByteArray := prog_9_method_11_code
def yX7_countAt : MethodName := ⟨RX7, "countAt", "(I)I"⟩
abbrev cX7_tell : ByteArray := prog_9_method_12_code
def yX7_tell : MethodName := ⟨RX7, "tell", "(II)I"⟩
def RX8 : String := "QuarryRopes$Trees"
def TX8 : u_T := fun k => match k with
  | 0 => ("QuarryRopes$Trees", "lefts", "[I", true)
  | 1 => ("QuarryRopes$Trees", "rights", "[I", true)
  | 2 => ("QuarryRopes$Trees", "uppers", "[I", true)
  | _ => ("QuarryRopes$Trees", "turns", "I", false)
def tyX8 : Nat → FieldType := fun k => match k with
  | 0 => .array .int
  | 1 => .array .int
  | 2 => .array .int
  | _ => .int
abbrev wsX80 : List Cond := u_ws RX8 TX8 4
theorem nmX8 : ∀ a, a < 4 → ∀ b, b < 4 → a ≠ b → (TX8 a).2.1 ≠ (TX8 b).2.1 := by decide +kernel
theorem tyX8_ok : ∀ k, k < 4 → parseFieldDescriptor (TX8 k).2.2.1 = some (tyX8 k) := by decide +kernel
abbrev cX8_init : ByteArray := prog_10_method_1_code
def yX8_init : MethodName := ⟨RX8, "<init>", "()V"⟩
abbrev cX8_makeEmpty : ByteArray := prog_10_method_2_code
def yX8_makeEmpty : MethodName := ⟨RX8, "makeEmpty", "()V"⟩
abbrev cX8_takeOver : ByteArray := prog_10_method_3_code
def yX8_takeOver : MethodName := ⟨RX8, "takeOver", "(LQuarryRopes$Trees;)V"⟩
abbrev cX8_leftOf : ByteArray := prog_10_method_4_code
def yX8_leftOf : MethodName := ⟨RX8, "leftOf", "(I)I"⟩
abbrev cX8_rightOf : ByteArray := prog_10_method_5_code
def yX8_rightOf : MethodName := ⟨RX8, "rightOf", "(I)I"⟩
abbrev cX8_upperOf : ByteArray := prog_10_method_6_code
def yX8_upperOf : MethodName := ⟨RX8, "upperOf", "(I)I"⟩
abbrev cX8_headOf : ByteArray := prog_10_method_7_code
def yX8_headOf : MethodName := ⟨RX8, "headOf", "(I)I"⟩
abbrev cX8_topOf : ByteArray := prog_10_method_8_code
def yX8_topOf : MethodName := ⟨RX8, "topOf", "(I)I"⟩
abbrev cX8_ahead : ByteArray := prog_10_method_9_code
def yX8_ahead : MethodName := ⟨RX8, "ahead", "(I)I"⟩
abbrev cX8_behind : ByteArray := prog_10_method_10_code
def yX8_behind : MethodName := ⟨RX8, "behind", "(I)I"⟩
abbrev cX8_neighbour : ByteArray := prog_10_method_11_code
def yX8_neighbour : MethodName := ⟨RX8, "neighbour", "([I[II)I"⟩
abbrev cX8_countAbove : ByteArray := prog_10_method_12_code
def yX8_countAbove : MethodName := ⟨RX8, "countAbove", "(I)I"⟩
abbrev cX8_isAtOrBelow : ByteArray := prog_10_method_13_code
def yX8_isAtOrBelow : MethodName := ⟨RX8, "isAtOrBelow", "(II)Z"⟩
abbrev cX8_countBelow : ByteArray := prog_10_method_14_code
def yX8_countBelow : MethodName := ⟨RX8, "countBelow", "(I)I"⟩
abbrev cX8_countAhead : ByteArray := prog_10_method_15_code
def yX8_countAhead : MethodName := ⟨RX8, "countAhead", "(I)I"⟩
abbrev cX8_blockAt : ByteArray := prog_10_method_16_code
def yX8_blockAt : MethodName := ⟨RX8, "blockAt", "(II)I"⟩
abbrev cX8_turn : ByteArray := prog_10_method_17_code
def yX8_turn : MethodName := ⟨RX8, "turn", "(I)V"⟩
abbrev cX8_link : ByteArray := prog_10_method_18_code
def yX8_link : MethodName := ⟨RX8, "link", "([III)V"⟩
abbrev cX8_splay : ByteArray := prog_10_method_19_code
def yX8_splay : MethodName := ⟨RX8, "splay", "(I)V"⟩
abbrev cX8_takeLeftOff : ByteArray := prog_10_method_20_code
def yX8_takeLeftOff : MethodName := ⟨RX8, "takeLeftOff", "(I)V"⟩
abbrev cX8_takeRightOff : ByteArray := prog_10_method_21_code
def yX8_takeRightOff : MethodName := ⟨RX8, "takeRightOff", "(I)V"⟩
abbrev cX8_joinRight : ByteArray := prog_10_method_22_code
def yX8_joinRight : MethodName := ⟨RX8, "joinRight", "(II)V"⟩
def RX9 : String := "QuarryRopes$Word"
def TX9 : u_T := fun k => match k with
  | _ => ("", "", "", false)
def tyX9 : Nat → FieldType := fun k => match k with
  | _ => .int
abbrev wsX90 : List Cond := u_ws RX9 TX9 0
theorem nmX9 : ∀ a, a < 0 → ∀ b, b < 0 → a ≠ b → (TX9 a).2.1 ≠ (TX9 b).2.1 := by decide +kernel
theorem tyX9_ok : ∀ k, k < 0 → parseFieldDescriptor (TX9 k).2.2.1 = some (tyX9 k) := by decide +kernel
def RX10 : String := "QuarryRopes"
def TX10 : u_T := fun k => match k with
  | 0 => ("QuarryRopes", "now", "LQuarryRopes$Quarry;", true)
  | 1 => ("QuarryRopes", "kept", "LQuarryRopes$Quarry;", true)
  | 2 => ("QuarryRopes", "trial", "LQuarryRopes$Quarry;", true)
  | 3 => ("QuarryRopes", "history", "LQuarryRopes$History;", true)
  | 4 => ("QuarryRopes", "input", "LQuarryRopes$Input;", true)
  | 5 => ("QuarryRopes", "line", "LQuarryRopes$Line;", true)
  | 6 => ("QuarryRopes", "reasons", "LQuarryRopes$Reasons;", true)
  | 7 => ("QuarryRopes", "latestFault", "I", false)
  | _ => ("QuarryRopes", "isKept", "Z", false)
def tyX10 : Nat → FieldType := fun k => match k with
  | 0 => .object "QuarryRopes$Quarry"
  | 1 => .object "QuarryRopes$Quarry"
  | 2 => .object "QuarryRopes$Quarry"
  | 3 => .object "QuarryRopes$History"
  | 4 => .object "QuarryRopes$Input"
  | 5 => .object "QuarryRopes$Line"
  | 6 => .object "QuarryRopes$Reasons"
  | 7 => .int
  | _ => .boolean
abbrev wsX100 : List Cond := u_ws RX10 TX10 9
theorem nmX10 : ∀ a, a < 9 → ∀ b, b < 9 → a ≠ b → (TX10 a).2.1 ≠ (TX10 b).2.1 := by decide +kernel
theorem tyX10_ok : ∀ k, k < 9 → parseFieldDescriptor (TX10 k).2.2.1 = some (tyX10 k) := by decide +kernel
abbrev cX10_init : ByteArray := prog_1_method_1_code
def yX10_init : MethodName := ⟨RX10, "<init>", "()V"⟩
abbrev cX10_append : ByteArray := prog_1_method_3_code
def yX10_append : MethodName := ⟨RX10, "append", "(C)I"⟩
abbrev cX10_block : ByteArray := prog_1_method_4_code
def yX10_block : MethodName := ⟨RX10, "block", "(I)I"⟩
abbrev cX10_hang : ByteArray := prog_1_method_5_code
def yX10_hang : MethodName := ⟨RX10, "hang", "(II)I"⟩
abbrev cX10_cut : ByteArray := prog_1_method_6_code
def yX10_cut : MethodName := ⟨RX10, "cut", "(I)I"⟩
abbrev cX10_walk : ByteArray := prog_1_method_7_code
def yX10_walk : MethodName := ⟨RX10, "walk", "(I)I"⟩
abbrev cX10_up : ByteArray := prog_1_method_8_code
def yX10_up : MethodName := ⟨RX10, "up", "(I)I"⟩
abbrev cX10_weigh : ByteArray := prog_1_method_9_code
def yX10_weigh : MethodName := ⟨RX10, "weigh", "(II)I"⟩
abbrev cX10_sledge : ByteArray := prog_1_method_10_code
def yX10_sledge : MethodName := ⟨RX10, "sledge", "(I)I"⟩
abbrev cX10_pull : ByteArray := prog_1_method_11_code
def yX10_pull : MethodName := ⟨RX10, "pull", "()I"⟩
abbrev cX10_read : ByteArray := prog_1_method_12_code
def yX10_read : MethodName := ⟨RX10, "read", "()I"⟩
abbrev cX10_fault : ByteArray := prog_1_method_13_code
def yX10_fault : MethodName := ⟨RX10, "fault", "()I"⟩
abbrev cX10_reason : ByteArray := prog_1_method_14_code
def yX10_reason : MethodName := ⟨RX10, "reason", "(IZ)I"⟩
abbrev cX10_blockOf : ByteArray := prog_1_method_15_code
def yX10_blockOf : MethodName := ⟨RX10, "blockOf", "(II)I"⟩
abbrev cX10_treeOf : ByteArray := prog_1_method_16_code
def yX10_treeOf : MethodName := ⟨RX10, "treeOf", "(II)I"⟩
abbrev cX10_ropeOf : ByteArray := prog_1_method_17_code
def yX10_ropeOf : MethodName := ⟨RX10, "ropeOf", "(II)I"⟩
abbrev cX10_placeOf : ByteArray := prog_1_method_18_code
def yX10_placeOf : MethodName := ⟨RX10, "placeOf", "(I)I"⟩
abbrev cX10_ropes : ByteArray := prog_1_method_19_code
def yX10_ropes : MethodName := ⟨RX10, "ropes", "()I"⟩
abbrev cX10_ropesAbove : ByteArray := prog_1_method_20_code
def yX10_ropesAbove : MethodName := ⟨RX10, "ropesAbove", "(I)I"⟩
abbrev cX10_turnsFor : ByteArray := prog_1_method_21_code
def yX10_turnsFor : MethodName := ⟨RX10, "turnsFor", "(I)I"⟩
abbrev cX10_sum : ByteArray := prog_1_method_22_code
def yX10_sum : MethodName := ⟨RX10, "sum", "(I)I"⟩
abbrev cX10_sumAgain : ByteArray := prog_1_method_23_code
def yX10_sumAgain : MethodName := ⟨RX10, "sumAgain", "(I)I"⟩
abbrev cX10_root : ByteArray := prog_1_method_24_code
def yX10_root : MethodName := ⟨RX10, "root", "(I)I"⟩
abbrev cX10_rootAgain : ByteArray := prog_1_method_25_code
def yX10_rootAgain : MethodName := ⟨RX10, "rootAgain", "(I)I"⟩
abbrev cX10_joint : ByteArray := prog_1_method_26_code
def yX10_joint : MethodName := ⟨RX10, "joint", "(II)I"⟩
abbrev cX10_jointAgain : ByteArray := prog_1_method_27_code
def yX10_jointAgain : MethodName := ⟨RX10, "jointAgain", "(II)I"⟩
abbrev cX10_sledgeOf : ByteArray := prog_1_method_28_code
def yX10_sledgeOf : MethodName := ⟨RX10, "sledgeOf", "(II)I"⟩
abbrev cX10_ranked : ByteArray := prog_1_method_29_code
def yX10_ranked : MethodName := ⟨RX10, "ranked", "(I)I"⟩
abbrev cX10_tellTree : ByteArray := prog_1_method_30_code
def yX10_tellTree : MethodName := ⟨RX10, "tellTree", "(I)I"⟩
abbrev cX10_tellRopes : ByteArray := prog_1_method_31_code
def yX10_tellRopes : MethodName := ⟨RX10, "tellRopes", "()I"⟩
abbrev cX10_written : ByteArray := prog_1_method_32_code
def yX10_written : MethodName := ⟨RX10, "written", "(I)I"⟩
abbrev cX10_isWell : ByteArray := prog_1_method_33_code
def yX10_isWell : MethodName := ⟨RX10, "isWell", "()I"⟩
abbrev cX10_meanDepth : ByteArray := prog_1_method_34_code
def yX10_meanDepth : MethodName := ⟨RX10, "meanDepth", "()F"⟩
abbrev cX10_rootShare : ByteArray := prog_1_method_35_code
def yX10_rootShare : MethodName := ⟨RX10, "rootShare", "()D"⟩
abbrev cX10_account : ByteArray := prog_1_method_36_code
def yX10_account : MethodName := ⟨RX10, "account", "(I)I"⟩
abbrev cX10_undo : ByteArray := prog_1_method_37_code
def yX10_undo : MethodName := ⟨RX10, "undo", "()I"⟩
abbrev cX10_save : ByteArray := prog_1_method_38_code
def yX10_save : MethodName := ⟨RX10, "save", "()I"⟩
abbrev cX10_restore : ByteArray := prog_1_method_39_code
def yX10_restore : MethodName := ⟨RX10, "restore", "()I"⟩
abbrev cX10_settled : ByteArray := prog_1_method_40_code
def yX10_settled : MethodName := ⟨RX10, "settled", "(I)I"⟩
abbrev cX10_carryOut : ByteArray := prog_1_method_41_code
def yX10_carryOut : MethodName := ⟨RX10, "carryOut", "(I)I"⟩
abbrev cX10_writeTree : ByteArray := prog_1_method_42_code
def yX10_writeTree : MethodName := ⟨RX10, "writeTree", "(LQuarryRopes$Line;LQuarryRopes$Trees;II)V"⟩
abbrev cX10_writeRope : ByteArray := prog_1_method_43_code
def yX10_writeRope : MethodName := ⟨RX10, "writeRope", "(I)V"⟩
abbrev cX10_orNothing : ByteArray := prog_1_method_44_code
def yX10_orNothing : MethodName := ⟨RX10, "orNothing", "(I)I"⟩
abbrev cX10_at : ByteArray := prog_1_method_45_code
def yX10_at : MethodName := ⟨RX10, "at", "([II)I"⟩
abbrev cX10_put : ByteArray := prog_1_method_46_code
def yX10_put : MethodName := ⟨RX10, "put", "([III)V"⟩
abbrev cX10_fill : ByteArray := prog_1_method_47_code
def yX10_fill : MethodName := ⟨RX10, "fill", "([II)V"⟩
abbrev cX10_copyRow : ByteArray := prog_1_method_48_code
def yX10_copyRow : MethodName := ⟨RX10, "copyRow", "([I[I)V"⟩
abbrev cX10_lastAlong : ByteArray := prog_1_method_49_code
def yX10_lastAlong : MethodName := ⟨RX10, "lastAlong", "([II)I"⟩
abbrev cX10_stepsAlong : ByteArray := prog_1_method_50_code
def yX10_stepsAlong : MethodName := ⟨RX10, "stepsAlong", "([II)I"⟩
abbrev cX10_isAlong : ByteArray := prog_1_method_51_code
def yX10_isAlong : MethodName := ⟨RX10, "isAlong", "([III)Z"⟩
def RX11 : String := "QuarryRopesModel"
def TX11 : u_T := fun k => match k with
  | _ => ("", "", "", false)
def tyX11 : Nat → FieldType := fun k => match k with
  | _ => .int
abbrev wsX110 : List Cond := u_ws RX11 TX11 0
theorem nmX11 : ∀ a, a < 0 → ∀ b, b < 0 → a ≠ b → (TX11 a).2.1 ≠ (TX11 b).2.1 := by decide +kernel
theorem tyX11_ok : ∀ k, k < 0 → parseFieldDescriptor (TX11 k).2.2.1 = some (tyX11 k) := by decide +kernel
def RJx145de : String := "java/io/Serializable"
def TJx145de : u_T := fun k => match k with
  | _ => ("", "", "", false)
def tyJx145de : Nat → FieldType := fun k => match k with
  | _ => .int
abbrev wsJx145de0 : List Cond := u_ws RJx145de TJx145de 0
theorem nmJx145de : ∀ a, a < 0 → ∀ b, b < 0 → a ≠ b → (TJx145de a).2.1 ≠ (TJx145de b).2.1 := by decide +kernel
theorem tyJx145de_ok : ∀ k, k < 0 → parseFieldDescriptor (TJx145de k).2.2.1 = some (tyJx145de k) := by decide +kernel
def RJ5 : String := "java/lang/AbstractStringBuilder"
def TJ5 : u_T := fun k => match k with
  | _ => ("", "", "", false)
def tyJ5 : Nat → FieldType := fun k => match k with
  | _ => .int
abbrev wsJ50 : List Cond := u_ws RJ5 TJ5 0
theorem nmJ5 : ∀ a, a < 0 → ∀ b, b < 0 → a ≠ b → (TJ5 a).2.1 ≠ (TJ5 b).2.1 := by decide +kernel
theorem tyJ5_ok : ∀ k, k < 0 → parseFieldDescriptor (TJ5 k).2.2.1 = some (tyJ5 k) := by decide +kernel
abbrev cJ5_init_d00df : ByteArray := prog_14_method_2_code
def yJ5_init_d00df : MethodName := ⟨RJ5, "<init>", "(I)V"⟩
abbrev cJ5_length_8abf5 : ByteArray := prog_14_method_6_code
def yJ5_length_8abf5 : MethodName := ⟨RJ5, "length", "()I"⟩
abbrev cJ5_ensureCapacityInternal_d00df : ByteArray := prog_14_method_9_code
def yJ5_ensureCapacityInternal_d00df : MethodName := ⟨RJ5, "ensureCapacityInternal", "(I)V"⟩
abbrev cJ5_newCapacity_0f7a4 : ByteArray := prog_14_method_10_code
def yJ5_newCapacity_0f7a4 : MethodName := ⟨RJ5, "newCapacity", "(I)I"⟩
abbrev cJ5_inflate_da8c8 : ByteArray := prog_14_method_11_code
def yJ5_inflate_da8c8 : MethodName := ⟨RJ5, "inflate", "()V"⟩
abbrev cJ5_append_cf1ce : ByteArray := prog_14_method_22_code
def yJ5_append_cf1ce : MethodName := ⟨RJ5, "append", "(Ljava/lang/String;)Ljava/lang/AbstractStringBuilder;"⟩
abbrev cJ5_appendNull_278bc : ByteArray := prog_14_method_26_code
def yJ5_appendNull_278bc : MethodName := ⟨RJ5, "appendNull", "()Ljava/lang/AbstractStringBuilder;"⟩
abbrev cJ5_append_c97b9 : ByteArray := prog_14_method_32_code
def yJ5_append_c97b9 : MethodName := ⟨RJ5, "append", "(I)Ljava/lang/AbstractStringBuilder;"⟩
abbrev cJ5_getValue_6d5f1 : ByteArray := prog_14_method_64_code
def yJ5_getValue_6d5f1 : MethodName := ⟨RJ5, "getValue", "()[B"⟩
abbrev cJ5_isLatin1_aae02 : ByteArray := prog_14_method_68_code
def yJ5_isLatin1_aae02 : MethodName := ⟨RJ5, "isLatin1", "()Z"⟩
abbrev cJ5_inflateIfNeededFor_a7421 : ByteArray := prog_14_method_71_code
def yJ5_inflateIfNeededFor_a7421 : MethodName := ⟨RJ5, "inflateIfNeededFor", "(Ljava/lang/String;)V"⟩
abbrev cJ5_putStringAt_47b60 : ByteArray := prog_14_method_73_code
def yJ5_putStringAt_47b60 : MethodName := ⟨RJ5, "putStringAt", "(ILjava/lang/String;)V"⟩
def RJx2cfe8 : String := "java/lang/Appendable"
def TJx2cfe8 : u_T := fun k => match k with
  | _ => ("", "", "", false)
def tyJx2cfe8 : Nat → FieldType := fun k => match k with
  | _ => .int
abbrev wsJx2cfe80 : List Cond := u_ws RJx2cfe8 TJx2cfe8 0
theorem nmJx2cfe8 : ∀ a, a < 0 → ∀ b, b < 0 → a ≠ b → (TJx2cfe8 a).2.1 ≠ (TJx2cfe8 b).2.1 := by decide +kernel
theorem tyJx2cfe8_ok : ∀ k, k < 0 → parseFieldDescriptor (TJx2cfe8 k).2.2.1 = some (tyJx2cfe8 k) := by decide +kernel
def RJx9f9b0 : String := "java/lang/CharSequence"
def TJx9f9b0 : u_T := fun k => match k with
  | _ => ("", "", "", false)
def tyJx9f9b0 : Nat → FieldType := fun k => match k with
  | _ => .int
abbrev wsJx9f9b00 : List Cond := u_ws RJx9f9b0 TJx9f9b0 0
theorem nmJx9f9b0 : ∀ a, a < 0 → ∀ b, b < 0 → a ≠ b → (TJx9f9b0 a).2.1 ≠ (TJx9f9b0 b).2.1 := by decide +kernel
theorem tyJx9f9b0_ok : ∀ k, k < 0 → parseFieldDescriptor (TJx9f9b0 k).2.2.1 = some (tyJx9f9b0 k) := by decide +kernel
def RJx8e188 : String := "java/lang/Cloneable"
def TJx8e188 : u_T := fun k => match k with
  | _ => ("", "", "", false)
def tyJx8e188 : Nat → FieldType := fun k => match k with
  | _ => .int
abbrev wsJx8e1880 : List Cond := u_ws RJx8e188 TJx8e188 0
theorem nmJx8e188 : ∀ a, a < 0 → ∀ b, b < 0 → a ≠ b → (TJx8e188 a).2.1 ≠ (TJx8e188 b).2.1 := by decide +kernel
theorem tyJx8e188_ok : ∀ k, k < 0 → parseFieldDescriptor (TJx8e188 k).2.2.1 = some (tyJx8e188 k) := by decide +kernel
def RJxb160c : String := "java/lang/Comparable"
def TJxb160c : u_T := fun k => match k with
  | _ => ("", "", "", false)
def tyJxb160c : Nat → FieldType := fun k => match k with
  | _ => .int
abbrev wsJxb160c0 : List Cond := u_ws RJxb160c TJxb160c 0
theorem nmJxb160c : ∀ a, a < 0 → ∀ b, b < 0 → a ≠ b → (TJxb160c a).2.1 ≠ (TJxb160c b).2.1 := by decide +kernel
theorem tyJxb160c_ok : ∀ k, k < 0 → parseFieldDescriptor (TJxb160c k).2.2.1 = some (tyJxb160c k) := by decide +kernel
def RJxe99ae : String := "java/lang/Double"
def TJxe99ae : u_T := fun k => match k with
  | _ => ("", "", "", false)
def tyJxe99ae : Nat → FieldType := fun k => match k with
  | _ => .int
abbrev wsJxe99ae0 : List Cond := u_ws RJxe99ae TJxe99ae 0
theorem nmJxe99ae : ∀ a, a < 0 → ∀ b, b < 0 → a ≠ b → (TJxe99ae a).2.1 ≠ (TJxe99ae b).2.1 := by decide +kernel
theorem tyJxe99ae_ok : ∀ k, k < 0 → parseFieldDescriptor (TJxe99ae k).2.2.1 = some (tyJxe99ae k) := by decide +kernel
abbrev cJxe99ae_isNaN_b9ae7 : ByteArray := prog_16_method_6_code
def yJxe99ae_isNaN_b9ae7 : MethodName := ⟨RJxe99ae, "isNaN", "(D)Z"⟩
abbrev cJxe99ae_doubleToLongBits_ccdee : ByteArray := prog_16_method_23_code
def yJxe99ae_doubleToLongBits_ccdee : MethodName := ⟨RJxe99ae, "doubleToLongBits", "(D)J"⟩
def RJx29ce0 : String := "java/lang/Enum"
def TJx29ce0 : u_T := fun k => match k with
  | _ => ("", "", "", false)
def tyJx29ce0 : Nat → FieldType := fun k => match k with
  | _ => .int
abbrev wsJx29ce00 : List Cond := u_ws RJx29ce0 TJx29ce0 0
theorem nmJx29ce0 : ∀ a, a < 0 → ∀ b, b < 0 → a ≠ b → (TJx29ce0 a).2.1 ≠ (TJx29ce0 b).2.1 := by decide +kernel
theorem tyJx29ce0_ok : ∀ k, k < 0 → parseFieldDescriptor (TJx29ce0 k).2.2.1 = some (tyJx29ce0 k) := by decide +kernel
abbrev cJx29ce0_ordinal_8abf5 : ByteArray := prog_17_method_2_code
def yJx29ce0_ordinal_8abf5 : MethodName := ⟨RJx29ce0, "ordinal", "()I"⟩
def RJxf58ca : String := "java/lang/Float"
def TJxf58ca : u_T := fun k => match k with
  | _ => ("", "", "", false)
def tyJxf58ca : Nat → FieldType := fun k => match k with
  | _ => .int
abbrev wsJxf58ca0 : List Cond := u_ws RJxf58ca TJxf58ca 0
theorem nmJxf58ca : ∀ a, a < 0 → ∀ b, b < 0 → a ≠ b → (TJxf58ca a).2.1 ≠ (TJxf58ca b).2.1 := by decide +kernel
theorem tyJxf58ca_ok : ∀ k, k < 0 → parseFieldDescriptor (TJxf58ca k).2.2.1 = some (tyJxf58ca k) := by decide +kernel
abbrev cJxf58ca_isNaN_12338 : ByteArray := prog_18_method_6_code
def yJxf58ca_isNaN_12338 : MethodName := ⟨RJxf58ca, "isNaN", "(F)Z"⟩
abbrev cJxf58ca_floatToIntBits_5c35a : ByteArray := prog_18_method_24_code
def yJxf58ca_floatToIntBits_5c35a : MethodName := ⟨RJxf58ca, "floatToIntBits", "(F)I"⟩
def RJ6 : String := "java/lang/Integer"
def TJ6 : u_T := fun k => match k with
  | _ => ("", "", "", false)
def tyJ6 : Nat → FieldType := fun k => match k with
  | _ => .int
abbrev wsJ60 : List Cond := u_ws RJ6 TJ6 0
theorem nmJ6 : ∀ a, a < 0 → ∀ b, b < 0 → a ≠ b → (TJ6 a).2.1 ≠ (TJ6 b).2.1 := by decide +kernel
theorem tyJ6_ok : ∀ k, k < 0 → parseFieldDescriptor (TJ6 k).2.2.1 = some (tyJ6 k) := by decide +kernel
abbrev cJ6_getChars_ba4f3 : ByteArray := prog_19_method_12_code
def yJ6_getChars_ba4f3 : MethodName := ⟨RJ6, "getChars", "(II[B)I"⟩
abbrev cJ6_stringSize_0f7a4 : ByteArray := prog_19_method_13_code
def yJ6_stringSize_0f7a4 : MethodName := ⟨RJ6, "stringSize", "(I)I"⟩
def RJ9 : String := "java/lang/Math"
def TJ9 : u_T := fun k => match k with
  | _ => ("", "", "", false)
def tyJ9 : Nat → FieldType := fun k => match k with
  | _ => .int
abbrev wsJ90 : List Cond := u_ws RJ9 TJ9 0
theorem nmJ9 : ∀ a, a < 0 → ∀ b, b < 0 → a ≠ b → (TJ9 a).2.1 ≠ (TJ9 b).2.1 := by decide +kernel
theorem tyJ9_ok : ∀ k, k < 0 → parseFieldDescriptor (TJ9 k).2.2.1 = some (tyJ9 k) := by decide +kernel
abbrev cJ9_max_7cf53 : ByteArray := prog_20_method_65_code
def yJ9_max_7cf53 : MethodName := ⟨RJ9, "max", "(II)I"⟩
abbrev cJ9_min_7cf53 : ByteArray := prog_20_method_69_code
def yJ9_min_7cf53 : MethodName := ⟨RJ9, "min", "(II)I"⟩
def RJxd2413 : String := "java/lang/Number"
def TJxd2413 : u_T := fun k => match k with
  | _ => ("", "", "", false)
def tyJxd2413 : Nat → FieldType := fun k => match k with
  | _ => .int
abbrev wsJxd24130 : List Cond := u_ws RJxd2413 TJxd2413 0
theorem nmJxd2413 : ∀ a, a < 0 → ∀ b, b < 0 → a ≠ b → (TJxd2413 a).2.1 ≠ (TJxd2413 b).2.1 := by decide +kernel
theorem tyJxd2413_ok : ∀ k, k < 0 → parseFieldDescriptor (TJxd2413 k).2.2.1 = some (tyJxd2413 k) := by decide +kernel
def RJ0 : String := "java/lang/String"
def TJ0 : u_T := fun k => match k with
  | 0 => ("java/lang/String", "value", "[B", true)
  | 1 => ("java/lang/String", "coder", "B", true)
  | 2 => ("java/lang/String", "hash", "I", false)
  | _ => ("java/lang/String", "hashIsZero", "Z", false)
def tyJ0 : Nat → FieldType := fun k => match k with
  | 0 => .array .byte
  | 1 => .byte
  | 2 => .int
  | _ => .boolean
abbrev wsJ00 : List Cond := u_ws RJ0 TJ0 4
theorem nmJ0 : ∀ a, a < 4 → ∀ b, b < 4 → a ≠ b → (TJ0 a).2.1 ≠ (TJ0 b).2.1 := by decide +kernel
theorem tyJ0_ok : ∀ k, k < 4 → parseFieldDescriptor (TJ0 k).2.2.1 = some (tyJ0 k) := by decide +kernel
abbrev cJ0_init_81219 : ByteArray := prog_22_method_53_code
def yJ0_init_81219 : MethodName := ⟨RJ0, "<init>", "(Ljava/lang/StringBuilder;)V"⟩
abbrev cJ0_length_8abf5 : ByteArray := prog_22_method_54_code
def yJ0_length_8abf5 : MethodName := ⟨RJ0, "length", "()I"⟩
abbrev cJ0_charAt_5068e : ByteArray := prog_22_method_56_code
def yJ0_charAt_5068e : MethodName := ⟨RJ0, "charAt", "(I)C"⟩
abbrev cJ0_getBytes_840e7 : ByteArray := prog_22_method_147_code
def yJ0_getBytes_840e7 : MethodName := ⟨RJ0, "getBytes", "([BIB)V"⟩
abbrev cJ0_init_db425 : ByteArray := prog_22_method_150_code
def yJ0_init_db425 : MethodName := ⟨RJ0, "<init>", "(Ljava/lang/AbstractStringBuilder;Ljava/lang/Void;)V"⟩
abbrev cJ0_coder_7d493 : ByteArray := prog_22_method_152_code
def yJ0_coder_7d493 : MethodName := ⟨RJ0, "coder", "()B"⟩
abbrev cJ0_isLatin1_aae02 : ByteArray := prog_22_method_154_code
def yJ0_isLatin1_aae02 : MethodName := ⟨RJ0, "isLatin1", "()Z"⟩
abbrev cJ0_checkIndex_df160 : ByteArray := prog_22_method_155_code
def yJ0_checkIndex_df160 : MethodName := ⟨RJ0, "checkIndex", "(II)V"⟩
abbrev cJ0_checkBoundsOffCount_cabcc : ByteArray := prog_22_method_157_code
def yJ0_checkBoundsOffCount_cabcc : MethodName := ⟨RJ0, "checkBoundsOffCount", "(III)I"⟩
abbrev cJ0_checkBoundsBeginEnd_23922 : ByteArray := prog_22_method_158_code
def yJ0_checkBoundsBeginEnd_23922 : MethodName := ⟨RJ0, "checkBoundsBeginEnd", "(III)V"⟩
def RJ4 : String := "java/lang/StringBuilder"
def TJ4 : u_T := fun k => match k with
  | 0 => ("java/lang/AbstractStringBuilder", "value", "[B", false)
  | 1 => ("java/lang/AbstractStringBuilder", "coder", "B", false)
  | 2 => ("java/lang/AbstractStringBuilder", "maybeLatin1", "Z", false)
  | _ => ("java/lang/AbstractStringBuilder", "count", "I", false)
def tyJ4 : Nat → FieldType := fun k => match k with
  | 0 => .array .byte
  | 1 => .byte
  | 2 => .boolean
  | _ => .int
abbrev wsJ40 : List Cond := u_ws RJ4 TJ4 4
theorem nmJ4 : ∀ a, a < 4 → ∀ b, b < 4 → a ≠ b → (TJ4 a).2.1 ≠ (TJ4 b).2.1 := by decide +kernel
theorem tyJ4_ok : ∀ k, k < 4 → parseFieldDescriptor (TJ4 k).2.2.1 = some (tyJ4 k) := by decide +kernel
abbrev cJ4_init_da8c8 : ByteArray := prog_23_method_1_code
def yJ4_init_da8c8 : MethodName := ⟨RJ4, "<init>", "()V"⟩
abbrev cJ4_append_15ec4 : ByteArray := prog_23_method_7_code
def yJ4_append_15ec4 : MethodName := ⟨RJ4, "append", "(Ljava/lang/String;)Ljava/lang/StringBuilder;"⟩
abbrev cJ4_append_bf812 : ByteArray := prog_23_method_15_code
def yJ4_append_bf812 : MethodName := ⟨RJ4, "append", "(I)Ljava/lang/StringBuilder;"⟩
abbrev cJ4_toString_0e30d : ByteArray := prog_23_method_42_code
def yJ4_toString_0e30d : MethodName := ⟨RJ4, "toString", "()Ljava/lang/String;"⟩
abbrev cJ4_length_8abf5 : ByteArray := prog_23_method_93_code
def yJ4_length_8abf5 : MethodName := ⟨RJ4, "length", "()I"⟩
def RJ1 : String := "java/lang/StringLatin1"
def TJ1 : u_T := fun k => match k with
  | _ => ("", "", "", false)
def tyJ1 : Nat → FieldType := fun k => match k with
  | _ => .int
abbrev wsJ10 : List Cond := u_ws RJ1 TJ1 0
theorem nmJ1 : ∀ a, a < 0 → ∀ b, b < 0 → a ≠ b → (TJ1 a).2.1 ≠ (TJ1 b).2.1 := by decide +kernel
theorem tyJ1_ok : ∀ k, k < 0 → parseFieldDescriptor (TJ1 k).2.2.1 = some (tyJ1 k) := by decide +kernel
abbrev cJ1_charAt_3b067 : ByteArray := prog_24_method_2_code
def yJ1_charAt_3b067 : MethodName := ⟨RJ1, "charAt", "([BI)C"⟩
abbrev cJ1_inflate_0e8fd : ByteArray := prog_24_method_50_code
def yJ1_inflate_0e8fd : MethodName := ⟨RJ1, "inflate", "([BI[BII)V"⟩
def RJ2 : String := "java/lang/StringUTF16"
def TJ2 : u_T := fun k => match k with
  | _ => ("", "", "", false)
def tyJ2 : Nat → FieldType := fun k => match k with
  | _ => .int
abbrev wsJ20 : List Cond := u_ws RJ2 TJ2 0
theorem nmJ2 : ∀ a, a < 0 → ∀ b, b < 0 → a ≠ b → (TJ2 a).2.1 ≠ (TJ2 b).2.1 := by decide +kernel
theorem tyJ2_ok : ∀ k, k < 0 → parseFieldDescriptor (TJ2 k).2.2.1 = some (tyJ2 k) := by decide +kernel
abbrev cJ2_newBytesFor_77867 : ByteArray := prog_25_method_2_code
def yJ2_newBytesFor_77867 : MethodName := ⟨RJ2, "newBytesFor", "(I)[B"⟩
abbrev cJ2_newBytesLength_0f7a4 : ByteArray := prog_25_method_3_code
def yJ2_newBytesLength_0f7a4 : MethodName := ⟨RJ2, "newBytesLength", "(I)I"⟩
abbrev cJ2_putChar_b72d1 : ByteArray := prog_25_method_4_code
def yJ2_putChar_b72d1 : MethodName := ⟨RJ2, "putChar", "([BII)V"⟩
abbrev cJ2_getChar_3b067 : ByteArray := prog_25_method_5_code
def yJ2_getChar_3b067 : MethodName := ⟨RJ2, "getChar", "([BI)C"⟩
abbrev cJ2_length_9d52b : ByteArray := prog_25_method_6_code
def yJ2_length_9d52b : MethodName := ⟨RJ2, "length", "([B)I"⟩
abbrev cJ2_coderFromArrayLen_85cad : ByteArray := prog_25_method_15_code
def yJ2_coderFromArrayLen_85cad : MethodName := ⟨RJ2, "coderFromArrayLen", "([BI)B"⟩
abbrev cJ2_compress_39247 : ByteArray := prog_25_method_17_code
def yJ2_compress_39247 : MethodName := ⟨RJ2, "compress", "([BII)[B"⟩
abbrev cJ2_compress_5af95 : ByteArray := prog_25_method_22_code
def yJ2_compress_5af95 : MethodName := ⟨RJ2, "compress", "([BI[BII)I"⟩
abbrev cJ2_getChars_46870 : ByteArray := prog_25_method_77_code
def yJ2_getChars_46870 : MethodName := ⟨RJ2, "getChars", "(III[B)I"⟩
abbrev cJ2_putCharsAt_cd4e5 : ByteArray := prog_25_method_81_code
def yJ2_putCharsAt_cd4e5 : MethodName := ⟨RJ2, "putCharsAt", "([BICCCC)I"⟩
abbrev cJ2_charAt_3b067 : ByteArray := prog_25_method_83_code
def yJ2_charAt_3b067 : MethodName := ⟨RJ2, "charAt", "([BI)C"⟩
abbrev cJ2_inflate_0e8fd : ByteArray := prog_25_method_86_code
def yJ2_inflate_0e8fd : MethodName := ⟨RJ2, "inflate", "([BI[BII)V"⟩
abbrev cJ2_getChars_ba4f3 : ByteArray := prog_25_method_89_code
def yJ2_getChars_ba4f3 : MethodName := ⟨RJ2, "getChars", "(II[B)I"⟩
abbrev cJ2_checkIndex_2214a : ByteArray := prog_25_method_91_code
def yJ2_checkIndex_2214a : MethodName := ⟨RJ2, "checkIndex", "(I[B)V"⟩
abbrev cJ2_checkBoundsBeginEnd_d044e : ByteArray := prog_25_method_93_code
def yJ2_checkBoundsBeginEnd_d044e : MethodName := ⟨RJ2, "checkBoundsBeginEnd", "(II[B)V"⟩
abbrev cJ2_checkBoundsOffCount_d044e : ByteArray := prog_25_method_94_code
def yJ2_checkBoundsOffCount_d044e : MethodName := ⟨RJ2, "checkBoundsOffCount", "(II[B)V"⟩
def RJ10 : String := "java/lang/System"
def TJ10 : u_T := fun k => match k with
  | _ => ("", "", "", false)
def tyJ10 : Nat → FieldType := fun k => match k with
  | _ => .int
abbrev wsJ100 : List Cond := u_ws RJ10 TJ10 0
theorem nmJ10 : ∀ a, a < 0 → ∀ b, b < 0 → a ≠ b → (TJ10 a).2.1 ≠ (TJ10 b).2.1 := by decide +kernel
theorem tyJ10_ok : ∀ k, k < 0 → parseFieldDescriptor (TJ10 k).2.2.1 = some (tyJ10 k) := by decide +kernel
def RJxfd54e : String := "java/lang/constant/Constable"
def TJxfd54e : u_T := fun k => match k with
  | _ => ("", "", "", false)
def tyJxfd54e : Nat → FieldType := fun k => match k with
  | _ => .int
abbrev wsJxfd54e0 : List Cond := u_ws RJxfd54e TJxfd54e 0
theorem nmJxfd54e : ∀ a, a < 0 → ∀ b, b < 0 → a ≠ b → (TJxfd54e a).2.1 ≠ (TJxfd54e b).2.1 := by decide +kernel
theorem tyJxfd54e_ok : ∀ k, k < 0 → parseFieldDescriptor (TJxfd54e k).2.2.1 = some (tyJxfd54e k) := by decide +kernel
def RJx3cf43 : String := "java/lang/constant/ConstantDesc"
def TJx3cf43 : u_T := fun k => match k with
  | _ => ("", "", "", false)
def tyJx3cf43 : Nat → FieldType := fun k => match k with
  | _ => .int
abbrev wsJx3cf430 : List Cond := u_ws RJx3cf43 TJx3cf43 0
theorem nmJx3cf43 : ∀ a, a < 0 → ∀ b, b < 0 → a ≠ b → (TJx3cf43 a).2.1 ≠ (TJx3cf43 b).2.1 := by decide +kernel
theorem tyJx3cf43_ok : ∀ k, k < 0 → parseFieldDescriptor (TJx3cf43 k).2.2.1 = some (tyJx3cf43 k) := by decide +kernel
def RJ7 : String := "java/util/Arrays"
def TJ7 : u_T := fun k => match k with
  | _ => ("", "", "", false)
def tyJ7 : Nat → FieldType := fun k => match k with
  | _ => .int
abbrev wsJ70 : List Cond := u_ws RJ7 TJ7 0
theorem nmJ7 : ∀ a, a < 0 → ∀ b, b < 0 → a ≠ b → (TJ7 a).2.1 ≠ (TJ7 b).2.1 := by decide +kernel
theorem tyJ7_ok : ∀ k, k < 0 → parseFieldDescriptor (TJ7 k).2.2.1 = some (tyJ7 k) := by decide +kernel
abbrev cJ7_copyOf_9075b : ByteArray := prog_27_method_121_code
def yJ7_copyOf_9075b : MethodName := ⟨RJ7, "copyOf", "([BI)[B"⟩
abbrev cJ7_checkLength_df160 : ByteArray := prog_27_method_131_code
def yJ7_checkLength_df160 : MethodName := ⟨RJ7, "checkLength", "(II)V"⟩
abbrev cJ7_copyOfRange_39247 : ByteArray := prog_27_method_132_code
def yJ7_copyOfRange_39247 : MethodName := ⟨RJ7, "copyOfRange", "([BII)[B"⟩
abbrev cJ7_copyOfRangeByte_39247 : ByteArray := prog_27_method_133_code
def yJ7_copyOfRangeByte_39247 : MethodName := ⟨RJ7, "copyOfRangeByte", "([BII)[B"⟩
def RJ8 : String := "jdk/internal/util/ArraysSupport"
def TJ8 : u_T := fun k => match k with
  | _ => ("", "", "", false)
def tyJ8 : Nat → FieldType := fun k => match k with
  | _ => .int
abbrev wsJ80 : List Cond := u_ws RJ8 TJ8 0
theorem nmJ8 : ∀ a, a < 0 → ∀ b, b < 0 → a ≠ b → (TJ8 a).2.1 ≠ (TJ8 b).2.1 := by decide +kernel
theorem tyJ8_ok : ∀ k, k < 0 → parseFieldDescriptor (TJ8 k).2.2.1 = some (tyJ8 k) := by decide +kernel
abbrev cJ8_newLength_cabcc : ByteArray := prog_28_method_27_code
def yJ8_newLength_cabcc : MethodName := ⟨RJ8, "newLength", "(III)I"⟩
abbrev cJ8_hugeLength_7cf53 : ByteArray := prog_28_method_28_code
def yJ8_hugeLength_7cf53 : MethodName := ⟨RJ8, "hugeLength", "(II)I"⟩
def RJ3 : String := "jdk/internal/util/Preconditions"
def TJ3 : u_T := fun k => match k with
  | _ => ("", "", "", false)
def tyJ3 : Nat → FieldType := fun k => match k with
  | _ => .int
abbrev wsJ30 : List Cond := u_ws RJ3 TJ3 0
theorem nmJ3 : ∀ a, a < 0 → ∀ b, b < 0 → a ≠ b → (TJ3 a).2.1 ≠ (TJ3 b).2.1 := by decide +kernel
theorem tyJ3_ok : ∀ k, k < 0 → parseFieldDescriptor (TJ3 k).2.2.1 = some (tyJ3 k) := by decide +kernel
abbrev cJ3_checkIndex_8e157 : ByteArray := prog_29_method_11_code
def yJ3_checkIndex_8e157 : MethodName := ⟨RJ3, "checkIndex", "(IILjava/util/function/BiFunction;)I"⟩
abbrev cJ3_checkFromToIndex_8c36e : ByteArray := prog_29_method_12_code
def yJ3_checkFromToIndex_8c36e : MethodName := ⟨RJ3, "checkFromToIndex", "(IIILjava/util/function/BiFunction;)I"⟩
abbrev cJ3_checkFromIndexSize_8c36e : ByteArray := prog_29_method_13_code
def yJ3_checkFromIndexSize_8c36e : MethodName := ⟨RJ3, "checkFromIndexSize", "(IIILjava/util/function/BiFunction;)I"⟩
def RL : String := "QuarryRopesLaw"
abbrev cL_at : ByteArray := method_2_code
def yL_at : MethodName := ⟨RL, "at", "([II)I"⟩
abbrev cL_some : ByteArray := method_3_code
def yL_some : MethodName := ⟨RL, "some", "(II)I"⟩
abbrev cL_reads : ByteArray := method_4_code
def yL_reads : MethodName := ⟨RL, "reads", "(LQuarryRopes;Ljava/lang/String;)I"⟩
abbrev cL_is : ByteArray := method_5_code
def yL_is : MethodName := ⟨RL, "is", "(LQuarryRopes;II)Z"⟩
abbrev cL_isSeven : ByteArray := method_6_code
def yL_isSeven : MethodName := ⟨RL, "isSeven", "(LQuarryRopes;III)Z"⟩
abbrev cL_makes : ByteArray := method_8_code
def yL_makes : MethodName := ⟨RL, "makes", "(LQuarryRopes;[I)Z"⟩
abbrev cL_asks : ByteArray := method_9_code
def yL_asks : MethodName := ⟨RL, "asks", "(LQuarryRopes;)J"⟩
abbrev cL_changes : ByteArray := method_10_code
def yL_changes : MethodName := ⟨RL, "changes", "(LQuarryRopes;I)Z"⟩
abbrev cL_refused : ByteArray := method_11_code
def yL_refused : MethodName := ⟨RL, "refused", "(LQuarryRopes;)Z"⟩
abbrev cL_law : ByteArray := code
def yL_law : MethodName := ⟨RL, "law", "([I)Z"⟩
abbrev vwCl : List vw_C := [(RJ0, TJ0, 4), (RJ4, TJ4, 4), (RX1, TX1, 3), (RX2, TX2, 3), (RX3, TX3, 7), (RX4, TX4, 2), (RX5, TX5, 6), (RX6, TX6, 4), (RX7, TX7, 5), (RX8, TX8, 4), (RX10, TX10, 9)]
/-- all the tables' words that a method may hand on -/
def qG : List Cond := lw_tbl.filter goodWord
theorem qG_in {w : Cond} (i : Nat) (h : lw_tbl[i]? = some w) (hg : goodWord w = true) : w ∈ qG := List.mem_filter.mpr ⟨List.mem_of_getElem? h, hg⟩
theorem qT0_in {w : Cond} (i : Nat) (h : (k2_sels lw_privs)[i]? = some w) (hg : goodWord w = true) : w ∈ qG := List.mem_filter.mpr ⟨List.mem_append_left _ (List.mem_of_getElem? h), hg⟩
theorem qT1_in {w : Cond} (i : Nat) (h : tables_1_1[i]? = some w) (hg : goodWord w = true) : w ∈ qG := List.mem_filter.mpr ⟨List.mem_append_right _ (List.mem_append_left _ (List.mem_of_getElem? h)), hg⟩
theorem qT2_in {w : Cond} (i : Nat) (h : tables_1_2[i]? = some w) (hg : goodWord w = true) : w ∈ qG := List.mem_filter.mpr ⟨List.mem_append_right _ (List.mem_append_right _ (List.mem_append_left _ (List.mem_of_getElem? h))), hg⟩
theorem qT3_in {w : Cond} (i : Nat) (h : tables_1_3[i]? = some w) (hg : goodWord w = true) : w ∈ qG := List.mem_filter.mpr ⟨List.mem_append_right _ (List.mem_append_right _ (List.mem_append_right _ (List.mem_append_left _ (List.mem_of_getElem? h)))), hg⟩
theorem qT4_in {w : Cond} (i : Nat) (h : tables_1_4[i]? = some w) (hg : goodWord w = true) : w ∈ qG := List.mem_filter.mpr ⟨List.mem_append_right _ (List.mem_append_right _ (List.mem_append_right _ (List.mem_append_right _ (List.mem_append_left _ (List.mem_of_getElem? h))))), hg⟩
theorem qT5_in {w : Cond} (i : Nat) (h : tables_1_5[i]? = some w) (hg : goodWord w = true) : w ∈ qG := List.mem_filter.mpr ⟨List.mem_append_right _ (List.mem_append_right _ (List.mem_append_right _ (List.mem_append_right _ (List.mem_append_right _ (List.mem_append_left _ (List.mem_of_getElem? h)))))), hg⟩
theorem qT6_in {w : Cond} (i : Nat) (h : tables_1_6[i]? = some w) (hg : goodWord w = true) : w ∈ qG := List.mem_filter.mpr ⟨List.mem_append_right _ (List.mem_append_right _ (List.mem_append_right _ (List.mem_append_right _ (List.mem_append_right _ (List.mem_append_right _ (List.mem_of_getElem? h)))))), hg⟩
theorem qG_good {w : Cond} (h : w ∈ qG) : goodWord w = true := (List.mem_filter.mp h).2
end
section
/-! THE MODEL HEAP: addresses and what lies there; the rows over it. -/
abbrev qM : Type := Nat → Option va_E
abbrev qC : Type := Nat → ClassId
def qT (cs : qC) : List (ClassId × FieldType) := [(cs 0, .int), (cs 1, .object RX5), (cs 2, .object RX9), (cs 3, .long), (cs 4, .byte)]
/-- the links to members of nest mates that the class and its parts use -/
def qNL : List Cond := [
  .methodLinkNest "QuarryRopes$Quarry" 11 ({ cls := "QuarryRopes$Blocks", name := "<init>", desc := "()V" } : MethodName) "QuarryRopes",
  .fieldLinkNest "QuarryRopes$Quarry" 111 "QuarryRopes$Blocks" "weights" "[I" "QuarryRopes",
  .fieldLinkNest "QuarryRopes$Quarry" 88 "QuarryRopes$Blocks" "holders" "[I" "QuarryRopes",
  .fieldLinkNest "QuarryRopes$Quarry" 62 "QuarryRopes$Blocks" "count" "I" "QuarryRopes",
  .fieldLinkNest "QuarryRopes" 62 "QuarryRopes$Blocks" "count" "I" "QuarryRopes",
  .methodLinkNest "QuarryRopes$Quarry" 20 ({ cls := "QuarryRopes$Trees", name := "<init>", desc := "()V" } : MethodName) "QuarryRopes",
  .fieldLinkNest "QuarryRopes" 224 "QuarryRopes$Trees" "turns" "I" "QuarryRopes",
  .methodLinkNest "QuarryRopes$Quarry" 27 ({ cls := "QuarryRopes$Sledges", name := "<init>", desc := "()V" } : MethodName) "QuarryRopes",
  .fieldLinkNest "QuarryRopes$Quarry" 114 "QuarryRopes$Sledges" "count" "I" "QuarryRopes",
  .methodLinkNest "QuarryRopes$Blocks" 22 ({ cls := "QuarryRopes", name := "fill", desc := "([II)V" } : MethodName) "QuarryRopes",
  .methodLinkNest "QuarryRopes$Trees" 25 ({ cls := "QuarryRopes", name := "fill", desc := "([II)V" } : MethodName) "QuarryRopes",
  .methodLinkNest "QuarryRopes$Sledges" 28 ({ cls := "QuarryRopes", name := "fill", desc := "([II)V" } : MethodName) "QuarryRopes",
  .fieldLinkNest "QuarryRopes" 58 "QuarryRopes$Quarry" "blocks" "LQuarryRopes$Blocks;" "QuarryRopes",
  .fieldLinkNest "QuarryRopes" 177 "QuarryRopes$Quarry" "trees" "LQuarryRopes$Trees;" "QuarryRopes",
  .fieldLinkNest "QuarryRopes" 168 "QuarryRopes$Quarry" "sledges" "LQuarryRopes$Sledges;" "QuarryRopes",
  .fieldLinkNest "QuarryRopes" 286 "QuarryRopes$Quarry" "exposings" "I" "QuarryRopes",
  .fieldLinkNest "QuarryRopes" 289 "QuarryRopes$Quarry" "hangings" "I" "QuarryRopes",
  .fieldLinkNest "QuarryRopes" 292 "QuarryRopes$Quarry" "cuttings" "I" "QuarryRopes",
  .fieldLinkNest "QuarryRopes" 305 "QuarryRopes$History" "count" "I" "QuarryRopes",
  .methodLinkNest "QuarryRopes" 31 ({ cls := "QuarryRopes$Input", name := "<init>", desc := "()V" } : MethodName) "QuarryRopes",
  .fieldLinkNest "QuarryRopes" 314 "QuarryRopes$Input" "firsts" "[I" "QuarryRopes",
  .fieldLinkNest "QuarryRopes" 322 "QuarryRopes$Input" "seconds" "[I" "QuarryRopes",
  .fieldLinkNest "QuarryRopes" 304 "QuarryRopes$Input" "length" "I" "QuarryRopes",
  .fieldLinkNest "QuarryRopes" 120 "QuarryRopes$Input" "commands" "I" "QuarryRopes",
  .fieldLinkNest "QuarryRopes" 117 "QuarryRopes$Input" "place" "I" "QuarryRopes",
  .methodLinkNest "QuarryRopes" 38 ({ cls := "QuarryRopes$Line", name := "<init>", desc := "()V" } : MethodName) "QuarryRopes",
  .fieldLinkNest "QuarryRopes" 255 "QuarryRopes$Line" "length" "I" "QuarryRopes",
  .methodLinkNest "QuarryRopes" 45 ({ cls := "QuarryRopes$Reasons", name := "<init>", desc := "()V" } : MethodName) "QuarryRopes",
  .methodLinkNest "QuarryRopes$Input" 31 ({ cls := "QuarryRopes", name := "put", desc := "([III)V" } : MethodName) "QuarryRopes",
  .methodLinkNest "QuarryRopes$Blocks" 26 ({ cls := "QuarryRopes", name := "copyRow", desc := "([I[I)V" } : MethodName) "QuarryRopes",
  .methodLinkNest "QuarryRopes$Trees" 29 ({ cls := "QuarryRopes", name := "copyRow", desc := "([I[I)V" } : MethodName) "QuarryRopes",
  .methodLinkNest "QuarryRopes$Sledges" 32 ({ cls := "QuarryRopes", name := "copyRow", desc := "([I[I)V" } : MethodName) "QuarryRopes",
  .methodLinkNest "QuarryRopes$Blocks" 30 ({ cls := "QuarryRopes", name := "put", desc := "([III)V" } : MethodName) "QuarryRopes",
  .methodLinkNest "QuarryRopes$Blocks" 34 ({ cls := "QuarryRopes", name := "at", desc := "([II)I" } : MethodName) "QuarryRopes",
  .methodLinkNest "QuarryRopes$Blocks" 41 ({ cls := "QuarryRopes", name := "lastAlong", desc := "([II)I" } : MethodName) "QuarryRopes",
  .methodLinkNest "QuarryRopes$Trees" 33 ({ cls := "QuarryRopes", name := "at", desc := "([II)I" } : MethodName) "QuarryRopes",
  .methodLinkNest "QuarryRopes$Trees" 78 ({ cls := "QuarryRopes", name := "put", desc := "([III)V" } : MethodName) "QuarryRopes",
  .methodLinkNest "QuarryRopes$Trees" 37 ({ cls := "QuarryRopes", name := "lastAlong", desc := "([II)I" } : MethodName) "QuarryRopes",
  .methodLinkNest "QuarryRopes$Quarry" 92 ({ cls := "QuarryRopes", name := "put", desc := "([III)V" } : MethodName) "QuarryRopes",
  .methodLinkNest "QuarryRopes$Blocks" 38 ({ cls := "QuarryRopes", name := "stepsAlong", desc := "([II)I" } : MethodName) "QuarryRopes",
  .methodLinkNest "QuarryRopes$Sledges" 36 ({ cls := "QuarryRopes", name := "put", desc := "([III)V" } : MethodName) "QuarryRopes",
  .methodLinkNest "QuarryRopes$Sledges" 40 ({ cls := "QuarryRopes", name := "at", desc := "([II)I" } : MethodName) "QuarryRopes",
  .fieldLinkNest "QuarryRopes$Input" 64 "QuarryRopes" "WORDS" "[LQuarryRopes$Word;" "QuarryRopes",
  .methodLinkNest "QuarryRopes$Input" 96 ({ cls := "QuarryRopes", name := "at", desc := "([II)I" } : MethodName) "QuarryRopes",
  .methodLinkNest "QuarryRopes$Blocks" 51 ({ cls := "QuarryRopes", name := "isAlong", desc := "([III)Z" } : MethodName) "QuarryRopes",
  .methodLinkNest "QuarryRopes$Trees" 51 ({ cls := "QuarryRopes", name := "stepsAlong", desc := "([II)I" } : MethodName) "QuarryRopes",
  .methodLinkNest "QuarryRopes$Trees" 54 ({ cls := "QuarryRopes", name := "isAlong", desc := "([III)Z" } : MethodName) "QuarryRopes",
  .methodLinkNest "QuarryRopes$Line" 19 ({ cls := "QuarryRopes", name := "put", desc := "([III)V" } : MethodName) "QuarryRopes",
  .methodLinkNest "QuarryRopes$Line" 27 ({ cls := "QuarryRopes", name := "at", desc := "([II)I" } : MethodName) "QuarryRopes",
  .fieldLinkNest "QuarryRopes$Input" 67 "QuarryRopes$Word" "text" "Ljava/lang/String;" "QuarryRopes",
  .fieldLinkNest "QuarryRopes$Input" 53 "QuarryRopes$Word" "numbers" "I" "QuarryRopes"]
def qIsNest : Cond → Bool
  | .fieldLinkNest .. => true
  | .methodLinkNest .. => true
  | _ => false
theorem qNL_nest : ∀ w ∈ qNL, qIsNest w = true := by decide +kernel
def qP (D : va_G) (M : qM) (H : Heap) : Prop := ∀ (a : Nat) (e : va_E), M a = some e → va_at D vwCl (a, e) H
def qK (D : va_G) (cs : qC) (U : State) : Prop := va_K D vwCl (qT cs) U ∧ ∀ w ∈ qNL, va_Nw w U
def qA (M0 : qM) (N0 : Nat) : Nat → Prop := fun q => M0 q ≠ none ∨ N0 ≤ q
/-- inside a walk: the model M stands in the heap H of N cells, out of the start M0 in H0 -/
def qI (D : va_G) (M0 : qM) (H0 : Heap) (M : qM) (N : Nat) (H : Heap) (locs : List Loc) : Prop :=
  qP D M H ∧ H.size = N ∧ (∀ a e, M a = some e → qA M0 H0.size a) ∧ va_S (qA M0 H0.size) H0 H locs
def qUp (M : qM) (a : Nat) (e : va_E) : qM := fun q => if q = a then some e else M q
theorem qUp_at (M : qM) (a : Nat) (e : va_E) : qUp M a e a = some e := by simp [qUp]
theorem qUp_ne {M : qM} {a q : Nat} {e : va_E} (h : q ≠ a) : qUp M a e q = M q := by simp [qUp, h]
def qPc (D : va_G) (cs : qC) (M : qM) (N : Nat) (av : List Value) : Array Value → State → Prop := fun v U => v = av.toArray ∧ qP D M U.heap ∧ qK D cs U ∧ U.heap.size = N
def qQ (D : va_G) (M : qM) (N : Nat) (post : Option Value → qM → Nat → Prop) : Array Value → State → Outcome → State → Prop := fun _ st oc t =>
  ∃ (r : Option Value) (M' : qM) (N' : Nat), oc = .returned r ∧ post r M' N' ∧ qP D M' t.heap ∧ t.heap.size = N' ∧ (∀ a e, M' a = some e → qA M N a) ∧ N ≤ N' ∧ ∀ q : Nat, q < N → ¬ qA M N q → t.heap[q]? = st.heap[q]?
abbrev qMet (l : Launch) (D : va_G) (cs : qC) (y : MethodName) (ws : List Cond) (rm : Room) (M : qM) (N : Nat) (av : List Value) (post : Option Value → qM → Nat → Prop) (mc ms : Nat) : Prop :=
  Met l y ws rm (qPc D cs M N av) (qQ D M N post) mc ms (qA M N)
/-- an answer, and nothing changed -/
abbrev qRet (M : qM) (N : Nat) (v : Value) : Option Value → qM → Nat → Prop := fun r M' N' => r = some v ∧ M' = M ∧ N' = N
theorem qNw_warm {w : Cond} (h : qIsNest w = true) {s U : State} (hW : s.WarmedH U.vm) (hZ : va_Nw w s) : va_Nw w U := by
  cases w <;> first | exact va_Nw.warmF hW hZ | exact va_Nw.warmM hW hZ | cases h
theorem qNw_same {w : Cond} (h : qIsNest w = true) {s U : State} (hv : s.vm = U.vm) (hZ : va_Nw w s) : va_Nw w U := by
  cases w <;> first | exact va_Nw.same rfl hv hZ | cases h
theorem qK.warm {D : va_G} {cs : qC} {s U : State} (h : qK D cs s) (hW : s.WarmedH U.vm) : qK D cs U := ⟨va_K.moved hW.alike h.1, fun w hw => qNw_warm (qNL_nest w hw) hW (h.2 w hw)⟩
theorem qK.calling {D : va_G} {cs : qC} {U : State} {g : JFrame} {mk : MethodId} {a : Array Value} (h : qK D cs U) : qK D cs (U.calling g mk a) :=
  ⟨va_K.moved (u := U) (U := U.calling g mk a) (Vm.Alike.refl U.vm) h.1, fun w hw => qNw_same (qNL_nest w hw) (rfl : U.vm = (U.calling g mk a).vm) (h.2 w hw)⟩
theorem qPc_blind {D : va_G} {cs : qC} {M : qM} {N : Nat} {av : List Value} : FrameBlind (qPc D cs M N av) := fun _ _ _ _ q => ⟨q.1, q.2.1, q.2.2.1.calling, q.2.2.2⟩
theorem qP_one {D : va_G} {M : qM} {H : Heap} (h : qP D M H) {a : Nat} {e : va_E} (hM : M a = some e) : va_P D vwCl [(a, e)] H := fun k q hk => by
  cases k with
  | zero => cases hk; exact h a e hM
  | succ k => simp at hk
theorem qI.start {D : va_G} {cs : qC} {M : qM} {N : Nat} {av : List Value} {v : Array Value} {s : State} (h : qPc D cs M N av v s) : qI D M s.heap M N s.heap [] :=
  ⟨h.2.1, h.2.2.2, fun _ _ he => Or.inl (by rw [he]; exact fun z => by cases z), va_S.rf⟩
theorem qI.in {D : va_G} {M0 M : qM} {H0 H : Heap} {N a : Nat} {e : va_E} {locs : List Loc} (h : qI D M0 H0 M N H locs) (hM : M a = some e) : qA M0 H0.size a := h.2.2.1 a e hM
theorem qI.sub {D : va_G} {M0 M : qM} {H0 H : Heap} {N : Nat} {locs : List Loc} (h : qI D M0 H0 M N H locs) : ∀ q, qA M N q → qA M0 H0.size q := fun q hq => by
  rcases hq with hq | hq
  · cases hm : M q with
    | none => exact absurd hm hq
    | some e => exact h.2.2.1 q e hm
  · exact Or.inr (Nat.le_trans h.2.2.2.1 (by rw [h.2.1]; exact hq))
/-- a cell is written -/
theorem qI.put {D : va_G} {M0 M : qM} {H0 H H1 : Heap} {N a k : Nat} {e0 e : va_E} {locs : List Loc} (h : qI D M0 H0 M N H locs) (hM : M a = some e0) (he : va_at D vwCl (a, e) H1) (z : H1.size = H.size) (oq : ∀ q : Nat, q ≠ a → H1[q]? = H[q]?) :
    qI D M0 H0 (qUp M a e) N H1 (locs ++ [⟨a, k⟩]) := by
  refine ⟨fun x ex hx => ?_, z.trans h.2.1, fun x ex hx => ?_, h.2.2.2.put z oq (h.in hM)⟩
  · by_cases hxa : x = a
    · subst hxa; rw [qUp_at] at hx; cases hx; exact he
    · rw [qUp_ne hxa] at hx; exact (h.1 x ex hx).kept (oq x hxa)
  · by_cases hxa : x = a
    · subst hxa; exact h.in hM
    · rw [qUp_ne hxa] at hx; exact h.2.2.1 x ex hx
/-- a cell is made -/
theorem qI.push {D : va_G} {M0 M : qM} {H0 H H1 : Heap} {N : Nat} {e : va_E} {locs : List Loc} (h : qI D M0 H0 M N H locs) (he : va_at D vwCl (N, e) H1) (z : H1.size = H.size + 1) (oq : ∀ q : Nat, q < H.size → H1[q]? = H[q]?) :
    qI D M0 H0 (qUp M N e) (N + 1) H1 locs := by
  have hle := h.2.2.2.1
  have hN := h.2.1
  refine ⟨fun x ex hx => ?_, by omega, fun x ex hx => ?_, ⟨by omega, fun q h1 h2 => (oq q (by omega)).trans (h.2.2.2.2.1 q h1 h2), h.2.2.2.2.2⟩⟩
  · by_cases hxa : x = N
    · subst hxa; rw [qUp_at] at hx; cases hx; exact he
    · rw [qUp_ne hxa] at hx
      exact (h.1 x ex hx).kept (oq x (h.1 x ex hx).lt)
  · by_cases hxa : x = N
    · subst hxa; exact Or.inr (by omega)
    · rw [qUp_ne hxa] at hx; exact h.2.2.1 x ex hx
/-- the end of a method -/
theorem qI.end {D : va_G} {M0 M : qM} {N0 N : Nat} {H : Heap} {locs : List Loc} {s t : State} {post : Option Value → qM → Nat → Prop} {r : Option Value} {av : Array Value} (h : qI D M0 s.heap M N H locs) (hN : s.heap.size = N0) (hp : post r M N) (ht : t.heap = H) : qQ D M0 N0 post av s (.returned r) t := by
  subst hN; subst ht
  exact ⟨r, M, N, rfl, hp, h.1, h.2.1, h.2.2.1, by rw [← h.2.1]; exact h.2.2.2.1, fun q h1 h2 => h.2.2.2.2.1 q h1 h2⟩
/-- behind a call -/
theorem qI.call {D : va_G} {M0 M M' : qM} {H0 H H1 : Heap} {N N' : Nat} {locs L : List Loc} (h : qI D M0 H0 M N H locs) (hP : qP D M' H1) (hz : H1.size = N') (hd : ∀ a e, M' a = some e → qA M N a) (hle : N ≤ N') (hk : ∀ q : Nat, q < N → ¬ qA M N q → H1[q]? = H[q]?) (hL : ∀ q ∈ L, qA M N q.base) :
    qI D M0 H0 M' N' H1 (locs ++ L) := by
  have h1 := h.2.2.2.1
  have h2 := h.2.1
  refine ⟨hP, hz, fun a e he => h.sub a (hd a e he), ⟨by omega, fun q q1 q2 => ?_, fun q hq => ?_⟩⟩
  · rw [hk q (by omega) (fun z => q2 (h.sub q z))]
    exact h.2.2.2.2.1 q q1 q2
  · rcases List.mem_append.mp hq with z | z
    · exact h.2.2.2.2.2 q z
    · exact h.sub _ (hL q z)
section QQ
variable {p : Program} {l : Launch} {e : Env} {R : Room} {s : State} {m : MethodId} {args : Array Value} {below : List Frame} {meth : Method} {c : Code} {H : Heap} {locs : List Loc} {cells slots : Nat} {Q : State → Prop}
variable {cc : ByteArray} {pc : Nat} {ls : Array Slot} {rest : List Value} {D : va_G} {cs : qC} {M0 M : qM} {N a : Nat}
theorem q_get (hexec : p.tables.exec = Jvm.exec) (hb : c.code = cc) {own ref C : String} {T : u_T} {NN ci index : Nat} {Ts : List Cond} (hts : ∀ w ∈ Ts, w.before args s = true) (hin : ∀ w ∈ u_ws C T NN, w ∈ Ts) (hown : s.vm.findClass own = some m.cls) (hK : qK D cs s) (hI : qI D M0 s.heap M N H locs) {fs : List Value} (hM : M a = some (.inr (ci, fs))) (hc : vwCl[ci]? = some (C, T, NN)) (k : Nat) (hk : k < NN) (hlink : (Cond.fieldLink own index ref (T k).2.1 (T k).2.2.1).before args s = true) (hsame : ∀ x, s.fieldFound? (T k).1 (T k).2.1 (T k).2.2.1 = some x → s.fieldFound? ref (T k).2.1 (T k).2.2.1 = some x) {v : Value} (hv : fs[k]? = some v) (hdg : decode cc pc = .ok (.getfield index, 3))
    (kk : W p l e R s m args below meth c H locs cells slots Q (F0 m (pc + 3) ls (v :: rest))) : W p l e R s m args below meth c H locs cells slots Q (F0 m pc ls (.ref a :: rest)) :=
  va_get hexec hb hts hin hown hK.1 (qP_one hI.1 hM) 0 rfl hc k hk hlink hsame hv hdg kk
theorem q_getN (hexec : p.tables.exec = Jvm.exec) (hb : c.code = cc) {own ref C host : String} {T : u_T} {NN ci index : Nat} {Ts : List Cond} (hts : ∀ w ∈ Ts, w.before args s = true) (hin : ∀ w ∈ u_ws C T NN, w ∈ Ts) (hown : s.vm.findClass own = some m.cls) (hK : qK D cs s) (hI : qI D M0 s.heap M N H locs) {fs : List Value} (hM : M a = some (.inr (ci, fs))) (hc : vwCl[ci]? = some (C, T, NN)) (k : Nat) (hk : k < NN) (hlink : va_Nw (.fieldLinkNest own index ref (T k).2.1 (T k).2.2.1 host) s) (hsame : ∀ x, s.fieldFound? (T k).1 (T k).2.1 (T k).2.2.1 = some x → s.fieldFound? ref (T k).2.1 (T k).2.2.1 = some x) {v : Value} (hv : fs[k]? = some v) (hdg : decode cc pc = .ok (.getfield index, 3))
    (kk : W p l e R s m args below meth c H locs cells slots Q (F0 m (pc + 3) ls (v :: rest))) : W p l e R s m args below meth c H locs cells slots Q (F0 m pc ls (.ref a :: rest)) :=
  va_getN hexec hb hts hin hown hK.1 (qP_one hI.1 hM) 0 rfl hc k hk (va_Nw.use rfl hlink) hsame hv hdg kk
theorem q_put (hexec : p.tables.exec = Jvm.exec) (hb : c.code = cc) {own ref C : String} {T : u_T} {NN ci index : Nat} {Ts : List Cond} (hts : ∀ w ∈ Ts, w.before args s = true) (hin : ∀ w ∈ u_ws C T NN, w ∈ Ts) {ty0 : Nat → FieldType} (hty : ∀ k, k < NN → parseFieldDescriptor (T k).2.2.1 = some (ty0 k)) (hnm : ∀ a, a < NN → ∀ b, b < NN → a ≠ b → (T a).2.1 ≠ (T b).2.1) (hown : s.vm.findClass own = some m.cls) (hK : qK D cs s) (hI : qI D M0 s.heap M N H locs) {fs : List Value} (hM : M a = some (.inr (ci, fs))) (hc : vwCl[ci]? = some (C, T, NN)) (k : Nat) (hk : k < NN) (hlink : (Cond.fieldLink own index ref (T k).2.1 (T k).2.2.1).before args s = true) (hsame : ∀ x, s.fieldFound? (T k).1 (T k).2.1 (T k).2.2.1 = some x → s.fieldFound? ref (T k).2.1 (T k).2.2.1 = some x) (hfin : (T k).2.2.2 = false) {v : Value} (hn : narrow (ty0 k) v = v) (hfit : fits (ty0 k) v = true) (hl : k < fs.length)
    (hdg : decode cc pc = .ok (.putfield index, 3)) (kk : ∀ (H1 : Heap) (locs1 : List Loc), qI D M0 s.heap (qUp M a (.inr (ci, fs.set k v))) N H1 locs1 → W p l e R s m args below meth c H1 locs1 cells slots Q (F0 m (pc + 3) ls rest)) : W p l e R s m args below meth c H locs cells slots Q (F0 m pc ls (v :: .ref a :: rest)) := by
  have hap := va_apart (own := own) hts hin ty0 hty hnm hK.1 hc
  obtain ⟨r, h1, cell, q1, q2, q3, q4⟩ := hI.1 a _ hM
  have hr : r = (C, T, NN) := Option.some.inj (h1.symm.trans hc)
  subst hr
  obtain ⟨hS, hfc, kC, hkC, hkind⟩ := hK.1.1 ci _ hc
  obtain ⟨cf, kf, fi, f, hi, hsl⟩ := hS k hk
  have hlay := hts _ (hin _ (u_in_lay hk))
  unfold u_lay at hlay
  rw [if_neg (by rw [hfin]; decide)] at hlay
  have hst := (u_facts hfc hkC (u_lays hts hin hk) hi).1
  have h6 := u_store hfc hkC hkind hlay hi (hty k hk) hn hfit
  refine W.putK hexec hb (f := f) ⟨hown, hlink, ⟨_, _, _, hsame _ hi⟩, hst⟩ (by rw [q2]; exact h6) q1 q3 (by rw [hsl]; exact k2_hasslot (q4 k hk)) rfl rfl hdg fun H' e1 e2 e3 => ?_
  rw [hsl] at e1 ⊢
  exact kk H' _ (hI.put hM ⟨_, hc, t_OB.to (V := updV (vp_V fs) k v) ⟨_, e1, q2, q3, t_set q4 hap hk v⟩ (fun j _ => vp_updV_set hl v j)⟩ e2 e3)
theorem q_putN (hexec : p.tables.exec = Jvm.exec) (hb : c.code = cc) {own ref C host : String} {T : u_T} {NN ci index : Nat} {Ts : List Cond} (hts : ∀ w ∈ Ts, w.before args s = true) (hin : ∀ w ∈ u_ws C T NN, w ∈ Ts) {ty0 : Nat → FieldType} (hty : ∀ k, k < NN → parseFieldDescriptor (T k).2.2.1 = some (ty0 k)) (hnm : ∀ a, a < NN → ∀ b, b < NN → a ≠ b → (T a).2.1 ≠ (T b).2.1) (hown : s.vm.findClass own = some m.cls) (hK : qK D cs s) (hI : qI D M0 s.heap M N H locs) {fs : List Value} (hM : M a = some (.inr (ci, fs))) (hc : vwCl[ci]? = some (C, T, NN)) (k : Nat) (hk : k < NN) (hlink : va_Nw (.fieldLinkNest own index ref (T k).2.1 (T k).2.2.1 host) s) (hsame : ∀ x, s.fieldFound? (T k).1 (T k).2.1 (T k).2.2.1 = some x → s.fieldFound? ref (T k).2.1 (T k).2.2.1 = some x) (hfin : (T k).2.2.2 = false) {v : Value} (hn : narrow (ty0 k) v = v) (hfit : fits (ty0 k) v = true) (hl : k < fs.length)
    (hdg : decode cc pc = .ok (.putfield index, 3)) (kk : ∀ (H1 : Heap) (locs1 : List Loc), qI D M0 s.heap (qUp M a (.inr (ci, fs.set k v))) N H1 locs1 → W p l e R s m args below meth c H1 locs1 cells slots Q (F0 m (pc + 3) ls rest)) : W p l e R s m args below meth c H locs cells slots Q (F0 m pc ls (v :: .ref a :: rest)) := by
  have hap := va_apart (own := own) hts hin ty0 hty hnm hK.1 hc
  obtain ⟨r, h1, cell, q1, q2, q3, q4⟩ := hI.1 a _ hM
  have hr : r = (C, T, NN) := Option.some.inj (h1.symm.trans hc)
  subst hr
  obtain ⟨hS, hfc, kC, hkC, hkind⟩ := hK.1.1 ci _ hc
  obtain ⟨cf, kf, fi, f, hi, hsl⟩ := hS k hk
  have hlay := hts _ (hin _ (u_in_lay hk))
  unfold u_lay at hlay
  rw [if_neg (by rw [hfin]; decide)] at hlay
  have hst := (u_facts hfc hkC (u_lays hts hin hk) hi).1
  have h6 := u_store hfc hkC hkind hlay hi (hty k hk) hn hfit
  refine va_WputK hexec hb (f := f) hown (va_Nw.use rfl hlink) (hsame _ hi) hst (by rw [q2]; exact h6) q1 q3 (by rw [hsl]; exact k2_hasslot (q4 k hk)) rfl rfl hdg fun H' e1 e2 e3 => ?_
  rw [hsl] at e1 ⊢
  exact kk H' _ (hI.put hM ⟨_, hc, t_OB.to (V := updV (vp_V fs) k v) ⟨_, e1, q2, q3, t_set q4 hap hk v⟩ (fun j _ => vp_updV_set hl v j)⟩ e2 e3)
theorem q_putF (hexec : p.tables.exec = Jvm.exec) (hb : c.code = cc) {own ref C : String} {T : u_T} {NN ci index : Nat} {Ts : List Cond} (hts : ∀ w ∈ Ts, w.before args s = true) (hin : ∀ w ∈ u_ws C T NN, w ∈ Ts) {ty0 : Nat → FieldType} (hty : ∀ k, k < NN → parseFieldDescriptor (T k).2.2.1 = some (ty0 k)) (hnm : ∀ a, a < NN → ∀ b, b < NN → a ≠ b → (T a).2.1 ≠ (T b).2.1) (hown : s.vm.findClass own = some m.cls) (hK : qK D cs s) (hI : qI D M0 s.heap M N H locs) {fs : List Value} (hM : M a = some (.inr (ci, fs))) (hc : vwCl[ci]? = some (C, T, NN)) (k : Nat) (hk : k < NN) (hlink : (Cond.fieldLink own index ref (T k).2.1 (T k).2.2.1).before args s = true) (hsame : ∀ x, s.fieldFound? (T k).1 (T k).2.1 (T k).2.2.1 = some x → s.fieldFound? ref (T k).2.1 (T k).2.2.1 = some x) (hfin : (T k).2.2.2 = true) (hin2 : meth.name = "<init>") (hdecl : (T k).1 = own) {v : Value} (hn : narrow (ty0 k) v = v) (hfit : fits (ty0 k) v = true) (hl : k < fs.length)
    (hdg : decode cc pc = .ok (.putfield index, 3)) (kk : ∀ (H1 : Heap) (locs1 : List Loc), qI D M0 s.heap (qUp M a (.inr (ci, fs.set k v))) N H1 locs1 → W p l e R s m args below meth c H1 locs1 cells slots Q (F0 m (pc + 3) ls rest)) : W p l e R s m args below meth c H locs cells slots Q (F0 m pc ls (v :: .ref a :: rest)) := by
  have hap := va_apart (own := own) hts hin ty0 hty hnm hK.1 hc
  obtain ⟨r, h1, cell, q1, q2, q3, q4⟩ := hI.1 a _ hM
  have hr : r = (C, T, NN) := Option.some.inj (h1.symm.trans hc)
  subst hr
  obtain ⟨hS, hfc, kC, hkC, hkind⟩ := hK.1.1 ci _ hc
  obtain ⟨cf, kf, fi, f, hi, hsl⟩ := hS k hk
  have hlay := hts _ (hin _ (u_in_lay hk))
  unfold u_lay at hlay
  rw [if_pos hfin] at hlay
  have hst := (u_facts hfc hkC (u_lays hts hin hk) hi).1
  have hcf : m.cls = cf := by
    obtain ⟨_, _, c', _, _, _, -, -, hf', -, -, -, hown2, -⟩ := Cond.laysFinal_spec hlay
    have e1 : c' = cf := by have := hi.symm.trans hf'; simp at this; exact this.1.symm
    rw [hdecl] at hown2
    rw [← e1]; exact Option.some.inj (hown.symm.trans hown2)
  have h6 := u_fits hfc hkC hkind (u_lays hts hin hk) hi (hty k hk) hn hfit
  refine W.putFinK hexec hb hown hlink (hsame _ hi) hst hcf hin2 (by rw [q2]; exact h6) q1 q3 (by rw [hsl]; exact k2_hasslot (q4 k hk)) rfl rfl hdg fun H' e1 e2 e3 => ?_
  rw [hsl] at e1 ⊢
  exact kk H' _ (hI.put hM ⟨_, hc, t_OB.to (V := updV (vp_V fs) k v) ⟨_, e1, q2, q3, t_set q4 hap hk v⟩ (fun j _ => vp_updV_set hl v j)⟩ e2 e3)
theorem q_iald (hexec : p.tables.exec = Jvm.exec) (hb : c.code = cc) (hK : qK D cs s) (hI : qI D M0 s.heap M N H locs) {n : Nat} {f : Nat → Int32} (hM : M a = some (.inl (cs 0, n, .inl f))) {i : Int32} (hin : vp_in i n) (hdg : decode cc pc = .ok (.iaload, 1))
    (kk : W p l e R s m args below meth c H locs cells slots Q (F0 m (pc + 1) ls (.int (f i.toNatClampNeg) :: rest))) : W p l e R s m args below meth c H locs cells slots Q (F0 m pc ls (.int i :: .ref a :: rest)) :=
  va_iald hexec hb hK.1 (qP_one hI.1 hM) 0 0 rfl rfl hin hdg kk
theorem q_lald (hexec : p.tables.exec = Jvm.exec) (hb : c.code = cc) (hK : qK D cs s) (hI : qI D M0 s.heap M N H locs) {n : Nat} {f : Nat → Int64} (hM : M a = some (.inl (cs 3, n, .inr (.inl f)))) {i : Int32} (hin : vp_in i n) (hdg : decode cc pc = .ok (.laload, 1))
    (kk : W p l e R s m args below meth c H locs cells slots Q (F0 m (pc + 1) ls (.long (f i.toNatClampNeg) :: rest))) : W p l e R s m args below meth c H locs cells slots Q (F0 m pc ls (.int i :: .ref a :: rest)) :=
  va_lald hexec hb hK.1 (qP_one hI.1 hM) 0 3 rfl rfl hin hdg kk
/-- an array of references: kind 1 quarries, kind 2 words -/
theorem q_aald (hexec : p.tables.exec = Jvm.exec) (hb : c.code = cc) (hK : qK D cs s) (hI : qI D M0 s.heap M N H locs) (t0 : Nat) {C : String} (ht : (qT cs)[t0]? = some (cs t0, .object C)) {n : Nat} {f : Nat → Option Nat} (hM : M a = some (.inl (cs t0, n, .inr (.inr (.inr (.inr f)))))) {i : Int32} (hin : vp_in i n) (hdg : decode cc pc = .ok (.aaload, 1))
    (kk : W p l e R s m args below meth c H locs cells slots Q (F0 m (pc + 1) ls (va_rf (f i.toNatClampNeg) :: rest))) : W p l e R s m args below meth c H locs cells slots Q (F0 m pc ls (.int i :: .ref a :: rest)) :=
  va_aldq hexec hb hK.1 (qP_one hI.1 hM) 0 t0 rfl ht hin hdg kk
theorem q_alen (hexec : p.tables.exec = Jvm.exec) (hb : c.code = cc) (hK : qK D cs s) (hI : qI D M0 s.heap M N H locs) (t0 : Nat) {ty : FieldType} (ht : (qT cs)[t0]? = some (cs t0, ty)) {x : vp_A} (hM : M a = some (.inl (cs t0, x))) {v : Int32} (hv : Int32.ofNat x.1 = v) (hdg : decode cc pc = .ok (.arraylength, 1))
    (kk : W p l e R s m args below meth c H locs cells slots Q (F0 m (pc + 1) ls (.int v :: rest))) : W p l e R s m args below meth c H locs cells slots Q (F0 m pc ls (.ref a :: rest)) :=
  va_alen hexec hb hK.1 (qP_one hI.1 hM) 0 t0 rfl ht hv hdg kk
theorem q_iast (hexec : p.tables.exec = Jvm.exec) (hb : c.code = cc) (hK : qK D cs s) (hI : qI D M0 s.heap M N H locs) {n : Nat} {f : Nat → Int32} (hM : M a = some (.inl (cs 0, n, .inl f))) {i x : Int32} (hin : vp_in i n) (hdg : decode cc pc = .ok (.iastore, 1))
    (kk : ∀ (H1 : Heap) (locs1 : List Loc), qI D M0 s.heap (qUp M a (.inl (cs 0, n, .inl (upd f i.toNatClampNeg x)))) N H1 locs1 → W p l e R s m args below meth c H1 locs1 cells slots Q (F0 m (pc + 1) ls rest)) : W p l e R s m args below meth c H locs cells slots Q (F0 m pc ls (.int x :: .int i :: .ref a :: rest)) := by
  refine W.iast hexec hb (hI.1 a _ hM) ((hK.1.2 0 _ rfl).1 n (fun j => .int (f j))) (fun q => by cases q) (by show ¬ (i < 0 ∨ (arrV _ _ _).slots.size ≤ _); rw [arrV_size]; exact hin) rfl rfl hdg fun H1 e z oq => ?_
  refine kk H1 _ (hI.put hM ?_ z oq)
  show H1[a]? = some (vp_cell _ _)
  rw [e]
  rw [vp_cell_i, vp_cell_i, arrV_store]
  congr 2
  funext q
  by_cases hq : q = i.toNatClampNeg
  · subst hq
    simp [updV, upd]
  · simp [updV, upd, hq]
theorem q_last (hexec : p.tables.exec = Jvm.exec) (hb : c.code = cc) (hK : qK D cs s) (hI : qI D M0 s.heap M N H locs) {n : Nat} {f : Nat → Int64} (hM : M a = some (.inl (cs 3, n, .inr (.inl f)))) {i : Int32} {x : Int64} (hin : vp_in i n) (hdg : decode cc pc = .ok (.lastore, 1))
    (kk : ∀ (H1 : Heap) (locs1 : List Loc), qI D M0 s.heap (qUp M a (.inl (cs 3, n, .inr (.inl (vp_updL f i.toNatClampNeg x))))) N H1 locs1 → W p l e R s m args below meth c H1 locs1 cells slots Q (F0 m (pc + 1) ls rest)) : W p l e R s m args below meth c H locs cells slots Q (F0 m pc ls (.long x :: .int i :: .ref a :: rest)) := by
  refine W.last hexec hb (hI.1 a _ hM) ((hK.1.2 3 _ rfl).1 n (fun j => .long (f j))) (fun q => by cases q) (by show ¬ (i < 0 ∨ (arrV _ _ _).slots.size ≤ _); rw [arrV_size]; exact hin) rfl rfl hdg fun H1 e z oq => ?_
  refine kk H1 _ (hI.put hM ?_ z oq)
  show H1[a]? = some (vp_cell _ _)
  rw [e]
  rw [vp_cell_l, vp_cell_l, arrV_store]
  congr 2
  funext q
  by_cases hq : q = i.toNatClampNeg
  · subst hq
    simp [updV, vp_updL]
  · simp [updV, vp_updL, hq]
theorem q_aast (hexec : p.tables.exec = Jvm.exec) (hb : c.code = cc) (hK : qK D cs s) (hI : qI D M0 s.heap M N H locs) (t0 : Nat) {r : vw_C} {ci v : Nat} {vs : List Value} (ht : (qT cs)[t0]? = some (cs t0, .object r.1)) {n : Nat} {f : Nat → Option Nat} (hM : M a = some (.inl (cs t0, n, .inr (.inr (.inr (.inr f)))))) (hv : M v = some (.inr (ci, vs))) (hc : vwCl[ci]? = some r) {i : Int32} (hin : vp_in i n) (hdg : decode cc pc = .ok (.aastore, 1))
    (kk : ∀ (H1 : Heap) (locs1 : List Loc), qI D M0 s.heap (qUp M a (.inl (cs t0, n, .inr (.inr (.inr (.inr (va_up f i.toNatClampNeg (some v)))))))) N H1 locs1 → W p l e R s m args below meth c H1 locs1 cells slots Q (F0 m (pc + 1) ls rest)) : W p l e R s m args below meth c H locs cells slots Q (F0 m pc ls (.ref v :: .int i :: .ref a :: rest)) := by
  have hlt : i.toNatClampNeg < n := Nat.not_le.mp fun q => hin (Or.inr q)
  have h0 : ¬ i < 0 := fun q => hin (Or.inl q)
  obtain ⟨r', hr', cellV, g1, g2, g3, -⟩ := hI.1 v _ hv
  have hcls := (hK.1.1 ci r hc).2
  obtain ⟨kA, comp, k1, k2, k3, -⟩ := (hK.1.2 t0 _ ht).2
  have hcomp : comp = D.1 ci := Option.some.inj (k3.symm.trans hcls.1)
  subst hcomp
  obtain ⟨kC, hkC, -⟩ := hcls.2
  refine W.aast hexec hb (hI.1 a _ hM) (fun q h => by cases h) (fun h => by cases h) k1 k2 rfl hkC ⟨h0, by show _ < (arrV _ _ _).slots.size; rw [arrV_size]; exact hlt⟩ g1 (fun q h => by rw [g3] at h; cases h) (by rw [g2]; exact hkC) (by rw [g2]; exact va_assign hcls) rfl rfl hdg fun H1 e z oq => ?_
  refine kk H1 _ (hI.put hM ?_ z oq)
  show H1[a]? = some (vp_cell _ _)
  rw [e]
  rw [vp_cell_q, vp_cell_q, arrV_store]
  congr 2
  funext q
  by_cases hq : q = i.toNatClampNeg
  · subst hq
    simp [updV, va_up, va_rf]
  · simp [updV, va_up, hq]
end QQ
end
section
theorem dX1_init_0 : decode cX1_init 0 = .ok (.aload_n 0, 1) := by decide +kernel
theorem dX1_init_1 : decode cX1_init 1 = .ok (.invokespecial 3, 3) := by decide +kernel
theorem dX1_init_4 : decode cX1_init 4 = .ok (.aload_n 0, 1) := by decide +kernel
theorem dX1_init_5 : decode cX1_init 5 = .ok (.bipush 16, 2) := by decide +kernel
theorem dX1_init_7 : decode cX1_init 7 = .ok (.newarray .int, 2) := by decide +kernel
theorem dX1_init_9 : decode cX1_init 9 = .ok (.putfield 9, 3) := by decide +kernel
theorem dX1_init_12 : decode cX1_init 12 = .ok (.aload_n 0, 1) := by decide +kernel
theorem dX1_init_13 : decode cX1_init 13 = .ok (.bipush 16, 2) := by decide +kernel
theorem dX1_init_15 : decode cX1_init 15 = .ok (.newarray .int, 2) := by decide +kernel
theorem dX1_init_17 : decode cX1_init 17 = .ok (.putfield 15, 3) := by decide +kernel
theorem dX1_init_20 : decode cX1_init 20 = .ok (.return_, 1) := by decide +kernel
theorem dX1_makeEmpty_0 : decode cX1_makeEmpty 0 = .ok (.aload_n 0, 1) := by decide +kernel
theorem dX1_makeEmpty_1 : decode cX1_makeEmpty 1 = .ok (.iconst 0, 1) := by decide +kernel
theorem dX1_makeEmpty_2 : decode cX1_makeEmpty 2 = .ok (.putfield 18, 3) := by decide +kernel
theorem dX1_makeEmpty_5 : decode cX1_makeEmpty 5 = .ok (.aload_n 0, 1) := by decide +kernel
theorem dX1_makeEmpty_6 : decode cX1_makeEmpty 6 = .ok (.getfield 9, 3) := by decide +kernel
theorem dX1_makeEmpty_9 : decode cX1_makeEmpty 9 = .ok (.iconst 0, 1) := by decide +kernel
theorem dX1_makeEmpty_10 : decode cX1_makeEmpty 10 = .ok (.invokestatic 22, 3) := by decide +kernel
theorem dX1_makeEmpty_13 : decode cX1_makeEmpty 13 = .ok (.aload_n 0, 1) := by decide +kernel
theorem dX1_makeEmpty_14 : decode cX1_makeEmpty 14 = .ok (.getfield 15, 3) := by decide +kernel
theorem dX1_makeEmpty_17 : decode cX1_makeEmpty 17 = .ok (.iconst (-1), 1) := by decide +kernel
theorem dX1_makeEmpty_18 : decode cX1_makeEmpty 18 = .ok (.invokestatic 22, 3) := by decide +kernel
theorem dX1_makeEmpty_21 : decode cX1_makeEmpty 21 = .ok (.return_, 1) := by decide +kernel
theorem dX1_takeOver_0 : decode cX1_takeOver 0 = .ok (.aload_n 1, 1) := by decide +kernel
theorem dX1_takeOver_1 : decode cX1_takeOver 1 = .ok (.getfield 9, 3) := by decide +kernel
theorem dX1_takeOver_4 : decode cX1_takeOver 4 = .ok (.aload_n 0, 1) := by decide +kernel
theorem dX1_takeOver_5 : decode cX1_takeOver 5 = .ok (.getfield 9, 3) := by decide +kernel
theorem dX1_takeOver_8 : decode cX1_takeOver 8 = .ok (.invokestatic 26, 3) := by decide +kernel
theorem dX1_takeOver_11 : decode cX1_takeOver 11 = .ok (.aload_n 1, 1) := by decide +kernel
theorem dX1_takeOver_12 : decode cX1_takeOver 12 = .ok (.getfield 15, 3) := by decide +kernel
theorem dX1_takeOver_15 : decode cX1_takeOver 15 = .ok (.aload_n 0, 1) := by decide +kernel
theorem dX1_takeOver_16 : decode cX1_takeOver 16 = .ok (.getfield 15, 3) := by decide +kernel
theorem dX1_takeOver_19 : decode cX1_takeOver 19 = .ok (.invokestatic 26, 3) := by decide +kernel
theorem dX1_takeOver_22 : decode cX1_takeOver 22 = .ok (.aload_n 0, 1) := by decide +kernel
theorem dX1_takeOver_23 : decode cX1_takeOver 23 = .ok (.aload_n 1, 1) := by decide +kernel
theorem dX1_takeOver_24 : decode cX1_takeOver 24 = .ok (.getfield 18, 3) := by decide +kernel
theorem dX1_takeOver_27 : decode cX1_takeOver 27 = .ok (.putfield 18, 3) := by decide +kernel
theorem dX1_takeOver_30 : decode cX1_takeOver 30 = .ok (.return_, 1) := by decide +kernel
theorem dX1_add_0 : decode cX1_add 0 = .ok (.aload_n 0, 1) := by decide +kernel
theorem dX1_add_1 : decode cX1_add 1 = .ok (.getfield 18, 3) := by decide +kernel
theorem dX1_add_4 : decode cX1_add 4 = .ok (.istore_n 2, 1) := by decide +kernel
theorem dX1_add_5 : decode cX1_add 5 = .ok (.aload_n 0, 1) := by decide +kernel
theorem dX1_add_6 : decode cX1_add 6 = .ok (.getfield 9, 3) := by decide +kernel
theorem dX1_add_9 : decode cX1_add 9 = .ok (.iload_n 2, 1) := by decide +kernel
theorem dX1_add_10 : decode cX1_add 10 = .ok (.iload_n 1, 1) := by decide +kernel
theorem dX1_add_11 : decode cX1_add 11 = .ok (.invokestatic 30, 3) := by decide +kernel
theorem dX1_add_14 : decode cX1_add 14 = .ok (.aload_n 0, 1) := by decide +kernel
theorem dX1_add_15 : decode cX1_add 15 = .ok (.getfield 15, 3) := by decide +kernel
theorem dX1_add_18 : decode cX1_add 18 = .ok (.iload_n 2, 1) := by decide +kernel
theorem dX1_add_19 : decode cX1_add 19 = .ok (.iconst (-1), 1) := by decide +kernel
theorem dX1_add_20 : decode cX1_add 20 = .ok (.invokestatic 30, 3) := by decide +kernel
theorem dX1_add_23 : decode cX1_add 23 = .ok (.aload_n 0, 1) := by decide +kernel
theorem dX1_add_24 : decode cX1_add 24 = .ok (.dup, 1) := by decide +kernel
theorem dX1_add_25 : decode cX1_add 25 = .ok (.getfield 18, 3) := by decide +kernel
theorem dX1_add_28 : decode cX1_add 28 = .ok (.iconst 1, 1) := by decide +kernel
theorem dX1_add_29 : decode cX1_add 29 = .ok (.iadd, 1) := by decide +kernel
theorem dX1_add_30 : decode cX1_add 30 = .ok (.putfield 18, 3) := by decide +kernel
theorem dX1_add_33 : decode cX1_add 33 = .ok (.iload_n 2, 1) := by decide +kernel
theorem dX1_add_34 : decode cX1_add 34 = .ok (.ireturn, 1) := by decide +kernel
theorem dX1_isThere_0 : decode cX1_isThere 0 = .ok (.iload_n 1, 1) := by decide +kernel
theorem dX1_isThere_1 : decode cX1_isThere 1 = .ok (.ifCond .lt 15, 3) := by decide +kernel
theorem dX1_isThere_4 : decode cX1_isThere 4 = .ok (.iload_n 1, 1) := by decide +kernel
theorem dX1_isThere_5 : decode cX1_isThere 5 = .ok (.aload_n 0, 1) := by decide +kernel
theorem dX1_isThere_6 : decode cX1_isThere 6 = .ok (.getfield 18, 3) := by decide +kernel
theorem dX1_isThere_9 : decode cX1_isThere 9 = .ok (.if_icmp .ge 7, 3) := by decide +kernel
theorem dX1_isThere_12 : decode cX1_isThere 12 = .ok (.iconst 1, 1) := by decide +kernel
theorem dX1_isThere_13 : decode cX1_isThere 13 = .ok (.goto 4, 3) := by decide +kernel
theorem dX1_isThere_16 : decode cX1_isThere 16 = .ok (.iconst 0, 1) := by decide +kernel
theorem dX1_isThere_17 : decode cX1_isThere 17 = .ok (.ireturn, 1) := by decide +kernel
theorem dX1_weightOf_0 : decode cX1_weightOf 0 = .ok (.aload_n 0, 1) := by decide +kernel
theorem dX1_weightOf_1 : decode cX1_weightOf 1 = .ok (.getfield 9, 3) := by decide +kernel
theorem dX1_weightOf_4 : decode cX1_weightOf 4 = .ok (.iload_n 1, 1) := by decide +kernel
theorem dX1_weightOf_5 : decode cX1_weightOf 5 = .ok (.invokestatic 34, 3) := by decide +kernel
theorem dX1_weightOf_8 : decode cX1_weightOf 8 = .ok (.ireturn, 1) := by decide +kernel
theorem dX1_holderOf_0 : decode cX1_holderOf 0 = .ok (.aload_n 0, 1) := by decide +kernel
theorem dX1_holderOf_1 : decode cX1_holderOf 1 = .ok (.getfield 15, 3) := by decide +kernel
theorem dX1_holderOf_4 : decode cX1_holderOf 4 = .ok (.iload_n 1, 1) := by decide +kernel
theorem dX1_holderOf_5 : decode cX1_holderOf 5 = .ok (.invokestatic 34, 3) := by decide +kernel
theorem dX1_holderOf_8 : decode cX1_holderOf 8 = .ok (.ireturn, 1) := by decide +kernel
theorem dX1_depthOf_0 : decode cX1_depthOf 0 = .ok (.aload_n 0, 1) := by decide +kernel
theorem dX1_depthOf_1 : decode cX1_depthOf 1 = .ok (.getfield 15, 3) := by decide +kernel
theorem dX1_depthOf_4 : decode cX1_depthOf 4 = .ok (.iload_n 1, 1) := by decide +kernel
theorem dX1_depthOf_5 : decode cX1_depthOf 5 = .ok (.invokestatic 38, 3) := by decide +kernel
theorem dX1_depthOf_8 : decode cX1_depthOf 8 = .ok (.ireturn, 1) := by decide +kernel
theorem dX1_rootByHolders_0 : decode cX1_rootByHolders 0 = .ok (.aload_n 0, 1) := by decide +kernel
theorem dX1_rootByHolders_1 : decode cX1_rootByHolders 1 = .ok (.getfield 15, 3) := by decide +kernel
theorem dX1_rootByHolders_4 : decode cX1_rootByHolders 4 = .ok (.iload_n 1, 1) := by decide +kernel
theorem dX1_rootByHolders_5 : decode cX1_rootByHolders 5 = .ok (.invokestatic 41, 3) := by decide +kernel
theorem dX1_rootByHolders_8 : decode cX1_rootByHolders 8 = .ok (.ireturn, 1) := by decide +kernel
theorem dX1_sumByHolders_0 : decode cX1_sumByHolders 0 = .ok (.iconst 0, 1) := by decide +kernel
theorem dX1_sumByHolders_1 : decode cX1_sumByHolders 1 = .ok (.istore_n 2, 1) := by decide +kernel
theorem dX1_sumByHolders_2 : decode cX1_sumByHolders 2 = .ok (.iload_n 1, 1) := by decide +kernel
theorem dX1_sumByHolders_3 : decode cX1_sumByHolders 3 = .ok (.istore_n 3, 1) := by decide +kernel
theorem dX1_sumByHolders_4 : decode cX1_sumByHolders 4 = .ok (.iconst 0, 1) := by decide +kernel
theorem dX1_sumByHolders_5 : decode cX1_sumByHolders 5 = .ok (.istore 4, 2) := by decide +kernel
theorem dX1_sumByHolders_7 : decode cX1_sumByHolders 7 = .ok (.iload 4, 2) := by decide +kernel
theorem dX1_sumByHolders_9 : decode cX1_sumByHolders 9 = .ok (.bipush 16, 2) := by decide +kernel
theorem dX1_sumByHolders_11 : decode cX1_sumByHolders 11 = .ok (.if_icmp .ge 27, 3) := by decide +kernel
theorem dX1_sumByHolders_14 : decode cX1_sumByHolders 14 = .ok (.iload_n 3, 1) := by decide +kernel
theorem dX1_sumByHolders_15 : decode cX1_sumByHolders 15 = .ok (.ifCond .lt 23, 3) := by decide +kernel
theorem dX1_sumByHolders_18 : decode cX1_sumByHolders 18 = .ok (.iload_n 2, 1) := by decide +kernel
theorem dX1_sumByHolders_19 : decode cX1_sumByHolders 19 = .ok (.aload_n 0, 1) := by decide +kernel
theorem dX1_sumByHolders_20 : decode cX1_sumByHolders 20 = .ok (.iload_n 3, 1) := by decide +kernel
theorem dX1_sumByHolders_21 : decode cX1_sumByHolders 21 = .ok (.invokevirtual 44, 3) := by decide +kernel
theorem dX1_sumByHolders_24 : decode cX1_sumByHolders 24 = .ok (.iadd, 1) := by decide +kernel
theorem dX1_sumByHolders_25 : decode cX1_sumByHolders 25 = .ok (.istore_n 2, 1) := by decide +kernel
theorem dX1_sumByHolders_26 : decode cX1_sumByHolders 26 = .ok (.aload_n 0, 1) := by decide +kernel
theorem dX1_sumByHolders_27 : decode cX1_sumByHolders 27 = .ok (.iload_n 3, 1) := by decide +kernel
theorem dX1_sumByHolders_28 : decode cX1_sumByHolders 28 = .ok (.invokevirtual 48, 3) := by decide +kernel
theorem dX1_sumByHolders_31 : decode cX1_sumByHolders 31 = .ok (.istore_n 3, 1) := by decide +kernel
theorem dX1_sumByHolders_32 : decode cX1_sumByHolders 32 = .ok (.iinc 4 1, 3) := by decide +kernel
theorem dX1_sumByHolders_35 : decode cX1_sumByHolders 35 = .ok (.goto (-28), 3) := by decide +kernel
theorem dX1_sumByHolders_38 : decode cX1_sumByHolders 38 = .ok (.iload_n 2, 1) := by decide +kernel
theorem dX1_sumByHolders_39 : decode cX1_sumByHolders 39 = .ok (.ireturn, 1) := by decide +kernel
theorem dX1_jointByHolders_0 : decode cX1_jointByHolders 0 = .ok (.iload_n 1, 1) := by decide +kernel
theorem dX1_jointByHolders_1 : decode cX1_jointByHolders 1 = .ok (.istore_n 3, 1) := by decide +kernel
theorem dX1_jointByHolders_2 : decode cX1_jointByHolders 2 = .ok (.iconst 0, 1) := by decide +kernel
theorem dX1_jointByHolders_3 : decode cX1_jointByHolders 3 = .ok (.istore 4, 2) := by decide +kernel
theorem dX1_jointByHolders_5 : decode cX1_jointByHolders 5 = .ok (.iload 4, 2) := by decide +kernel
theorem dX1_jointByHolders_7 : decode cX1_jointByHolders 7 = .ok (.bipush 16, 2) := by decide +kernel
theorem dX1_jointByHolders_9 : decode cX1_jointByHolders 9 = .ok (.if_icmp .ge 33, 3) := by decide +kernel
theorem dX1_jointByHolders_12 : decode cX1_jointByHolders 12 = .ok (.iload_n 3, 1) := by decide +kernel
theorem dX1_jointByHolders_13 : decode cX1_jointByHolders 13 = .ok (.ifCond .lt 29, 3) := by decide +kernel
theorem dX1_jointByHolders_16 : decode cX1_jointByHolders 16 = .ok (.aload_n 0, 1) := by decide +kernel
theorem dX1_jointByHolders_17 : decode cX1_jointByHolders 17 = .ok (.getfield 15, 3) := by decide +kernel
theorem dX1_jointByHolders_20 : decode cX1_jointByHolders 20 = .ok (.iload_n 2, 1) := by decide +kernel
theorem dX1_jointByHolders_21 : decode cX1_jointByHolders 21 = .ok (.iload_n 3, 1) := by decide +kernel
theorem dX1_jointByHolders_22 : decode cX1_jointByHolders 22 = .ok (.invokestatic 51, 3) := by decide +kernel
theorem dX1_jointByHolders_25 : decode cX1_jointByHolders 25 = .ok (.ifCond .eq 5, 3) := by decide +kernel
theorem dX1_jointByHolders_28 : decode cX1_jointByHolders 28 = .ok (.iload_n 3, 1) := by decide +kernel
theorem dX1_jointByHolders_29 : decode cX1_jointByHolders 29 = .ok (.ireturn, 1) := by decide +kernel
theorem dX1_jointByHolders_30 : decode cX1_jointByHolders 30 = .ok (.aload_n 0, 1) := by decide +kernel
theorem dX1_jointByHolders_31 : decode cX1_jointByHolders 31 = .ok (.iload_n 3, 1) := by decide +kernel
theorem dX1_jointByHolders_32 : decode cX1_jointByHolders 32 = .ok (.invokevirtual 48, 3) := by decide +kernel
theorem dX1_jointByHolders_35 : decode cX1_jointByHolders 35 = .ok (.istore_n 3, 1) := by decide +kernel
theorem dX1_jointByHolders_36 : decode cX1_jointByHolders 36 = .ok (.iinc 4 1, 3) := by decide +kernel
theorem dX1_jointByHolders_39 : decode cX1_jointByHolders 39 = .ok (.goto (-34), 3) := by decide +kernel
theorem dX1_jointByHolders_42 : decode cX1_jointByHolders 42 = .ok (.bipush (-4), 2) := by decide +kernel
theorem dX1_jointByHolders_44 : decode cX1_jointByHolders 44 = .ok (.ireturn, 1) := by decide +kernel
theorem dX1_hangingAtOnce_0 : decode cX1_hangingAtOnce 0 = .ok (.iconst 0, 1) := by decide +kernel
theorem dX1_hangingAtOnce_1 : decode cX1_hangingAtOnce 1 = .ok (.istore_n 2, 1) := by decide +kernel
theorem dX1_hangingAtOnce_2 : decode cX1_hangingAtOnce 2 = .ok (.iconst 0, 1) := by decide +kernel
theorem dX1_hangingAtOnce_3 : decode cX1_hangingAtOnce 3 = .ok (.istore_n 3, 1) := by decide +kernel
theorem dX1_hangingAtOnce_4 : decode cX1_hangingAtOnce 4 = .ok (.iload_n 3, 1) := by decide +kernel
theorem dX1_hangingAtOnce_5 : decode cX1_hangingAtOnce 5 = .ok (.aload_n 0, 1) := by decide +kernel
theorem dX1_hangingAtOnce_6 : decode cX1_hangingAtOnce 6 = .ok (.getfield 18, 3) := by decide +kernel
theorem dX1_hangingAtOnce_9 : decode cX1_hangingAtOnce 9 = .ok (.if_icmp .ge 26, 3) := by decide +kernel
theorem dX1_hangingAtOnce_12 : decode cX1_hangingAtOnce 12 = .ok (.iload_n 2, 1) := by decide +kernel
theorem dX1_hangingAtOnce_13 : decode cX1_hangingAtOnce 13 = .ok (.aload_n 0, 1) := by decide +kernel
theorem dX1_hangingAtOnce_14 : decode cX1_hangingAtOnce 14 = .ok (.iload_n 3, 1) := by decide +kernel
theorem dX1_hangingAtOnce_15 : decode cX1_hangingAtOnce 15 = .ok (.invokevirtual 48, 3) := by decide +kernel
theorem dX1_hangingAtOnce_18 : decode cX1_hangingAtOnce 18 = .ok (.iload_n 1, 1) := by decide +kernel
theorem dX1_hangingAtOnce_19 : decode cX1_hangingAtOnce 19 = .ok (.if_icmp .ne 7, 3) := by decide +kernel
theorem dX1_hangingAtOnce_22 : decode cX1_hangingAtOnce 22 = .ok (.iconst 1, 1) := by decide +kernel
theorem dX1_hangingAtOnce_23 : decode cX1_hangingAtOnce 23 = .ok (.goto 4, 3) := by decide +kernel
theorem dX1_hangingAtOnce_26 : decode cX1_hangingAtOnce 26 = .ok (.iconst 0, 1) := by decide +kernel
theorem dX1_hangingAtOnce_27 : decode cX1_hangingAtOnce 27 = .ok (.iadd, 1) := by decide +kernel
theorem dX1_hangingAtOnce_28 : decode cX1_hangingAtOnce 28 = .ok (.istore_n 2, 1) := by decide +kernel
theorem dX1_hangingAtOnce_29 : decode cX1_hangingAtOnce 29 = .ok (.iinc 3 1, 3) := by decide +kernel
theorem dX1_hangingAtOnce_32 : decode cX1_hangingAtOnce 32 = .ok (.goto (-28), 3) := by decide +kernel
theorem dX1_hangingAtOnce_35 : decode cX1_hangingAtOnce 35 = .ok (.iload_n 2, 1) := by decide +kernel
theorem dX1_hangingAtOnce_36 : decode cX1_hangingAtOnce 36 = .ok (.ireturn, 1) := by decide +kernel
theorem dX1_hangingInAll_0 : decode cX1_hangingInAll 0 = .ok (.iconst 0, 1) := by decide +kernel
theorem dX1_hangingInAll_1 : decode cX1_hangingInAll 1 = .ok (.istore_n 2, 1) := by decide +kernel
theorem dX1_hangingInAll_2 : decode cX1_hangingInAll 2 = .ok (.iconst 0, 1) := by decide +kernel
theorem dX1_hangingInAll_3 : decode cX1_hangingInAll 3 = .ok (.istore_n 3, 1) := by decide +kernel
theorem dX1_hangingInAll_4 : decode cX1_hangingInAll 4 = .ok (.iload_n 3, 1) := by decide +kernel
theorem dX1_hangingInAll_5 : decode cX1_hangingInAll 5 = .ok (.aload_n 0, 1) := by decide +kernel
theorem dX1_hangingInAll_6 : decode cX1_hangingInAll 6 = .ok (.getfield 18, 3) := by decide +kernel
theorem dX1_hangingInAll_9 : decode cX1_hangingInAll 9 = .ok (.if_icmp .ge 34, 3) := by decide +kernel
theorem dX1_hangingInAll_12 : decode cX1_hangingInAll 12 = .ok (.iload_n 2, 1) := by decide +kernel
theorem dX1_hangingInAll_13 : decode cX1_hangingInAll 13 = .ok (.iload_n 3, 1) := by decide +kernel
theorem dX1_hangingInAll_14 : decode cX1_hangingInAll 14 = .ok (.iload_n 1, 1) := by decide +kernel
theorem dX1_hangingInAll_15 : decode cX1_hangingInAll 15 = .ok (.if_icmp .eq 19, 3) := by decide +kernel
theorem dX1_hangingInAll_18 : decode cX1_hangingInAll 18 = .ok (.aload_n 0, 1) := by decide +kernel
theorem dX1_hangingInAll_19 : decode cX1_hangingInAll 19 = .ok (.getfield 15, 3) := by decide +kernel
theorem dX1_hangingInAll_22 : decode cX1_hangingInAll 22 = .ok (.iload_n 3, 1) := by decide +kernel
theorem dX1_hangingInAll_23 : decode cX1_hangingInAll 23 = .ok (.iload_n 1, 1) := by decide +kernel
theorem dX1_hangingInAll_24 : decode cX1_hangingInAll 24 = .ok (.invokestatic 51, 3) := by decide +kernel
theorem dX1_hangingInAll_27 : decode cX1_hangingInAll 27 = .ok (.ifCond .eq 7, 3) := by decide +kernel
theorem dX1_hangingInAll_30 : decode cX1_hangingInAll 30 = .ok (.iconst 1, 1) := by decide +kernel
theorem dX1_hangingInAll_31 : decode cX1_hangingInAll 31 = .ok (.goto 4, 3) := by decide +kernel
theorem dX1_hangingInAll_34 : decode cX1_hangingInAll 34 = .ok (.iconst 0, 1) := by decide +kernel
theorem dX1_hangingInAll_35 : decode cX1_hangingInAll 35 = .ok (.iadd, 1) := by decide +kernel
theorem dX1_hangingInAll_36 : decode cX1_hangingInAll 36 = .ok (.istore_n 2, 1) := by decide +kernel
theorem dX1_hangingInAll_37 : decode cX1_hangingInAll 37 = .ok (.iinc 3 1, 3) := by decide +kernel
theorem dX1_hangingInAll_40 : decode cX1_hangingInAll 40 = .ok (.goto (-36), 3) := by decide +kernel
theorem dX1_hangingInAll_43 : decode cX1_hangingInAll 43 = .ok (.iload_n 2, 1) := by decide +kernel
theorem dX1_hangingInAll_44 : decode cX1_hangingInAll 44 = .ok (.ireturn, 1) := by decide +kernel
theorem dX1_sizeOfHang_0 : decode cX1_sizeOfHang 0 = .ok (.aload_n 0, 1) := by decide +kernel
theorem dX1_sizeOfHang_1 : decode cX1_sizeOfHang 1 = .ok (.aload_n 0, 1) := by decide +kernel
theorem dX1_sizeOfHang_2 : decode cX1_sizeOfHang 2 = .ok (.iload_n 1, 1) := by decide +kernel
theorem dX1_sizeOfHang_3 : decode cX1_sizeOfHang 3 = .ok (.invokevirtual 55, 3) := by decide +kernel
theorem dX1_sizeOfHang_6 : decode cX1_sizeOfHang 6 = .ok (.invokevirtual 58, 3) := by decide +kernel
theorem dX1_sizeOfHang_9 : decode cX1_sizeOfHang 9 = .ok (.iconst 1, 1) := by decide +kernel
theorem dX1_sizeOfHang_10 : decode cX1_sizeOfHang 10 = .ok (.iadd, 1) := by decide +kernel
theorem dX1_sizeOfHang_11 : decode cX1_sizeOfHang 11 = .ok (.ireturn, 1) := by decide +kernel
theorem dX1_countRoots_0 : decode cX1_countRoots 0 = .ok (.aload_n 0, 1) := by decide +kernel
theorem dX1_countRoots_1 : decode cX1_countRoots 1 = .ok (.iconst (-1), 1) := by decide +kernel
theorem dX1_countRoots_2 : decode cX1_countRoots 2 = .ok (.invokevirtual 61, 3) := by decide +kernel
theorem dX1_countRoots_5 : decode cX1_countRoots 5 = .ok (.ireturn, 1) := by decide +kernel
theorem dX1_sumOfDepths_0 : decode cX1_sumOfDepths 0 = .ok (.iconst 0, 1) := by decide +kernel
theorem dX1_sumOfDepths_1 : decode cX1_sumOfDepths 1 = .ok (.istore_n 1, 1) := by decide +kernel
theorem dX1_sumOfDepths_2 : decode cX1_sumOfDepths 2 = .ok (.iconst 0, 1) := by decide +kernel
theorem dX1_sumOfDepths_3 : decode cX1_sumOfDepths 3 = .ok (.istore_n 2, 1) := by decide +kernel
theorem dX1_sumOfDepths_4 : decode cX1_sumOfDepths 4 = .ok (.iload_n 2, 1) := by decide +kernel
theorem dX1_sumOfDepths_5 : decode cX1_sumOfDepths 5 = .ok (.aload_n 0, 1) := by decide +kernel
theorem dX1_sumOfDepths_6 : decode cX1_sumOfDepths 6 = .ok (.getfield 18, 3) := by decide +kernel
theorem dX1_sumOfDepths_9 : decode cX1_sumOfDepths 9 = .ok (.if_icmp .ge 17, 3) := by decide +kernel
theorem dX1_sumOfDepths_12 : decode cX1_sumOfDepths 12 = .ok (.iload_n 1, 1) := by decide +kernel
theorem dX1_sumOfDepths_13 : decode cX1_sumOfDepths 13 = .ok (.aload_n 0, 1) := by decide +kernel
theorem dX1_sumOfDepths_14 : decode cX1_sumOfDepths 14 = .ok (.iload_n 2, 1) := by decide +kernel
theorem dX1_sumOfDepths_15 : decode cX1_sumOfDepths 15 = .ok (.invokevirtual 64, 3) := by decide +kernel
theorem dX1_sumOfDepths_18 : decode cX1_sumOfDepths 18 = .ok (.iadd, 1) := by decide +kernel
theorem dX1_sumOfDepths_19 : decode cX1_sumOfDepths 19 = .ok (.istore_n 1, 1) := by decide +kernel
theorem dX1_sumOfDepths_20 : decode cX1_sumOfDepths 20 = .ok (.iinc 2 1, 3) := by decide +kernel
theorem dX1_sumOfDepths_23 : decode cX1_sumOfDepths 23 = .ok (.goto (-19), 3) := by decide +kernel
theorem dX1_sumOfDepths_26 : decode cX1_sumOfDepths 26 = .ok (.iload_n 1, 1) := by decide +kernel
theorem dX1_sumOfDepths_27 : decode cX1_sumOfDepths 27 = .ok (.ireturn, 1) := by decide +kernel
theorem dX1_sumOfWeights_0 : decode cX1_sumOfWeights 0 = .ok (.iconst 0, 1) := by decide +kernel
theorem dX1_sumOfWeights_1 : decode cX1_sumOfWeights 1 = .ok (.istore_n 1, 1) := by decide +kernel
theorem dX1_sumOfWeights_2 : decode cX1_sumOfWeights 2 = .ok (.iconst 0, 1) := by decide +kernel
theorem dX1_sumOfWeights_3 : decode cX1_sumOfWeights 3 = .ok (.istore_n 2, 1) := by decide +kernel
theorem dX1_sumOfWeights_4 : decode cX1_sumOfWeights 4 = .ok (.iload_n 2, 1) := by decide +kernel
theorem dX1_sumOfWeights_5 : decode cX1_sumOfWeights 5 = .ok (.aload_n 0, 1) := by decide +kernel
theorem dX1_sumOfWeights_6 : decode cX1_sumOfWeights 6 = .ok (.getfield 18, 3) := by decide +kernel
theorem dX1_sumOfWeights_9 : decode cX1_sumOfWeights 9 = .ok (.if_icmp .ge 17, 3) := by decide +kernel
theorem dX1_sumOfWeights_12 : decode cX1_sumOfWeights 12 = .ok (.iload_n 1, 1) := by decide +kernel
theorem dX1_sumOfWeights_13 : decode cX1_sumOfWeights 13 = .ok (.aload_n 0, 1) := by decide +kernel
theorem dX1_sumOfWeights_14 : decode cX1_sumOfWeights 14 = .ok (.iload_n 2, 1) := by decide +kernel
theorem dX1_sumOfWeights_15 : decode cX1_sumOfWeights 15 = .ok (.invokevirtual 44, 3) := by decide +kernel
theorem dX1_sumOfWeights_18 : decode cX1_sumOfWeights 18 = .ok (.iadd, 1) := by decide +kernel
theorem dX1_sumOfWeights_19 : decode cX1_sumOfWeights 19 = .ok (.istore_n 1, 1) := by decide +kernel
theorem dX1_sumOfWeights_20 : decode cX1_sumOfWeights 20 = .ok (.iinc 2 1, 3) := by decide +kernel
theorem dX1_sumOfWeights_23 : decode cX1_sumOfWeights 23 = .ok (.goto (-19), 3) := by decide +kernel
theorem dX1_sumOfWeights_26 : decode cX1_sumOfWeights 26 = .ok (.iload_n 1, 1) := by decide +kernel
theorem dX1_sumOfWeights_27 : decode cX1_sumOfWeights 27 = .ok (.ireturn, 1) := by decide +kernel
theorem dX1_blockOfRank_0 : decode cX1_blockOfRank 0 = .ok (.iconst 0, 1) := by decide +kernel
theorem dX1_blockOfRank_1 : decode cX1_blockOfRank 1 = .ok (.istore_n 2, 1) := by decide +kernel
theorem dX1_blockOfRank_2 : decode cX1_blockOfRank 2 = .ok (.iload_n 2, 1) := by decide +kernel
theorem dX1_blockOfRank_3 : decode cX1_blockOfRank 3 = .ok (.aload_n 0, 1) := by decide +kernel
theorem dX1_blockOfRank_4 : decode cX1_blockOfRank 4 = .ok (.getfield 18, 3) := by decide +kernel
theorem dX1_blockOfRank_7 : decode cX1_blockOfRank 7 = .ok (.if_icmp .ge 20, 3) := by decide +kernel
theorem dX1_blockOfRank_10 : decode cX1_blockOfRank 10 = .ok (.aload_n 0, 1) := by decide +kernel
theorem dX1_blockOfRank_11 : decode cX1_blockOfRank 11 = .ok (.iload_n 2, 1) := by decide +kernel
theorem dX1_blockOfRank_12 : decode cX1_blockOfRank 12 = .ok (.invokevirtual 67, 3) := by decide +kernel
theorem dX1_blockOfRank_15 : decode cX1_blockOfRank 15 = .ok (.iload_n 1, 1) := by decide +kernel
theorem dX1_blockOfRank_16 : decode cX1_blockOfRank 16 = .ok (.if_icmp .ne 5, 3) := by decide +kernel
theorem dX1_blockOfRank_19 : decode cX1_blockOfRank 19 = .ok (.iload_n 2, 1) := by decide +kernel
theorem dX1_blockOfRank_20 : decode cX1_blockOfRank 20 = .ok (.ireturn, 1) := by decide +kernel
theorem dX1_blockOfRank_21 : decode cX1_blockOfRank 21 = .ok (.iinc 2 1, 3) := by decide +kernel
theorem dX1_blockOfRank_24 : decode cX1_blockOfRank 24 = .ok (.goto (-22), 3) := by decide +kernel
theorem dX1_blockOfRank_27 : decode cX1_blockOfRank 27 = .ok (.iconst (-1), 1) := by decide +kernel
theorem dX1_blockOfRank_28 : decode cX1_blockOfRank 28 = .ok (.ireturn, 1) := by decide +kernel
theorem dX1_rankOf_0 : decode cX1_rankOf 0 = .ok (.iconst 0, 1) := by decide +kernel
theorem dX1_rankOf_1 : decode cX1_rankOf 1 = .ok (.istore_n 2, 1) := by decide +kernel
theorem dX1_rankOf_2 : decode cX1_rankOf 2 = .ok (.iconst 0, 1) := by decide +kernel
theorem dX1_rankOf_3 : decode cX1_rankOf 3 = .ok (.istore_n 3, 1) := by decide +kernel
theorem dX1_rankOf_4 : decode cX1_rankOf 4 = .ok (.iload_n 3, 1) := by decide +kernel
theorem dX1_rankOf_5 : decode cX1_rankOf 5 = .ok (.aload_n 0, 1) := by decide +kernel
theorem dX1_rankOf_6 : decode cX1_rankOf 6 = .ok (.getfield 18, 3) := by decide +kernel
theorem dX1_rankOf_9 : decode cX1_rankOf 9 = .ok (.if_icmp .ge 26, 3) := by decide +kernel
theorem dX1_rankOf_12 : decode cX1_rankOf 12 = .ok (.iload_n 2, 1) := by decide +kernel
theorem dX1_rankOf_13 : decode cX1_rankOf 13 = .ok (.aload_n 0, 1) := by decide +kernel
theorem dX1_rankOf_14 : decode cX1_rankOf 14 = .ok (.iload_n 3, 1) := by decide +kernel
theorem dX1_rankOf_15 : decode cX1_rankOf 15 = .ok (.iload_n 1, 1) := by decide +kernel
theorem dX1_rankOf_16 : decode cX1_rankOf 16 = .ok (.invokevirtual 70, 3) := by decide +kernel
theorem dX1_rankOf_19 : decode cX1_rankOf 19 = .ok (.ifCond .eq 7, 3) := by decide +kernel
theorem dX1_rankOf_22 : decode cX1_rankOf 22 = .ok (.iconst 1, 1) := by decide +kernel
theorem dX1_rankOf_23 : decode cX1_rankOf 23 = .ok (.goto 4, 3) := by decide +kernel
theorem dX1_rankOf_26 : decode cX1_rankOf 26 = .ok (.iconst 0, 1) := by decide +kernel
theorem dX1_rankOf_27 : decode cX1_rankOf 27 = .ok (.iadd, 1) := by decide +kernel
theorem dX1_rankOf_28 : decode cX1_rankOf 28 = .ok (.istore_n 2, 1) := by decide +kernel
theorem dX1_rankOf_29 : decode cX1_rankOf 29 = .ok (.iinc 3 1, 3) := by decide +kernel
theorem dX1_rankOf_32 : decode cX1_rankOf 32 = .ok (.goto (-28), 3) := by decide +kernel
theorem dX1_rankOf_35 : decode cX1_rankOf 35 = .ok (.iload_n 2, 1) := by decide +kernel
theorem dX1_rankOf_36 : decode cX1_rankOf 36 = .ok (.ireturn, 1) := by decide +kernel
theorem dX1_isBefore_0 : decode cX1_isBefore 0 = .ok (.aload_n 0, 1) := by decide +kernel
theorem dX1_isBefore_1 : decode cX1_isBefore 1 = .ok (.iload_n 1, 1) := by decide +kernel
theorem dX1_isBefore_2 : decode cX1_isBefore 2 = .ok (.invokevirtual 44, 3) := by decide +kernel
theorem dX1_isBefore_5 : decode cX1_isBefore 5 = .ok (.aload_n 0, 1) := by decide +kernel
theorem dX1_isBefore_6 : decode cX1_isBefore 6 = .ok (.iload_n 2, 1) := by decide +kernel
theorem dX1_isBefore_7 : decode cX1_isBefore 7 = .ok (.invokevirtual 44, 3) := by decide +kernel
theorem dX1_isBefore_10 : decode cX1_isBefore 10 = .ok (.if_icmp .eq 22, 3) := by decide +kernel
theorem dX1_isBefore_13 : decode cX1_isBefore 13 = .ok (.aload_n 0, 1) := by decide +kernel
theorem dX1_isBefore_14 : decode cX1_isBefore 14 = .ok (.iload_n 1, 1) := by decide +kernel
theorem dX1_isBefore_15 : decode cX1_isBefore 15 = .ok (.invokevirtual 44, 3) := by decide +kernel
theorem dX1_isBefore_18 : decode cX1_isBefore 18 = .ok (.aload_n 0, 1) := by decide +kernel
theorem dX1_isBefore_19 : decode cX1_isBefore 19 = .ok (.iload_n 2, 1) := by decide +kernel
theorem dX1_isBefore_20 : decode cX1_isBefore 20 = .ok (.invokevirtual 44, 3) := by decide +kernel
theorem dX1_isBefore_23 : decode cX1_isBefore 23 = .ok (.if_icmp .le 7, 3) := by decide +kernel
theorem dX1_isBefore_26 : decode cX1_isBefore 26 = .ok (.iconst 1, 1) := by decide +kernel
theorem dX1_isBefore_27 : decode cX1_isBefore 27 = .ok (.goto 4, 3) := by decide +kernel
theorem dX1_isBefore_30 : decode cX1_isBefore 30 = .ok (.iconst 0, 1) := by decide +kernel
theorem dX1_isBefore_31 : decode cX1_isBefore 31 = .ok (.ireturn, 1) := by decide +kernel
theorem dX1_isBefore_32 : decode cX1_isBefore 32 = .ok (.aload_n 0, 1) := by decide +kernel
theorem dX1_isBefore_33 : decode cX1_isBefore 33 = .ok (.iload_n 1, 1) := by decide +kernel
theorem dX1_isBefore_34 : decode cX1_isBefore 34 = .ok (.invokevirtual 64, 3) := by decide +kernel
theorem dX1_isBefore_37 : decode cX1_isBefore 37 = .ok (.istore_n 3, 1) := by decide +kernel
theorem dX1_isBefore_38 : decode cX1_isBefore 38 = .ok (.aload_n 0, 1) := by decide +kernel
theorem dX1_isBefore_39 : decode cX1_isBefore 39 = .ok (.iload_n 2, 1) := by decide +kernel
theorem dX1_isBefore_40 : decode cX1_isBefore 40 = .ok (.invokevirtual 64, 3) := by decide +kernel
theorem dX1_isBefore_43 : decode cX1_isBefore 43 = .ok (.istore 4, 2) := by decide +kernel
theorem dX1_isBefore_45 : decode cX1_isBefore 45 = .ok (.iload_n 3, 1) := by decide +kernel
theorem dX1_isBefore_46 : decode cX1_isBefore 46 = .ok (.iload 4, 2) := by decide +kernel
theorem dX1_isBefore_48 : decode cX1_isBefore 48 = .ok (.if_icmp .eq 17, 3) := by decide +kernel
theorem dX1_isBefore_51 : decode cX1_isBefore 51 = .ok (.iload_n 3, 1) := by decide +kernel
theorem dX1_isBefore_52 : decode cX1_isBefore 52 = .ok (.iload 4, 2) := by decide +kernel
theorem dX1_isBefore_54 : decode cX1_isBefore 54 = .ok (.if_icmp .ge 7, 3) := by decide +kernel
theorem dX1_isBefore_57 : decode cX1_isBefore 57 = .ok (.iconst 1, 1) := by decide +kernel
theorem dX1_isBefore_58 : decode cX1_isBefore 58 = .ok (.goto 17, 3) := by decide +kernel
theorem dX1_isBefore_61 : decode cX1_isBefore 61 = .ok (.iconst 0, 1) := by decide +kernel
theorem dX1_isBefore_62 : decode cX1_isBefore 62 = .ok (.goto 13, 3) := by decide +kernel
theorem dX1_isBefore_65 : decode cX1_isBefore 65 = .ok (.iload_n 1, 1) := by decide +kernel
theorem dX1_isBefore_66 : decode cX1_isBefore 66 = .ok (.iload_n 2, 1) := by decide +kernel
theorem dX1_isBefore_67 : decode cX1_isBefore 67 = .ok (.if_icmp .ge 7, 3) := by decide +kernel
theorem dX1_isBefore_70 : decode cX1_isBefore 70 = .ok (.iconst 1, 1) := by decide +kernel
theorem dX1_isBefore_71 : decode cX1_isBefore 71 = .ok (.goto 4, 3) := by decide +kernel
theorem dX1_isBefore_74 : decode cX1_isBefore 74 = .ok (.iconst 0, 1) := by decide +kernel
theorem dX1_isBefore_75 : decode cX1_isBefore 75 = .ok (.ireturn, 1) := by decide +kernel
theorem dX2_init_0 : decode cX2_init 0 = .ok (.aload_n 0, 1) := by decide +kernel
theorem dX2_init_1 : decode cX2_init 1 = .ok (.invokespecial 3, 3) := by decide +kernel
theorem dX2_init_4 : decode cX2_init 4 = .ok (.aload_n 0, 1) := by decide +kernel
theorem dX2_init_5 : decode cX2_init 5 = .ok (.bipush 9, 2) := by decide +kernel
theorem dX2_init_7 : decode cX2_init 7 = .ok (.anewarray 11, 3) := by decide +kernel
theorem dX2_init_10 : decode cX2_init 10 = .ok (.putfield 13, 3) := by decide +kernel
theorem dX2_init_13 : decode cX2_init 13 = .ok (.iconst 0, 1) := by decide +kernel
theorem dX2_init_14 : decode cX2_init 14 = .ok (.istore_n 1, 1) := by decide +kernel
theorem dX2_init_15 : decode cX2_init 15 = .ok (.iload_n 1, 1) := by decide +kernel
theorem dX2_init_16 : decode cX2_init 16 = .ok (.aload_n 0, 1) := by decide +kernel
theorem dX2_init_17 : decode cX2_init 17 = .ok (.getfield 13, 3) := by decide +kernel
theorem dX2_init_20 : decode cX2_init 20 = .ok (.arraylength, 1) := by decide +kernel
theorem dX2_init_21 : decode cX2_init 21 = .ok (.if_icmp .ge 22, 3) := by decide +kernel
theorem dX2_init_24 : decode cX2_init 24 = .ok (.aload_n 0, 1) := by decide +kernel
theorem dX2_init_25 : decode cX2_init 25 = .ok (.getfield 13, 3) := by decide +kernel
theorem dX2_init_28 : decode cX2_init 28 = .ok (.iload_n 1, 1) := by decide +kernel
theorem dX2_init_29 : decode cX2_init 29 = .ok (.new 11, 3) := by decide +kernel
theorem dX2_init_32 : decode cX2_init 32 = .ok (.dup, 1) := by decide +kernel
theorem dX2_init_33 : decode cX2_init 33 = .ok (.invokespecial 17, 3) := by decide +kernel
theorem dX2_init_36 : decode cX2_init 36 = .ok (.aastore, 1) := by decide +kernel
theorem dX2_init_37 : decode cX2_init 37 = .ok (.iinc 1 1, 3) := by decide +kernel
theorem dX2_init_40 : decode cX2_init 40 = .ok (.goto (-25), 3) := by decide +kernel
theorem dX2_init_43 : decode cX2_init 43 = .ok (.return_, 1) := by decide +kernel
theorem dX2_forget_0 : decode cX2_forget 0 = .ok (.aload_n 0, 1) := by decide +kernel
theorem dX2_forget_1 : decode cX2_forget 1 = .ok (.iconst 0, 1) := by decide +kernel
theorem dX2_forget_2 : decode cX2_forget 2 = .ok (.putfield 18, 3) := by decide +kernel
theorem dX2_forget_5 : decode cX2_forget 5 = .ok (.return_, 1) := by decide +kernel
theorem dX2_draft_0 : decode cX2_draft 0 = .ok (.aload_n 0, 1) := by decide +kernel
theorem dX2_draft_1 : decode cX2_draft 1 = .ok (.invokevirtual 22, 3) := by decide +kernel
theorem dX2_draft_4 : decode cX2_draft 4 = .ok (.astore_n 2, 1) := by decide +kernel
theorem dX2_draft_5 : decode cX2_draft 5 = .ok (.aload_n 2, 1) := by decide +kernel
theorem dX2_draft_6 : decode cX2_draft 6 = .ok (.ifnull 8, 3) := by decide +kernel
theorem dX2_draft_9 : decode cX2_draft 9 = .ok (.aload_n 2, 1) := by decide +kernel
theorem dX2_draft_10 : decode cX2_draft 10 = .ok (.aload_n 1, 1) := by decide +kernel
theorem dX2_draft_11 : decode cX2_draft 11 = .ok (.invokevirtual 26, 3) := by decide +kernel
theorem dX2_draft_14 : decode cX2_draft 14 = .ok (.return_, 1) := by decide +kernel
theorem dX2_dropDraft_0 : decode cX2_dropDraft 0 = .ok (.aload_n 0, 1) := by decide +kernel
theorem dX2_dropDraft_1 : decode cX2_dropDraft 1 = .ok (.invokevirtual 22, 3) := by decide +kernel
theorem dX2_dropDraft_4 : decode cX2_dropDraft 4 = .ok (.astore_n 2, 1) := by decide +kernel
theorem dX2_dropDraft_5 : decode cX2_dropDraft 5 = .ok (.aload_n 1, 1) := by decide +kernel
theorem dX2_dropDraft_6 : decode cX2_dropDraft 6 = .ok (.ifnull 12, 3) := by decide +kernel
theorem dX2_dropDraft_9 : decode cX2_dropDraft 9 = .ok (.aload_n 2, 1) := by decide +kernel
theorem dX2_dropDraft_10 : decode cX2_dropDraft 10 = .ok (.ifnull 8, 3) := by decide +kernel
theorem dX2_dropDraft_13 : decode cX2_dropDraft 13 = .ok (.aload_n 1, 1) := by decide +kernel
theorem dX2_dropDraft_14 : decode cX2_dropDraft 14 = .ok (.aload_n 2, 1) := by decide +kernel
theorem dX2_dropDraft_15 : decode cX2_dropDraft 15 = .ok (.invokevirtual 26, 3) := by decide +kernel
theorem dX2_dropDraft_18 : decode cX2_dropDraft 18 = .ok (.return_, 1) := by decide +kernel
theorem dX2_keepDraft_0 : decode cX2_keepDraft 0 = .ok (.aload_n 0, 1) := by decide +kernel
theorem dX2_keepDraft_1 : decode cX2_keepDraft 1 = .ok (.aload_n 0, 1) := by decide +kernel
theorem dX2_keepDraft_2 : decode cX2_keepDraft 2 = .ok (.getfield 30, 3) := by decide +kernel
theorem dX2_keepDraft_5 : decode cX2_keepDraft 5 = .ok (.iconst 1, 1) := by decide +kernel
theorem dX2_keepDraft_6 : decode cX2_keepDraft 6 = .ok (.iadd, 1) := by decide +kernel
theorem dX2_keepDraft_7 : decode cX2_keepDraft 7 = .ok (.bipush 9, 2) := by decide +kernel
theorem dX2_keepDraft_9 : decode cX2_keepDraft 9 = .ok (.if_icmp .ge 12, 3) := by decide +kernel
theorem dX2_keepDraft_12 : decode cX2_keepDraft 12 = .ok (.aload_n 0, 1) := by decide +kernel
theorem dX2_keepDraft_13 : decode cX2_keepDraft 13 = .ok (.getfield 30, 3) := by decide +kernel
theorem dX2_keepDraft_16 : decode cX2_keepDraft 16 = .ok (.iconst 1, 1) := by decide +kernel
theorem dX2_keepDraft_17 : decode cX2_keepDraft 17 = .ok (.iadd, 1) := by decide +kernel
theorem dX2_keepDraft_18 : decode cX2_keepDraft 18 = .ok (.goto 4, 3) := by decide +kernel
theorem dX2_keepDraft_21 : decode cX2_keepDraft 21 = .ok (.iconst 0, 1) := by decide +kernel
theorem dX2_keepDraft_22 : decode cX2_keepDraft 22 = .ok (.putfield 30, 3) := by decide +kernel
theorem dX2_keepDraft_25 : decode cX2_keepDraft 25 = .ok (.aload_n 0, 1) := by decide +kernel
theorem dX2_keepDraft_26 : decode cX2_keepDraft 26 = .ok (.aload_n 0, 1) := by decide +kernel
theorem dX2_keepDraft_27 : decode cX2_keepDraft 27 = .ok (.getfield 18, 3) := by decide +kernel
theorem dX2_keepDraft_30 : decode cX2_keepDraft 30 = .ok (.iconst 1, 1) := by decide +kernel
theorem dX2_keepDraft_31 : decode cX2_keepDraft 31 = .ok (.iadd, 1) := by decide +kernel
theorem dX2_keepDraft_32 : decode cX2_keepDraft 32 = .ok (.bipush 8, 2) := by decide +kernel
theorem dX2_keepDraft_34 : decode cX2_keepDraft 34 = .ok (.invokestatic 33, 3) := by decide +kernel
theorem dX2_keepDraft_37 : decode cX2_keepDraft 37 = .ok (.putfield 18, 3) := by decide +kernel
theorem dX2_keepDraft_40 : decode cX2_keepDraft 40 = .ok (.return_, 1) := by decide +kernel
theorem dX2_takeBack_0 : decode cX2_takeBack 0 = .ok (.aload_n 0, 1) := by decide +kernel
theorem dX2_takeBack_1 : decode cX2_takeBack 1 = .ok (.getfield 18, 3) := by decide +kernel
theorem dX2_takeBack_4 : decode cX2_takeBack 4 = .ok (.ifCond .gt 5, 3) := by decide +kernel
theorem dX2_takeBack_7 : decode cX2_takeBack 7 = .ok (.iconst 0, 1) := by decide +kernel
theorem dX2_takeBack_8 : decode cX2_takeBack 8 = .ok (.ireturn, 1) := by decide +kernel
theorem dX2_takeBack_9 : decode cX2_takeBack 9 = .ok (.aload_n 0, 1) := by decide +kernel
theorem dX2_takeBack_10 : decode cX2_takeBack 10 = .ok (.dup, 1) := by decide +kernel
theorem dX2_takeBack_11 : decode cX2_takeBack 11 = .ok (.getfield 18, 3) := by decide +kernel
theorem dX2_takeBack_14 : decode cX2_takeBack 14 = .ok (.iconst 1, 1) := by decide +kernel
theorem dX2_takeBack_15 : decode cX2_takeBack 15 = .ok (.isub, 1) := by decide +kernel
theorem dX2_takeBack_16 : decode cX2_takeBack 16 = .ok (.putfield 18, 3) := by decide +kernel
theorem dX2_takeBack_19 : decode cX2_takeBack 19 = .ok (.aload_n 0, 1) := by decide +kernel
theorem dX2_takeBack_20 : decode cX2_takeBack 20 = .ok (.aload_n 0, 1) := by decide +kernel
theorem dX2_takeBack_21 : decode cX2_takeBack 21 = .ok (.getfield 30, 3) := by decide +kernel
theorem dX2_takeBack_24 : decode cX2_takeBack 24 = .ok (.ifCond .le 12, 3) := by decide +kernel
theorem dX2_takeBack_27 : decode cX2_takeBack 27 = .ok (.aload_n 0, 1) := by decide +kernel
theorem dX2_takeBack_28 : decode cX2_takeBack 28 = .ok (.getfield 30, 3) := by decide +kernel
theorem dX2_takeBack_31 : decode cX2_takeBack 31 = .ok (.iconst 1, 1) := by decide +kernel
theorem dX2_takeBack_32 : decode cX2_takeBack 32 = .ok (.isub, 1) := by decide +kernel
theorem dX2_takeBack_33 : decode cX2_takeBack 33 = .ok (.goto 5, 3) := by decide +kernel
theorem dX2_takeBack_36 : decode cX2_takeBack 36 = .ok (.bipush 8, 2) := by decide +kernel
theorem dX2_takeBack_38 : decode cX2_takeBack 38 = .ok (.putfield 30, 3) := by decide +kernel
theorem dX2_takeBack_41 : decode cX2_takeBack 41 = .ok (.aload_n 0, 1) := by decide +kernel
theorem dX2_takeBack_42 : decode cX2_takeBack 42 = .ok (.aload_n 1, 1) := by decide +kernel
theorem dX2_takeBack_43 : decode cX2_takeBack 43 = .ok (.invokevirtual 39, 3) := by decide +kernel
theorem dX2_takeBack_46 : decode cX2_takeBack 46 = .ok (.iconst 1, 1) := by decide +kernel
theorem dX2_takeBack_47 : decode cX2_takeBack 47 = .ok (.ireturn, 1) := by decide +kernel
theorem dX2_slotOfDraft_0 : decode cX2_slotOfDraft 0 = .ok (.aload_n 0, 1) := by decide +kernel
theorem dX2_slotOfDraft_1 : decode cX2_slotOfDraft 1 = .ok (.getfield 30, 3) := by decide +kernel
theorem dX2_slotOfDraft_4 : decode cX2_slotOfDraft 4 = .ok (.ifCond .lt 27, 3) := by decide +kernel
theorem dX2_slotOfDraft_7 : decode cX2_slotOfDraft 7 = .ok (.aload_n 0, 1) := by decide +kernel
theorem dX2_slotOfDraft_8 : decode cX2_slotOfDraft 8 = .ok (.getfield 30, 3) := by decide +kernel
theorem dX2_slotOfDraft_11 : decode cX2_slotOfDraft 11 = .ok (.aload_n 0, 1) := by decide +kernel
theorem dX2_slotOfDraft_12 : decode cX2_slotOfDraft 12 = .ok (.getfield 13, 3) := by decide +kernel
theorem dX2_slotOfDraft_15 : decode cX2_slotOfDraft 15 = .ok (.arraylength, 1) := by decide +kernel
theorem dX2_slotOfDraft_16 : decode cX2_slotOfDraft 16 = .ok (.if_icmp .ge 15, 3) := by decide +kernel
theorem dX2_slotOfDraft_19 : decode cX2_slotOfDraft 19 = .ok (.aload_n 0, 1) := by decide +kernel
theorem dX2_slotOfDraft_20 : decode cX2_slotOfDraft 20 = .ok (.getfield 13, 3) := by decide +kernel
theorem dX2_slotOfDraft_23 : decode cX2_slotOfDraft 23 = .ok (.aload_n 0, 1) := by decide +kernel
theorem dX2_slotOfDraft_24 : decode cX2_slotOfDraft 24 = .ok (.getfield 30, 3) := by decide +kernel
theorem dX2_slotOfDraft_27 : decode cX2_slotOfDraft 27 = .ok (.aaload, 1) := by decide +kernel
theorem dX2_slotOfDraft_28 : decode cX2_slotOfDraft 28 = .ok (.goto 4, 3) := by decide +kernel
theorem dX2_slotOfDraft_31 : decode cX2_slotOfDraft 31 = .ok (.aconst_null, 1) := by decide +kernel
theorem dX2_slotOfDraft_32 : decode cX2_slotOfDraft 32 = .ok (.areturn, 1) := by decide +kernel
theorem dX3_init_0 : decode cX3_init 0 = .ok (.aload_n 0, 1) := by decide +kernel
theorem dX3_init_1 : decode cX3_init 1 = .ok (.invokespecial 3, 3) := by decide +kernel
theorem dX3_init_4 : decode cX3_init 4 = .ok (.aload_n 0, 1) := by decide +kernel
theorem dX3_init_5 : decode cX3_init 5 = .ok (.bipush 60, 2) := by decide +kernel
theorem dX3_init_7 : decode cX3_init 7 = .ok (.newarray .int, 2) := by decide +kernel
theorem dX3_init_9 : decode cX3_init 9 = .ok (.putfield 9, 3) := by decide +kernel
theorem dX3_init_12 : decode cX3_init 12 = .ok (.aload_n 0, 1) := by decide +kernel
theorem dX3_init_13 : decode cX3_init 13 = .ok (.bipush 60, 2) := by decide +kernel
theorem dX3_init_15 : decode cX3_init 15 = .ok (.anewarray 15, 3) := by decide +kernel
theorem dX3_init_18 : decode cX3_init 18 = .ok (.putfield 17, 3) := by decide +kernel
theorem dX3_init_21 : decode cX3_init 21 = .ok (.aload_n 0, 1) := by decide +kernel
theorem dX3_init_22 : decode cX3_init 22 = .ok (.bipush 60, 2) := by decide +kernel
theorem dX3_init_24 : decode cX3_init 24 = .ok (.newarray .int, 2) := by decide +kernel
theorem dX3_init_26 : decode cX3_init 26 = .ok (.putfield 21, 3) := by decide +kernel
theorem dX3_init_29 : decode cX3_init 29 = .ok (.aload_n 0, 1) := by decide +kernel
theorem dX3_init_30 : decode cX3_init 30 = .ok (.bipush 60, 2) := by decide +kernel
theorem dX3_init_32 : decode cX3_init 32 = .ok (.newarray .int, 2) := by decide +kernel
theorem dX3_init_34 : decode cX3_init 34 = .ok (.putfield 24, 3) := by decide +kernel
theorem dX3_init_37 : decode cX3_init 37 = .ok (.return_, 1) := by decide +kernel
theorem dX3_add_0 : decode cX3_add 0 = .ok (.iload_n 1, 1) := by decide +kernel
theorem dX3_add_1 : decode cX3_add 1 = .ok (.bipush 32, 2) := by decide +kernel
theorem dX3_add_3 : decode cX3_add 3 = .ok (.if_icmp .lt 18, 3) := by decide +kernel
theorem dX3_add_6 : decode cX3_add 6 = .ok (.iload_n 1, 1) := by decide +kernel
theorem dX3_add_7 : decode cX3_add 7 = .ok (.bipush 126, 2) := by decide +kernel
theorem dX3_add_9 : decode cX3_add 9 = .ok (.if_icmp .gt 12, 3) := by decide +kernel
theorem dX3_add_12 : decode cX3_add 12 = .ok (.aload_n 0, 1) := by decide +kernel
theorem dX3_add_13 : decode cX3_add 13 = .ok (.getfield 27, 3) := by decide +kernel
theorem dX3_add_16 : decode cX3_add 16 = .ok (.bipush 60, 2) := by decide +kernel
theorem dX3_add_18 : decode cX3_add 18 = .ok (.if_icmp .lt 6, 3) := by decide +kernel
theorem dX3_add_21 : decode cX3_add 21 = .ok (.bipush (-2), 2) := by decide +kernel
theorem dX3_add_23 : decode cX3_add 23 = .ok (.ireturn, 1) := by decide +kernel
theorem dX3_add_24 : decode cX3_add 24 = .ok (.aload_n 0, 1) := by decide +kernel
theorem dX3_add_25 : decode cX3_add 25 = .ok (.getfield 9, 3) := by decide +kernel
theorem dX3_add_28 : decode cX3_add 28 = .ok (.aload_n 0, 1) := by decide +kernel
theorem dX3_add_29 : decode cX3_add 29 = .ok (.getfield 27, 3) := by decide +kernel
theorem dX3_add_32 : decode cX3_add 32 = .ok (.iload_n 1, 1) := by decide +kernel
theorem dX3_add_33 : decode cX3_add 33 = .ok (.invokestatic 31, 3) := by decide +kernel
theorem dX3_add_36 : decode cX3_add 36 = .ok (.aload_n 0, 1) := by decide +kernel
theorem dX3_add_37 : decode cX3_add 37 = .ok (.dup, 1) := by decide +kernel
theorem dX3_add_38 : decode cX3_add 38 = .ok (.getfield 27, 3) := by decide +kernel
theorem dX3_add_41 : decode cX3_add 41 = .ok (.iconst 1, 1) := by decide +kernel
theorem dX3_add_42 : decode cX3_add 42 = .ok (.iadd, 1) := by decide +kernel
theorem dX3_add_43 : decode cX3_add 43 = .ok (.putfield 27, 3) := by decide +kernel
theorem dX3_add_46 : decode cX3_add 46 = .ok (.aload_n 0, 1) := by decide +kernel
theorem dX3_add_47 : decode cX3_add 47 = .ok (.getfield 27, 3) := by decide +kernel
theorem dX3_add_50 : decode cX3_add 50 = .ok (.ireturn, 1) := by decide +kernel
theorem dX3_makeEmpty_0 : decode cX3_makeEmpty 0 = .ok (.aload_n 0, 1) := by decide +kernel
theorem dX3_makeEmpty_1 : decode cX3_makeEmpty 1 = .ok (.iconst 0, 1) := by decide +kernel
theorem dX3_makeEmpty_2 : decode cX3_makeEmpty 2 = .ok (.putfield 27, 3) := by decide +kernel
theorem dX3_makeEmpty_5 : decode cX3_makeEmpty 5 = .ok (.return_, 1) := by decide +kernel
theorem dX3_wordOf_0 : decode cX3_wordOf 0 = .ok (.iload_n 1, 1) := by decide +kernel
theorem dX3_wordOf_1 : decode cX3_wordOf 1 = .ok (.ifCond .lt 29, 3) := by decide +kernel
theorem dX3_wordOf_4 : decode cX3_wordOf 4 = .ok (.iload_n 1, 1) := by decide +kernel
theorem dX3_wordOf_5 : decode cX3_wordOf 5 = .ok (.aload_n 0, 1) := by decide +kernel
theorem dX3_wordOf_6 : decode cX3_wordOf 6 = .ok (.getfield 35, 3) := by decide +kernel
theorem dX3_wordOf_9 : decode cX3_wordOf 9 = .ok (.if_icmp .ge 21, 3) := by decide +kernel
theorem dX3_wordOf_12 : decode cX3_wordOf 12 = .ok (.iload_n 1, 1) := by decide +kernel
theorem dX3_wordOf_13 : decode cX3_wordOf 13 = .ok (.aload_n 0, 1) := by decide +kernel
theorem dX3_wordOf_14 : decode cX3_wordOf 14 = .ok (.getfield 17, 3) := by decide +kernel
theorem dX3_wordOf_17 : decode cX3_wordOf 17 = .ok (.arraylength, 1) := by decide +kernel
theorem dX3_wordOf_18 : decode cX3_wordOf 18 = .ok (.if_icmp .ge 12, 3) := by decide +kernel
theorem dX3_wordOf_21 : decode cX3_wordOf 21 = .ok (.aload_n 0, 1) := by decide +kernel
theorem dX3_wordOf_22 : decode cX3_wordOf 22 = .ok (.getfield 17, 3) := by decide +kernel
theorem dX3_wordOf_25 : decode cX3_wordOf 25 = .ok (.iload_n 1, 1) := by decide +kernel
theorem dX3_wordOf_26 : decode cX3_wordOf 26 = .ok (.aaload, 1) := by decide +kernel
theorem dX3_wordOf_27 : decode cX3_wordOf 27 = .ok (.goto 4, 3) := by decide +kernel
theorem dX3_wordOf_30 : decode cX3_wordOf 30 = .ok (.aconst_null, 1) := by decide +kernel
theorem dX3_wordOf_31 : decode cX3_wordOf 31 = .ok (.areturn, 1) := by decide +kernel
theorem dX3_takeApart_0 : decode cX3_takeApart 0 = .ok (.aload_n 0, 1) := by decide +kernel
theorem dX3_takeApart_1 : decode cX3_takeApart 1 = .ok (.iconst 0, 1) := by decide +kernel
theorem dX3_takeApart_2 : decode cX3_takeApart 2 = .ok (.putfield 38, 3) := by decide +kernel
theorem dX3_takeApart_5 : decode cX3_takeApart 5 = .ok (.aload_n 0, 1) := by decide +kernel
theorem dX3_takeApart_6 : decode cX3_takeApart 6 = .ok (.iconst 0, 1) := by decide +kernel
theorem dX3_takeApart_7 : decode cX3_takeApart 7 = .ok (.putfield 35, 3) := by decide +kernel
theorem dX3_takeApart_10 : decode cX3_takeApart 10 = .ok (.iconst 0, 1) := by decide +kernel
theorem dX3_takeApart_11 : decode cX3_takeApart 11 = .ok (.istore_n 1, 1) := by decide +kernel
theorem dX3_takeApart_12 : decode cX3_takeApart 12 = .ok (.iload_n 1, 1) := by decide +kernel
theorem dX3_takeApart_13 : decode cX3_takeApart 13 = .ok (.bipush 60, 2) := by decide +kernel
theorem dX3_takeApart_15 : decode cX3_takeApart 15 = .ok (.if_icmp .ge 42, 3) := by decide +kernel
theorem dX3_takeApart_18 : decode cX3_takeApart 18 = .ok (.aload_n 0, 1) := by decide +kernel
theorem dX3_takeApart_19 : decode cX3_takeApart 19 = .ok (.invokevirtual 41, 3) := by decide +kernel
theorem dX3_takeApart_22 : decode cX3_takeApart 22 = .ok (.ifCond .ne 5, 3) := by decide +kernel
theorem dX3_takeApart_25 : decode cX3_takeApart 25 = .ok (.iconst 0, 1) := by decide +kernel
theorem dX3_takeApart_26 : decode cX3_takeApart 26 = .ok (.ireturn, 1) := by decide +kernel
theorem dX3_takeApart_27 : decode cX3_takeApart 27 = .ok (.aload_n 0, 1) := by decide +kernel
theorem dX3_takeApart_28 : decode cX3_takeApart 28 = .ok (.getfield 38, 3) := by decide +kernel
theorem dX3_takeApart_31 : decode cX3_takeApart 31 = .ok (.aload_n 0, 1) := by decide +kernel
theorem dX3_takeApart_32 : decode cX3_takeApart 32 = .ok (.getfield 27, 3) := by decide +kernel
theorem dX3_takeApart_35 : decode cX3_takeApart 35 = .ok (.if_icmp .lt 5, 3) := by decide +kernel
theorem dX3_takeApart_38 : decode cX3_takeApart 38 = .ok (.iconst 1, 1) := by decide +kernel
theorem dX3_takeApart_39 : decode cX3_takeApart 39 = .ok (.ireturn, 1) := by decide +kernel
theorem dX3_takeApart_40 : decode cX3_takeApart 40 = .ok (.aload_n 0, 1) := by decide +kernel
theorem dX3_takeApart_41 : decode cX3_takeApart 41 = .ok (.bipush 59, 2) := by decide +kernel
theorem dX3_takeApart_43 : decode cX3_takeApart 43 = .ok (.invokevirtual 45, 3) := by decide +kernel
theorem dX3_takeApart_46 : decode cX3_takeApart 46 = .ok (.ifCond .ne 5, 3) := by decide +kernel
theorem dX3_takeApart_49 : decode cX3_takeApart 49 = .ok (.iconst 0, 1) := by decide +kernel
theorem dX3_takeApart_50 : decode cX3_takeApart 50 = .ok (.ireturn, 1) := by decide +kernel
theorem dX3_takeApart_51 : decode cX3_takeApart 51 = .ok (.iinc 1 1, 3) := by decide +kernel
theorem dX3_takeApart_54 : decode cX3_takeApart 54 = .ok (.goto (-42), 3) := by decide +kernel
theorem dX3_takeApart_57 : decode cX3_takeApart 57 = .ok (.iconst 0, 1) := by decide +kernel
theorem dX3_takeApart_58 : decode cX3_takeApart 58 = .ok (.ireturn, 1) := by decide +kernel
theorem dX3_takeCommand_0 : decode cX3_takeCommand 0 = .ok (.aload_n 0, 1) := by decide +kernel
theorem dX3_takeCommand_1 : decode cX3_takeCommand 1 = .ok (.invokevirtual 49, 3) := by decide +kernel
theorem dX3_takeCommand_4 : decode cX3_takeCommand 4 = .ok (.astore_n 1, 1) := by decide +kernel
theorem dX3_takeCommand_5 : decode cX3_takeCommand 5 = .ok (.aload_n 1, 1) := by decide +kernel
theorem dX3_takeCommand_6 : decode cX3_takeCommand 6 = .ok (.ifnonnull 5, 3) := by decide +kernel
theorem dX3_takeCommand_9 : decode cX3_takeCommand 9 = .ok (.iconst 0, 1) := by decide +kernel
theorem dX3_takeCommand_10 : decode cX3_takeCommand 10 = .ok (.ireturn, 1) := by decide +kernel
theorem dX3_takeCommand_11 : decode cX3_takeCommand 11 = .ok (.iconst 0, 1) := by decide +kernel
theorem dX3_takeCommand_12 : decode cX3_takeCommand 12 = .ok (.istore_n 2, 1) := by decide +kernel
theorem dX3_takeCommand_13 : decode cX3_takeCommand 13 = .ok (.iconst 0, 1) := by decide +kernel
theorem dX3_takeCommand_14 : decode cX3_takeCommand 14 = .ok (.istore_n 3, 1) := by decide +kernel
theorem dX3_takeCommand_15 : decode cX3_takeCommand 15 = .ok (.aload_n 1, 1) := by decide +kernel
theorem dX3_takeCommand_16 : decode cX3_takeCommand 16 = .ok (.getfield 53, 3) := by decide +kernel
theorem dX3_takeCommand_19 : decode cX3_takeCommand 19 = .ok (.ifCond .le 8, 3) := by decide +kernel
theorem dX3_takeCommand_22 : decode cX3_takeCommand 22 = .ok (.aload_n 0, 1) := by decide +kernel
theorem dX3_takeCommand_23 : decode cX3_takeCommand 23 = .ok (.invokevirtual 56, 3) := by decide +kernel
theorem dX3_takeCommand_26 : decode cX3_takeCommand 26 = .ok (.istore_n 2, 1) := by decide +kernel
theorem dX3_takeCommand_27 : decode cX3_takeCommand 27 = .ok (.iload_n 2, 1) := by decide +kernel
theorem dX3_takeCommand_28 : decode cX3_takeCommand 28 = .ok (.ifCond .lt 29, 3) := by decide +kernel
theorem dX3_takeCommand_31 : decode cX3_takeCommand 31 = .ok (.aload_n 1, 1) := by decide +kernel
theorem dX3_takeCommand_32 : decode cX3_takeCommand 32 = .ok (.getfield 53, 3) := by decide +kernel
theorem dX3_takeCommand_35 : decode cX3_takeCommand 35 = .ok (.iconst 1, 1) := by decide +kernel
theorem dX3_takeCommand_36 : decode cX3_takeCommand 36 = .ok (.if_icmp .le 21, 3) := by decide +kernel
theorem dX3_takeCommand_39 : decode cX3_takeCommand 39 = .ok (.aload_n 0, 1) := by decide +kernel
theorem dX3_takeCommand_40 : decode cX3_takeCommand 40 = .ok (.bipush 32, 2) := by decide +kernel
theorem dX3_takeCommand_42 : decode cX3_takeCommand 42 = .ok (.invokevirtual 45, 3) := by decide +kernel
theorem dX3_takeCommand_45 : decode cX3_takeCommand 45 = .ok (.ifCond .eq 10, 3) := by decide +kernel
theorem dX3_takeCommand_48 : decode cX3_takeCommand 48 = .ok (.aload_n 0, 1) := by decide +kernel
theorem dX3_takeCommand_49 : decode cX3_takeCommand 49 = .ok (.invokevirtual 56, 3) := by decide +kernel
theorem dX3_takeCommand_52 : decode cX3_takeCommand 52 = .ok (.goto 4, 3) := by decide +kernel
theorem dX3_takeCommand_55 : decode cX3_takeCommand 55 = .ok (.iconst (-1), 1) := by decide +kernel
theorem dX3_takeCommand_56 : decode cX3_takeCommand 56 = .ok (.istore_n 3, 1) := by decide +kernel
theorem dX3_takeCommand_57 : decode cX3_takeCommand 57 = .ok (.iload_n 2, 1) := by decide +kernel
theorem dX3_takeCommand_58 : decode cX3_takeCommand 58 = .ok (.ifCond .lt 7, 3) := by decide +kernel
theorem dX3_takeCommand_61 : decode cX3_takeCommand 61 = .ok (.iload_n 3, 1) := by decide +kernel
theorem dX3_takeCommand_62 : decode cX3_takeCommand 62 = .ok (.ifCond .ge 5, 3) := by decide +kernel
theorem dX3_takeCommand_65 : decode cX3_takeCommand 65 = .ok (.iconst 0, 1) := by decide +kernel
theorem dX3_takeCommand_66 : decode cX3_takeCommand 66 = .ok (.ireturn, 1) := by decide +kernel
theorem dX3_takeCommand_67 : decode cX3_takeCommand 67 = .ok (.aload_n 0, 1) := by decide +kernel
theorem dX3_takeCommand_68 : decode cX3_takeCommand 68 = .ok (.aload_n 1, 1) := by decide +kernel
theorem dX3_takeCommand_69 : decode cX3_takeCommand 69 = .ok (.iload_n 2, 1) := by decide +kernel
theorem dX3_takeCommand_70 : decode cX3_takeCommand 70 = .ok (.iload_n 3, 1) := by decide +kernel
theorem dX3_takeCommand_71 : decode cX3_takeCommand 71 = .ok (.invokevirtual 60, 3) := by decide +kernel
theorem dX3_takeCommand_74 : decode cX3_takeCommand 74 = .ok (.iconst 1, 1) := by decide +kernel
theorem dX3_takeCommand_75 : decode cX3_takeCommand 75 = .ok (.ireturn, 1) := by decide +kernel
theorem dX3_addCommand_0 : decode cX3_addCommand 0 = .ok (.aload_n 0, 1) := by decide +kernel
theorem dX3_addCommand_1 : decode cX3_addCommand 1 = .ok (.getfield 35, 3) := by decide +kernel
theorem dX3_addCommand_4 : decode cX3_addCommand 4 = .ok (.ifCond .lt 59, 3) := by decide +kernel
theorem dX3_addCommand_7 : decode cX3_addCommand 7 = .ok (.aload_n 0, 1) := by decide +kernel
theorem dX3_addCommand_8 : decode cX3_addCommand 8 = .ok (.getfield 35, 3) := by decide +kernel
theorem dX3_addCommand_11 : decode cX3_addCommand 11 = .ok (.aload_n 0, 1) := by decide +kernel
theorem dX3_addCommand_12 : decode cX3_addCommand 12 = .ok (.getfield 17, 3) := by decide +kernel
theorem dX3_addCommand_15 : decode cX3_addCommand 15 = .ok (.arraylength, 1) := by decide +kernel
theorem dX3_addCommand_16 : decode cX3_addCommand 16 = .ok (.if_icmp .ge 47, 3) := by decide +kernel
theorem dX3_addCommand_19 : decode cX3_addCommand 19 = .ok (.aload_n 0, 1) := by decide +kernel
theorem dX3_addCommand_20 : decode cX3_addCommand 20 = .ok (.getfield 17, 3) := by decide +kernel
theorem dX3_addCommand_23 : decode cX3_addCommand 23 = .ok (.aload_n 0, 1) := by decide +kernel
theorem dX3_addCommand_24 : decode cX3_addCommand 24 = .ok (.getfield 35, 3) := by decide +kernel
theorem dX3_addCommand_27 : decode cX3_addCommand 27 = .ok (.aload_n 1, 1) := by decide +kernel
theorem dX3_addCommand_28 : decode cX3_addCommand 28 = .ok (.aastore, 1) := by decide +kernel
theorem dX3_addCommand_29 : decode cX3_addCommand 29 = .ok (.aload_n 0, 1) := by decide +kernel
theorem dX3_addCommand_30 : decode cX3_addCommand 30 = .ok (.getfield 21, 3) := by decide +kernel
theorem dX3_addCommand_33 : decode cX3_addCommand 33 = .ok (.aload_n 0, 1) := by decide +kernel
theorem dX3_addCommand_34 : decode cX3_addCommand 34 = .ok (.getfield 35, 3) := by decide +kernel
theorem dX3_addCommand_37 : decode cX3_addCommand 37 = .ok (.iload_n 2, 1) := by decide +kernel
theorem dX3_addCommand_38 : decode cX3_addCommand 38 = .ok (.invokestatic 31, 3) := by decide +kernel
theorem dX3_addCommand_41 : decode cX3_addCommand 41 = .ok (.aload_n 0, 1) := by decide +kernel
theorem dX3_addCommand_42 : decode cX3_addCommand 42 = .ok (.getfield 24, 3) := by decide +kernel
theorem dX3_addCommand_45 : decode cX3_addCommand 45 = .ok (.aload_n 0, 1) := by decide +kernel
theorem dX3_addCommand_46 : decode cX3_addCommand 46 = .ok (.getfield 35, 3) := by decide +kernel
theorem dX3_addCommand_49 : decode cX3_addCommand 49 = .ok (.iload_n 3, 1) := by decide +kernel
theorem dX3_addCommand_50 : decode cX3_addCommand 50 = .ok (.invokestatic 31, 3) := by decide +kernel
theorem dX3_addCommand_53 : decode cX3_addCommand 53 = .ok (.aload_n 0, 1) := by decide +kernel
theorem dX3_addCommand_54 : decode cX3_addCommand 54 = .ok (.dup, 1) := by decide +kernel
theorem dX3_addCommand_55 : decode cX3_addCommand 55 = .ok (.getfield 35, 3) := by decide +kernel
theorem dX3_addCommand_58 : decode cX3_addCommand 58 = .ok (.iconst 1, 1) := by decide +kernel
theorem dX3_addCommand_59 : decode cX3_addCommand 59 = .ok (.iadd, 1) := by decide +kernel
theorem dX3_addCommand_60 : decode cX3_addCommand 60 = .ok (.putfield 35, 3) := by decide +kernel
theorem dX3_addCommand_63 : decode cX3_addCommand 63 = .ok (.return_, 1) := by decide +kernel
theorem dX3_takeWord_0 : decode cX3_takeWord 0 = .ok (.iconst 0, 1) := by decide +kernel
theorem dX3_takeWord_1 : decode cX3_takeWord 1 = .ok (.istore_n 1, 1) := by decide +kernel
theorem dX3_takeWord_2 : decode cX3_takeWord 2 = .ok (.getstatic 64, 3) := by decide +kernel
theorem dX3_takeWord_5 : decode cX3_takeWord 5 = .ok (.astore_n 2, 1) := by decide +kernel
theorem dX3_takeWord_6 : decode cX3_takeWord 6 = .ok (.aload_n 2, 1) := by decide +kernel
theorem dX3_takeWord_7 : decode cX3_takeWord 7 = .ok (.arraylength, 1) := by decide +kernel
theorem dX3_takeWord_8 : decode cX3_takeWord 8 = .ok (.istore_n 3, 1) := by decide +kernel
theorem dX3_takeWord_9 : decode cX3_takeWord 9 = .ok (.iconst 0, 1) := by decide +kernel
theorem dX3_takeWord_10 : decode cX3_takeWord 10 = .ok (.istore 4, 2) := by decide +kernel
theorem dX3_takeWord_12 : decode cX3_takeWord 12 = .ok (.iload 4, 2) := by decide +kernel
theorem dX3_takeWord_14 : decode cX3_takeWord 14 = .ok (.iload_n 3, 1) := by decide +kernel
theorem dX3_takeWord_15 : decode cX3_takeWord 15 = .ok (.if_icmp .ge 60, 3) := by decide +kernel
theorem dX3_takeWord_18 : decode cX3_takeWord 18 = .ok (.aload_n 2, 1) := by decide +kernel
theorem dX3_takeWord_19 : decode cX3_takeWord 19 = .ok (.iload 4, 2) := by decide +kernel
theorem dX3_takeWord_21 : decode cX3_takeWord 21 = .ok (.aaload, 1) := by decide +kernel
theorem dX3_takeWord_22 : decode cX3_takeWord 22 = .ok (.astore 5, 2) := by decide +kernel
theorem dX3_takeWord_24 : decode cX3_takeWord 24 = .ok (.aload_n 0, 1) := by decide +kernel
theorem dX3_takeWord_25 : decode cX3_takeWord 25 = .ok (.aload 5, 2) := by decide +kernel
theorem dX3_takeWord_27 : decode cX3_takeWord 27 = .ok (.getfield 67, 3) := by decide +kernel
theorem dX3_takeWord_30 : decode cX3_takeWord 30 = .ok (.invokevirtual 71, 3) := by decide +kernel
theorem dX3_takeWord_33 : decode cX3_takeWord 33 = .ok (.istore 6, 2) := by decide +kernel
theorem dX3_takeWord_35 : decode cX3_takeWord 35 = .ok (.iload 6, 2) := by decide +kernel
theorem dX3_takeWord_37 : decode cX3_takeWord 37 = .ok (.aload 5, 2) := by decide +kernel
theorem dX3_takeWord_39 : decode cX3_takeWord 39 = .ok (.getfield 67, 3) := by decide +kernel
theorem dX3_takeWord_42 : decode cX3_takeWord 42 = .ok (.invokevirtual 75, 3) := by decide +kernel
theorem dX3_takeWord_45 : decode cX3_takeWord 45 = .ok (.if_icmp .ne 17, 3) := by decide +kernel
theorem dX3_takeWord_48 : decode cX3_takeWord 48 = .ok (.aload_n 0, 1) := by decide +kernel
theorem dX3_takeWord_49 : decode cX3_takeWord 49 = .ok (.dup, 1) := by decide +kernel
theorem dX3_takeWord_50 : decode cX3_takeWord 50 = .ok (.getfield 38, 3) := by decide +kernel
theorem dX3_takeWord_53 : decode cX3_takeWord 53 = .ok (.iload 6, 2) := by decide +kernel
theorem dX3_takeWord_55 : decode cX3_takeWord 55 = .ok (.iadd, 1) := by decide +kernel
theorem dX3_takeWord_56 : decode cX3_takeWord 56 = .ok (.putfield 38, 3) := by decide +kernel
theorem dX3_takeWord_59 : decode cX3_takeWord 59 = .ok (.aload 5, 2) := by decide +kernel
theorem dX3_takeWord_61 : decode cX3_takeWord 61 = .ok (.areturn, 1) := by decide +kernel
theorem dX3_takeWord_62 : decode cX3_takeWord 62 = .ok (.iload_n 1, 1) := by decide +kernel
theorem dX3_takeWord_63 : decode cX3_takeWord 63 = .ok (.iload 6, 2) := by decide +kernel
theorem dX3_takeWord_65 : decode cX3_takeWord 65 = .ok (.invokestatic 79, 3) := by decide +kernel
theorem dX3_takeWord_68 : decode cX3_takeWord 68 = .ok (.istore_n 1, 1) := by decide +kernel
theorem dX3_takeWord_69 : decode cX3_takeWord 69 = .ok (.iinc 4 1, 3) := by decide +kernel
theorem dX3_takeWord_72 : decode cX3_takeWord 72 = .ok (.goto (-60), 3) := by decide +kernel
theorem dX3_takeWord_75 : decode cX3_takeWord 75 = .ok (.aload_n 0, 1) := by decide +kernel
theorem dX3_takeWord_76 : decode cX3_takeWord 76 = .ok (.dup, 1) := by decide +kernel
theorem dX3_takeWord_77 : decode cX3_takeWord 77 = .ok (.getfield 38, 3) := by decide +kernel
theorem dX3_takeWord_80 : decode cX3_takeWord 80 = .ok (.iload_n 1, 1) := by decide +kernel
theorem dX3_takeWord_81 : decode cX3_takeWord 81 = .ok (.iadd, 1) := by decide +kernel
theorem dX3_takeWord_82 : decode cX3_takeWord 82 = .ok (.putfield 38, 3) := by decide +kernel
theorem dX3_takeWord_85 : decode cX3_takeWord 85 = .ok (.aconst_null, 1) := by decide +kernel
theorem dX3_takeWord_86 : decode cX3_takeWord 86 = .ok (.areturn, 1) := by decide +kernel
theorem dX3_sameLetters_0 : decode cX3_sameLetters 0 = .ok (.iconst 0, 1) := by decide +kernel
theorem dX3_sameLetters_1 : decode cX3_sameLetters 1 = .ok (.istore_n 2, 1) := by decide +kernel
theorem dX3_sameLetters_2 : decode cX3_sameLetters 2 = .ok (.iload_n 2, 1) := by decide +kernel
theorem dX3_sameLetters_3 : decode cX3_sameLetters 3 = .ok (.aload_n 1, 1) := by decide +kernel
theorem dX3_sameLetters_4 : decode cX3_sameLetters 4 = .ok (.invokevirtual 75, 3) := by decide +kernel
theorem dX3_sameLetters_7 : decode cX3_sameLetters 7 = .ok (.if_icmp .ge 27, 3) := by decide +kernel
theorem dX3_sameLetters_10 : decode cX3_sameLetters 10 = .ok (.aload_n 0, 1) := by decide +kernel
theorem dX3_sameLetters_11 : decode cX3_sameLetters 11 = .ok (.aload_n 0, 1) := by decide +kernel
theorem dX3_sameLetters_12 : decode cX3_sameLetters 12 = .ok (.getfield 38, 3) := by decide +kernel
theorem dX3_sameLetters_15 : decode cX3_sameLetters 15 = .ok (.iload_n 2, 1) := by decide +kernel
theorem dX3_sameLetters_16 : decode cX3_sameLetters 16 = .ok (.iadd, 1) := by decide +kernel
theorem dX3_sameLetters_17 : decode cX3_sameLetters 17 = .ok (.invokevirtual 85, 3) := by decide +kernel
theorem dX3_sameLetters_20 : decode cX3_sameLetters 20 = .ok (.aload_n 1, 1) := by decide +kernel
theorem dX3_sameLetters_21 : decode cX3_sameLetters 21 = .ok (.iload_n 2, 1) := by decide +kernel
theorem dX3_sameLetters_22 : decode cX3_sameLetters 22 = .ok (.invokevirtual 89, 3) := by decide +kernel
theorem dX3_sameLetters_25 : decode cX3_sameLetters 25 = .ok (.if_icmp .ne 9, 3) := by decide +kernel
theorem dX3_sameLetters_28 : decode cX3_sameLetters 28 = .ok (.iinc 2 1, 3) := by decide +kernel
theorem dX3_sameLetters_31 : decode cX3_sameLetters 31 = .ok (.goto (-29), 3) := by decide +kernel
theorem dX3_sameLetters_34 : decode cX3_sameLetters 34 = .ok (.iload_n 2, 1) := by decide +kernel
theorem dX3_sameLetters_35 : decode cX3_sameLetters 35 = .ok (.ireturn, 1) := by decide +kernel
theorem dX3_takeNumber_0 : decode cX3_takeNumber 0 = .ok (.aload_n 0, 1) := by decide +kernel
theorem dX3_takeNumber_1 : decode cX3_takeNumber 1 = .ok (.invokevirtual 93, 3) := by decide +kernel
theorem dX3_takeNumber_4 : decode cX3_takeNumber 4 = .ok (.istore_n 1, 1) := by decide +kernel
theorem dX3_takeNumber_5 : decode cX3_takeNumber 5 = .ok (.iload_n 1, 1) := by decide +kernel
theorem dX3_takeNumber_6 : decode cX3_takeNumber 6 = .ok (.ifCond .ge 5, 3) := by decide +kernel
theorem dX3_takeNumber_9 : decode cX3_takeNumber 9 = .ok (.iconst (-1), 1) := by decide +kernel
theorem dX3_takeNumber_10 : decode cX3_takeNumber 10 = .ok (.ireturn, 1) := by decide +kernel
theorem dX3_takeNumber_11 : decode cX3_takeNumber 11 = .ok (.aload_n 0, 1) := by decide +kernel
theorem dX3_takeNumber_12 : decode cX3_takeNumber 12 = .ok (.invokevirtual 93, 3) := by decide +kernel
theorem dX3_takeNumber_15 : decode cX3_takeNumber 15 = .ok (.istore_n 2, 1) := by decide +kernel
theorem dX3_takeNumber_16 : decode cX3_takeNumber 16 = .ok (.iload_n 2, 1) := by decide +kernel
theorem dX3_takeNumber_17 : decode cX3_takeNumber 17 = .ok (.ifCond .ge 7, 3) := by decide +kernel
theorem dX3_takeNumber_20 : decode cX3_takeNumber 20 = .ok (.iload_n 1, 1) := by decide +kernel
theorem dX3_takeNumber_21 : decode cX3_takeNumber 21 = .ok (.goto 9, 3) := by decide +kernel
theorem dX3_takeNumber_24 : decode cX3_takeNumber 24 = .ok (.iload_n 1, 1) := by decide +kernel
theorem dX3_takeNumber_25 : decode cX3_takeNumber 25 = .ok (.bipush 10, 2) := by decide +kernel
theorem dX3_takeNumber_27 : decode cX3_takeNumber 27 = .ok (.imul, 1) := by decide +kernel
theorem dX3_takeNumber_28 : decode cX3_takeNumber 28 = .ok (.iload_n 2, 1) := by decide +kernel
theorem dX3_takeNumber_29 : decode cX3_takeNumber 29 = .ok (.iadd, 1) := by decide +kernel
theorem dX3_takeNumber_30 : decode cX3_takeNumber 30 = .ok (.ireturn, 1) := by decide +kernel
theorem dX3_takeDigit_0 : decode cX3_takeDigit 0 = .ok (.aload_n 0, 1) := by decide +kernel
theorem dX3_takeDigit_1 : decode cX3_takeDigit 1 = .ok (.aload_n 0, 1) := by decide +kernel
theorem dX3_takeDigit_2 : decode cX3_takeDigit 2 = .ok (.getfield 38, 3) := by decide +kernel
theorem dX3_takeDigit_5 : decode cX3_takeDigit 5 = .ok (.invokevirtual 85, 3) := by decide +kernel
theorem dX3_takeDigit_8 : decode cX3_takeDigit 8 = .ok (.istore_n 1, 1) := by decide +kernel
theorem dX3_takeDigit_9 : decode cX3_takeDigit 9 = .ok (.iload_n 1, 1) := by decide +kernel
theorem dX3_takeDigit_10 : decode cX3_takeDigit 10 = .ok (.bipush 48, 2) := by decide +kernel
theorem dX3_takeDigit_12 : decode cX3_takeDigit 12 = .ok (.if_icmp .lt 9, 3) := by decide +kernel
theorem dX3_takeDigit_15 : decode cX3_takeDigit 15 = .ok (.iload_n 1, 1) := by decide +kernel
theorem dX3_takeDigit_16 : decode cX3_takeDigit 16 = .ok (.bipush 57, 2) := by decide +kernel
theorem dX3_takeDigit_18 : decode cX3_takeDigit 18 = .ok (.if_icmp .le 5, 3) := by decide +kernel
theorem dX3_takeDigit_21 : decode cX3_takeDigit 21 = .ok (.iconst (-1), 1) := by decide +kernel
theorem dX3_takeDigit_22 : decode cX3_takeDigit 22 = .ok (.ireturn, 1) := by decide +kernel
theorem dX3_takeDigit_23 : decode cX3_takeDigit 23 = .ok (.aload_n 0, 1) := by decide +kernel
theorem dX3_takeDigit_24 : decode cX3_takeDigit 24 = .ok (.dup, 1) := by decide +kernel
theorem dX3_takeDigit_25 : decode cX3_takeDigit 25 = .ok (.getfield 38, 3) := by decide +kernel
theorem dX3_takeDigit_28 : decode cX3_takeDigit 28 = .ok (.iconst 1, 1) := by decide +kernel
theorem dX3_takeDigit_29 : decode cX3_takeDigit 29 = .ok (.iadd, 1) := by decide +kernel
theorem dX3_takeDigit_30 : decode cX3_takeDigit 30 = .ok (.putfield 38, 3) := by decide +kernel
theorem dX3_takeDigit_33 : decode cX3_takeDigit 33 = .ok (.iload_n 1, 1) := by decide +kernel
theorem dX3_takeDigit_34 : decode cX3_takeDigit 34 = .ok (.bipush 48, 2) := by decide +kernel
theorem dX3_takeDigit_36 : decode cX3_takeDigit 36 = .ok (.isub, 1) := by decide +kernel
theorem dX3_takeDigit_37 : decode cX3_takeDigit 37 = .ok (.ireturn, 1) := by decide +kernel
theorem dX3_takeSign_0 : decode cX3_takeSign 0 = .ok (.aload_n 0, 1) := by decide +kernel
theorem dX3_takeSign_1 : decode cX3_takeSign 1 = .ok (.aload_n 0, 1) := by decide +kernel
theorem dX3_takeSign_2 : decode cX3_takeSign 2 = .ok (.getfield 38, 3) := by decide +kernel
theorem dX3_takeSign_5 : decode cX3_takeSign 5 = .ok (.invokevirtual 85, 3) := by decide +kernel
theorem dX3_takeSign_8 : decode cX3_takeSign 8 = .ok (.iload_n 1, 1) := by decide +kernel
theorem dX3_takeSign_9 : decode cX3_takeSign 9 = .ok (.if_icmp .eq 5, 3) := by decide +kernel
theorem dX3_takeSign_12 : decode cX3_takeSign 12 = .ok (.iconst 0, 1) := by decide +kernel
theorem dX3_takeSign_13 : decode cX3_takeSign 13 = .ok (.ireturn, 1) := by decide +kernel
theorem dX3_takeSign_14 : decode cX3_takeSign 14 = .ok (.aload_n 0, 1) := by decide +kernel
theorem dX3_takeSign_15 : decode cX3_takeSign 15 = .ok (.dup, 1) := by decide +kernel
theorem dX3_takeSign_16 : decode cX3_takeSign 16 = .ok (.getfield 38, 3) := by decide +kernel
theorem dX3_takeSign_19 : decode cX3_takeSign 19 = .ok (.iconst 1, 1) := by decide +kernel
theorem dX3_takeSign_20 : decode cX3_takeSign 20 = .ok (.iadd, 1) := by decide +kernel
theorem dX3_takeSign_21 : decode cX3_takeSign 21 = .ok (.putfield 38, 3) := by decide +kernel
theorem dX3_takeSign_24 : decode cX3_takeSign 24 = .ok (.iconst 1, 1) := by decide +kernel
theorem dX3_takeSign_25 : decode cX3_takeSign 25 = .ok (.ireturn, 1) := by decide +kernel
theorem dX3_codeAt_0 : decode cX3_codeAt 0 = .ok (.iload_n 1, 1) := by decide +kernel
theorem dX3_codeAt_1 : decode cX3_codeAt 1 = .ok (.aload_n 0, 1) := by decide +kernel
theorem dX3_codeAt_2 : decode cX3_codeAt 2 = .ok (.getfield 27, 3) := by decide +kernel
theorem dX3_codeAt_5 : decode cX3_codeAt 5 = .ok (.if_icmp .ge 14, 3) := by decide +kernel
theorem dX3_codeAt_8 : decode cX3_codeAt 8 = .ok (.aload_n 0, 1) := by decide +kernel
theorem dX3_codeAt_9 : decode cX3_codeAt 9 = .ok (.getfield 9, 3) := by decide +kernel
theorem dX3_codeAt_12 : decode cX3_codeAt 12 = .ok (.iload_n 1, 1) := by decide +kernel
theorem dX3_codeAt_13 : decode cX3_codeAt 13 = .ok (.invokestatic 96, 3) := by decide +kernel
theorem dX3_codeAt_16 : decode cX3_codeAt 16 = .ok (.goto 4, 3) := by decide +kernel
theorem dX3_codeAt_19 : decode cX3_codeAt 19 = .ok (.iconst (-1), 1) := by decide +kernel
theorem dX3_codeAt_20 : decode cX3_codeAt 20 = .ok (.ireturn, 1) := by decide +kernel
theorem dX4_init_0 : decode cX4_init 0 = .ok (.aload_n 0, 1) := by decide +kernel
theorem dX4_init_1 : decode cX4_init 1 = .ok (.invokespecial 3, 3) := by decide +kernel
theorem dX4_init_4 : decode cX4_init 4 = .ok (.aload_n 0, 1) := by decide +kernel
theorem dX4_init_5 : decode cX4_init 5 = .ok (.bipush 54, 2) := by decide +kernel
theorem dX4_init_7 : decode cX4_init 7 = .ok (.newarray .int, 2) := by decide +kernel
theorem dX4_init_9 : decode cX4_init 9 = .ok (.putfield 9, 3) := by decide +kernel
theorem dX4_init_12 : decode cX4_init 12 = .ok (.return_, 1) := by decide +kernel
theorem dX4_makeEmpty_0 : decode cX4_makeEmpty 0 = .ok (.aload_n 0, 1) := by decide +kernel
theorem dX4_makeEmpty_1 : decode cX4_makeEmpty 1 = .ok (.iconst 0, 1) := by decide +kernel
theorem dX4_makeEmpty_2 : decode cX4_makeEmpty 2 = .ok (.putfield 15, 3) := by decide +kernel
theorem dX4_makeEmpty_5 : decode cX4_makeEmpty 5 = .ok (.return_, 1) := by decide +kernel
theorem dX4_addSign_0 : decode cX4_addSign 0 = .ok (.aload_n 0, 1) := by decide +kernel
theorem dX4_addSign_1 : decode cX4_addSign 1 = .ok (.getfield 15, 3) := by decide +kernel
theorem dX4_addSign_4 : decode cX4_addSign 4 = .ok (.bipush 54, 2) := by decide +kernel
theorem dX4_addSign_6 : decode cX4_addSign 6 = .ok (.if_icmp .ge 25, 3) := by decide +kernel
theorem dX4_addSign_9 : decode cX4_addSign 9 = .ok (.aload_n 0, 1) := by decide +kernel
theorem dX4_addSign_10 : decode cX4_addSign 10 = .ok (.getfield 9, 3) := by decide +kernel
theorem dX4_addSign_13 : decode cX4_addSign 13 = .ok (.aload_n 0, 1) := by decide +kernel
theorem dX4_addSign_14 : decode cX4_addSign 14 = .ok (.getfield 15, 3) := by decide +kernel
theorem dX4_addSign_17 : decode cX4_addSign 17 = .ok (.iload_n 1, 1) := by decide +kernel
theorem dX4_addSign_18 : decode cX4_addSign 18 = .ok (.invokestatic 19, 3) := by decide +kernel
theorem dX4_addSign_21 : decode cX4_addSign 21 = .ok (.aload_n 0, 1) := by decide +kernel
theorem dX4_addSign_22 : decode cX4_addSign 22 = .ok (.dup, 1) := by decide +kernel
theorem dX4_addSign_23 : decode cX4_addSign 23 = .ok (.getfield 15, 3) := by decide +kernel
theorem dX4_addSign_26 : decode cX4_addSign 26 = .ok (.iconst 1, 1) := by decide +kernel
theorem dX4_addSign_27 : decode cX4_addSign 27 = .ok (.iadd, 1) := by decide +kernel
theorem dX4_addSign_28 : decode cX4_addSign 28 = .ok (.putfield 15, 3) := by decide +kernel
theorem dX4_addSign_31 : decode cX4_addSign 31 = .ok (.return_, 1) := by decide +kernel
theorem dX4_addNumber_0 : decode cX4_addNumber 0 = .ok (.iload_n 1, 1) := by decide +kernel
theorem dX4_addNumber_1 : decode cX4_addNumber 1 = .ok (.bipush 10, 2) := by decide +kernel
theorem dX4_addNumber_3 : decode cX4_addNumber 3 = .ok (.if_icmp .lt 15, 3) := by decide +kernel
theorem dX4_addNumber_6 : decode cX4_addNumber 6 = .ok (.aload_n 0, 1) := by decide +kernel
theorem dX4_addNumber_7 : decode cX4_addNumber 7 = .ok (.bipush 48, 2) := by decide +kernel
theorem dX4_addNumber_9 : decode cX4_addNumber 9 = .ok (.iload_n 1, 1) := by decide +kernel
theorem dX4_addNumber_10 : decode cX4_addNumber 10 = .ok (.bipush 10, 2) := by decide +kernel
theorem dX4_addNumber_12 : decode cX4_addNumber 12 = .ok (.idiv, 1) := by decide +kernel
theorem dX4_addNumber_13 : decode cX4_addNumber 13 = .ok (.iadd, 1) := by decide +kernel
theorem dX4_addNumber_14 : decode cX4_addNumber 14 = .ok (.i2c, 1) := by decide +kernel
theorem dX4_addNumber_15 : decode cX4_addNumber 15 = .ok (.invokevirtual 23, 3) := by decide +kernel
theorem dX4_addNumber_18 : decode cX4_addNumber 18 = .ok (.aload_n 0, 1) := by decide +kernel
theorem dX4_addNumber_19 : decode cX4_addNumber 19 = .ok (.bipush 48, 2) := by decide +kernel
theorem dX4_addNumber_21 : decode cX4_addNumber 21 = .ok (.iload_n 1, 1) := by decide +kernel
theorem dX4_addNumber_22 : decode cX4_addNumber 22 = .ok (.bipush 10, 2) := by decide +kernel
theorem dX4_addNumber_24 : decode cX4_addNumber 24 = .ok (.irem, 1) := by decide +kernel
theorem dX4_addNumber_25 : decode cX4_addNumber 25 = .ok (.iadd, 1) := by decide +kernel
theorem dX4_addNumber_26 : decode cX4_addNumber 26 = .ok (.i2c, 1) := by decide +kernel
theorem dX4_addNumber_27 : decode cX4_addNumber 27 = .ok (.invokevirtual 23, 3) := by decide +kernel
theorem dX4_addNumber_30 : decode cX4_addNumber 30 = .ok (.return_, 1) := by decide +kernel
theorem dX4_codeAt_0 : decode cX4_codeAt 0 = .ok (.iload_n 1, 1) := by decide +kernel
theorem dX4_codeAt_1 : decode cX4_codeAt 1 = .ok (.aload_n 0, 1) := by decide +kernel
theorem dX4_codeAt_2 : decode cX4_codeAt 2 = .ok (.getfield 15, 3) := by decide +kernel
theorem dX4_codeAt_5 : decode cX4_codeAt 5 = .ok (.if_icmp .ge 14, 3) := by decide +kernel
theorem dX4_codeAt_8 : decode cX4_codeAt 8 = .ok (.aload_n 0, 1) := by decide +kernel
theorem dX4_codeAt_9 : decode cX4_codeAt 9 = .ok (.getfield 9, 3) := by decide +kernel
theorem dX4_codeAt_12 : decode cX4_codeAt 12 = .ok (.iload_n 1, 1) := by decide +kernel
theorem dX4_codeAt_13 : decode cX4_codeAt 13 = .ok (.invokestatic 27, 3) := by decide +kernel
theorem dX4_codeAt_16 : decode cX4_codeAt 16 = .ok (.goto 4, 3) := by decide +kernel
theorem dX4_codeAt_19 : decode cX4_codeAt 19 = .ok (.iconst (-1), 1) := by decide +kernel
theorem dX4_codeAt_20 : decode cX4_codeAt 20 = .ok (.ireturn, 1) := by decide +kernel
theorem dX5_init_0 : decode cX5_init 0 = .ok (.aload_n 0, 1) := by decide +kernel
theorem dX5_init_1 : decode cX5_init 1 = .ok (.invokespecial 3, 3) := by decide +kernel
theorem dX5_init_4 : decode cX5_init 4 = .ok (.aload_n 0, 1) := by decide +kernel
theorem dX5_init_5 : decode cX5_init 5 = .ok (.new 9, 3) := by decide +kernel
theorem dX5_init_8 : decode cX5_init 8 = .ok (.dup, 1) := by decide +kernel
theorem dX5_init_9 : decode cX5_init 9 = .ok (.invokespecial 11, 3) := by decide +kernel
theorem dX5_init_12 : decode cX5_init 12 = .ok (.putfield 12, 3) := by decide +kernel
theorem dX5_init_15 : decode cX5_init 15 = .ok (.aload_n 0, 1) := by decide +kernel
theorem dX5_init_16 : decode cX5_init 16 = .ok (.new 18, 3) := by decide +kernel
theorem dX5_init_19 : decode cX5_init 19 = .ok (.dup, 1) := by decide +kernel
theorem dX5_init_20 : decode cX5_init 20 = .ok (.invokespecial 20, 3) := by decide +kernel
theorem dX5_init_23 : decode cX5_init 23 = .ok (.putfield 21, 3) := by decide +kernel
theorem dX5_init_26 : decode cX5_init 26 = .ok (.aload_n 0, 1) := by decide +kernel
theorem dX5_init_27 : decode cX5_init 27 = .ok (.new 25, 3) := by decide +kernel
theorem dX5_init_30 : decode cX5_init 30 = .ok (.dup, 1) := by decide +kernel
theorem dX5_init_31 : decode cX5_init 31 = .ok (.invokespecial 27, 3) := by decide +kernel
theorem dX5_init_34 : decode cX5_init 34 = .ok (.putfield 28, 3) := by decide +kernel
theorem dX5_init_37 : decode cX5_init 37 = .ok (.aload_n 0, 1) := by decide +kernel
theorem dX5_init_38 : decode cX5_init 38 = .ok (.invokevirtual 32, 3) := by decide +kernel
theorem dX5_init_41 : decode cX5_init 41 = .ok (.return_, 1) := by decide +kernel
theorem dX5_makeEmpty_0 : decode cX5_makeEmpty 0 = .ok (.aload_n 0, 1) := by decide +kernel
theorem dX5_makeEmpty_1 : decode cX5_makeEmpty 1 = .ok (.getfield 12, 3) := by decide +kernel
theorem dX5_makeEmpty_4 : decode cX5_makeEmpty 4 = .ok (.invokevirtual 35, 3) := by decide +kernel
theorem dX5_makeEmpty_7 : decode cX5_makeEmpty 7 = .ok (.aload_n 0, 1) := by decide +kernel
theorem dX5_makeEmpty_8 : decode cX5_makeEmpty 8 = .ok (.getfield 21, 3) := by decide +kernel
theorem dX5_makeEmpty_11 : decode cX5_makeEmpty 11 = .ok (.invokevirtual 36, 3) := by decide +kernel
theorem dX5_makeEmpty_14 : decode cX5_makeEmpty 14 = .ok (.aload_n 0, 1) := by decide +kernel
theorem dX5_makeEmpty_15 : decode cX5_makeEmpty 15 = .ok (.getfield 28, 3) := by decide +kernel
theorem dX5_makeEmpty_18 : decode cX5_makeEmpty 18 = .ok (.invokevirtual 37, 3) := by decide +kernel
theorem dX5_makeEmpty_21 : decode cX5_makeEmpty 21 = .ok (.aload_n 0, 1) := by decide +kernel
theorem dX5_makeEmpty_22 : decode cX5_makeEmpty 22 = .ok (.iconst 0, 1) := by decide +kernel
theorem dX5_makeEmpty_23 : decode cX5_makeEmpty 23 = .ok (.putfield 38, 3) := by decide +kernel
theorem dX5_makeEmpty_26 : decode cX5_makeEmpty 26 = .ok (.aload_n 0, 1) := by decide +kernel
theorem dX5_makeEmpty_27 : decode cX5_makeEmpty 27 = .ok (.iconst 0, 1) := by decide +kernel
theorem dX5_makeEmpty_28 : decode cX5_makeEmpty 28 = .ok (.putfield 42, 3) := by decide +kernel
theorem dX5_makeEmpty_31 : decode cX5_makeEmpty 31 = .ok (.aload_n 0, 1) := by decide +kernel
theorem dX5_makeEmpty_32 : decode cX5_makeEmpty 32 = .ok (.iconst 0, 1) := by decide +kernel
theorem dX5_makeEmpty_33 : decode cX5_makeEmpty 33 = .ok (.putfield 45, 3) := by decide +kernel
theorem dX5_makeEmpty_36 : decode cX5_makeEmpty 36 = .ok (.return_, 1) := by decide +kernel
theorem dX5_takeOver_0 : decode cX5_takeOver 0 = .ok (.aload_n 1, 1) := by decide +kernel
theorem dX5_takeOver_1 : decode cX5_takeOver 1 = .ok (.ifnonnull 4, 3) := by decide +kernel
theorem dX5_takeOver_4 : decode cX5_takeOver 4 = .ok (.return_, 1) := by decide +kernel
theorem dX5_takeOver_5 : decode cX5_takeOver 5 = .ok (.aload_n 0, 1) := by decide +kernel
theorem dX5_takeOver_6 : decode cX5_takeOver 6 = .ok (.getfield 12, 3) := by decide +kernel
theorem dX5_takeOver_9 : decode cX5_takeOver 9 = .ok (.aload_n 1, 1) := by decide +kernel
theorem dX5_takeOver_10 : decode cX5_takeOver 10 = .ok (.getfield 12, 3) := by decide +kernel
theorem dX5_takeOver_13 : decode cX5_takeOver 13 = .ok (.invokevirtual 48, 3) := by decide +kernel
theorem dX5_takeOver_16 : decode cX5_takeOver 16 = .ok (.aload_n 0, 1) := by decide +kernel
theorem dX5_takeOver_17 : decode cX5_takeOver 17 = .ok (.getfield 21, 3) := by decide +kernel
theorem dX5_takeOver_20 : decode cX5_takeOver 20 = .ok (.aload_n 1, 1) := by decide +kernel
theorem dX5_takeOver_21 : decode cX5_takeOver 21 = .ok (.getfield 21, 3) := by decide +kernel
theorem dX5_takeOver_24 : decode cX5_takeOver 24 = .ok (.invokevirtual 52, 3) := by decide +kernel
theorem dX5_takeOver_27 : decode cX5_takeOver 27 = .ok (.aload_n 0, 1) := by decide +kernel
theorem dX5_takeOver_28 : decode cX5_takeOver 28 = .ok (.getfield 28, 3) := by decide +kernel
theorem dX5_takeOver_31 : decode cX5_takeOver 31 = .ok (.aload_n 1, 1) := by decide +kernel
theorem dX5_takeOver_32 : decode cX5_takeOver 32 = .ok (.getfield 28, 3) := by decide +kernel
theorem dX5_takeOver_35 : decode cX5_takeOver 35 = .ok (.invokevirtual 55, 3) := by decide +kernel
theorem dX5_takeOver_38 : decode cX5_takeOver 38 = .ok (.aload_n 0, 1) := by decide +kernel
theorem dX5_takeOver_39 : decode cX5_takeOver 39 = .ok (.aload_n 1, 1) := by decide +kernel
theorem dX5_takeOver_40 : decode cX5_takeOver 40 = .ok (.getfield 38, 3) := by decide +kernel
theorem dX5_takeOver_43 : decode cX5_takeOver 43 = .ok (.putfield 38, 3) := by decide +kernel
theorem dX5_takeOver_46 : decode cX5_takeOver 46 = .ok (.aload_n 0, 1) := by decide +kernel
theorem dX5_takeOver_47 : decode cX5_takeOver 47 = .ok (.aload_n 1, 1) := by decide +kernel
theorem dX5_takeOver_48 : decode cX5_takeOver 48 = .ok (.getfield 42, 3) := by decide +kernel
theorem dX5_takeOver_51 : decode cX5_takeOver 51 = .ok (.putfield 42, 3) := by decide +kernel
theorem dX5_takeOver_54 : decode cX5_takeOver 54 = .ok (.aload_n 0, 1) := by decide +kernel
theorem dX5_takeOver_55 : decode cX5_takeOver 55 = .ok (.aload_n 1, 1) := by decide +kernel
theorem dX5_takeOver_56 : decode cX5_takeOver 56 = .ok (.getfield 45, 3) := by decide +kernel
theorem dX5_takeOver_59 : decode cX5_takeOver 59 = .ok (.putfield 45, 3) := by decide +kernel
theorem dX5_takeOver_62 : decode cX5_takeOver 62 = .ok (.return_, 1) := by decide +kernel
theorem dX5_addBlock_0 : decode cX5_addBlock 0 = .ok (.iload_n 1, 1) := by decide +kernel
theorem dX5_addBlock_1 : decode cX5_addBlock 1 = .ok (.invokestatic 58, 3) := by decide +kernel
theorem dX5_addBlock_4 : decode cX5_addBlock 4 = .ok (.ifCond .ne 6, 3) := by decide +kernel
theorem dX5_addBlock_7 : decode cX5_addBlock 7 = .ok (.bipush (-2), 2) := by decide +kernel
theorem dX5_addBlock_9 : decode cX5_addBlock 9 = .ok (.ireturn, 1) := by decide +kernel
theorem dX5_addBlock_10 : decode cX5_addBlock 10 = .ok (.aload_n 0, 1) := by decide +kernel
theorem dX5_addBlock_11 : decode cX5_addBlock 11 = .ok (.getfield 12, 3) := by decide +kernel
theorem dX5_addBlock_14 : decode cX5_addBlock 14 = .ok (.getfield 62, 3) := by decide +kernel
theorem dX5_addBlock_17 : decode cX5_addBlock 17 = .ok (.bipush 16, 2) := by decide +kernel
theorem dX5_addBlock_19 : decode cX5_addBlock 19 = .ok (.if_icmp .lt 11, 3) := by decide +kernel
theorem dX5_addBlock_22 : decode cX5_addBlock 22 = .ok (.aload_n 2, 1) := by decide +kernel
theorem dX5_addBlock_23 : decode cX5_addBlock 23 = .ok (.iconst 1, 1) := by decide +kernel
theorem dX5_addBlock_24 : decode cX5_addBlock 24 = .ok (.bipush 16, 2) := by decide +kernel
theorem dX5_addBlock_26 : decode cX5_addBlock 26 = .ok (.invokevirtual 65, 3) := by decide +kernel
theorem dX5_addBlock_29 : decode cX5_addBlock 29 = .ok (.ireturn, 1) := by decide +kernel
theorem dX5_addBlock_30 : decode cX5_addBlock 30 = .ok (.aload_n 0, 1) := by decide +kernel
theorem dX5_addBlock_31 : decode cX5_addBlock 31 = .ok (.getfield 12, 3) := by decide +kernel
theorem dX5_addBlock_34 : decode cX5_addBlock 34 = .ok (.iload_n 1, 1) := by decide +kernel
theorem dX5_addBlock_35 : decode cX5_addBlock 35 = .ok (.invokevirtual 71, 3) := by decide +kernel
theorem dX5_addBlock_38 : decode cX5_addBlock 38 = .ok (.ireturn, 1) := by decide +kernel
theorem dX5_hangOn_0 : decode cX5_hangOn 0 = .ok (.aload_n 0, 1) := by decide +kernel
theorem dX5_hangOn_1 : decode cX5_hangOn 1 = .ok (.getfield 12, 3) := by decide +kernel
theorem dX5_hangOn_4 : decode cX5_hangOn 4 = .ok (.iload_n 1, 1) := by decide +kernel
theorem dX5_hangOn_5 : decode cX5_hangOn 5 = .ok (.invokevirtual 75, 3) := by decide +kernel
theorem dX5_hangOn_8 : decode cX5_hangOn 8 = .ok (.ifCond .eq 14, 3) := by decide +kernel
theorem dX5_hangOn_11 : decode cX5_hangOn 11 = .ok (.aload_n 0, 1) := by decide +kernel
theorem dX5_hangOn_12 : decode cX5_hangOn 12 = .ok (.getfield 12, 3) := by decide +kernel
theorem dX5_hangOn_15 : decode cX5_hangOn 15 = .ok (.iload_n 2, 1) := by decide +kernel
theorem dX5_hangOn_16 : decode cX5_hangOn 16 = .ok (.invokevirtual 75, 3) := by decide +kernel
theorem dX5_hangOn_19 : decode cX5_hangOn 19 = .ok (.ifCond .ne 5, 3) := by decide +kernel
theorem dX5_hangOn_22 : decode cX5_hangOn 22 = .ok (.iconst (-1), 1) := by decide +kernel
theorem dX5_hangOn_23 : decode cX5_hangOn 23 = .ok (.ireturn, 1) := by decide +kernel
theorem dX5_hangOn_24 : decode cX5_hangOn 24 = .ok (.aload_n 0, 1) := by decide +kernel
theorem dX5_hangOn_25 : decode cX5_hangOn 25 = .ok (.getfield 12, 3) := by decide +kernel
theorem dX5_hangOn_28 : decode cX5_hangOn 28 = .ok (.iload_n 1, 1) := by decide +kernel
theorem dX5_hangOn_29 : decode cX5_hangOn 29 = .ok (.invokevirtual 78, 3) := by decide +kernel
theorem dX5_hangOn_32 : decode cX5_hangOn 32 = .ok (.ifCond .lt 17, 3) := by decide +kernel
theorem dX5_hangOn_35 : decode cX5_hangOn 35 = .ok (.aload_n 3, 1) := by decide +kernel
theorem dX5_hangOn_36 : decode cX5_hangOn 36 = .ok (.iconst 2, 1) := by decide +kernel
theorem dX5_hangOn_37 : decode cX5_hangOn 37 = .ok (.aload_n 0, 1) := by decide +kernel
theorem dX5_hangOn_38 : decode cX5_hangOn 38 = .ok (.getfield 12, 3) := by decide +kernel
theorem dX5_hangOn_41 : decode cX5_hangOn 41 = .ok (.iload_n 1, 1) := by decide +kernel
theorem dX5_hangOn_42 : decode cX5_hangOn 42 = .ok (.invokevirtual 78, 3) := by decide +kernel
theorem dX5_hangOn_45 : decode cX5_hangOn 45 = .ok (.invokevirtual 65, 3) := by decide +kernel
theorem dX5_hangOn_48 : decode cX5_hangOn 48 = .ok (.ireturn, 1) := by decide +kernel
theorem dX5_hangOn_49 : decode cX5_hangOn 49 = .ok (.aload_n 0, 1) := by decide +kernel
theorem dX5_hangOn_50 : decode cX5_hangOn 50 = .ok (.getfield 12, 3) := by decide +kernel
theorem dX5_hangOn_53 : decode cX5_hangOn 53 = .ok (.iload_n 2, 1) := by decide +kernel
theorem dX5_hangOn_54 : decode cX5_hangOn 54 = .ok (.invokevirtual 81, 3) := by decide +kernel
theorem dX5_hangOn_57 : decode cX5_hangOn 57 = .ok (.iload_n 1, 1) := by decide +kernel
theorem dX5_hangOn_58 : decode cX5_hangOn 58 = .ok (.if_icmp .ne 10, 3) := by decide +kernel
theorem dX5_hangOn_61 : decode cX5_hangOn 61 = .ok (.aload_n 3, 1) := by decide +kernel
theorem dX5_hangOn_62 : decode cX5_hangOn 62 = .ok (.iconst 3, 1) := by decide +kernel
theorem dX5_hangOn_63 : decode cX5_hangOn 63 = .ok (.iload_n 1, 1) := by decide +kernel
theorem dX5_hangOn_64 : decode cX5_hangOn 64 = .ok (.invokevirtual 65, 3) := by decide +kernel
theorem dX5_hangOn_67 : decode cX5_hangOn 67 = .ok (.ireturn, 1) := by decide +kernel
theorem dX5_hangOn_68 : decode cX5_hangOn 68 = .ok (.aload_n 0, 1) := by decide +kernel
theorem dX5_hangOn_69 : decode cX5_hangOn 69 = .ok (.iload_n 1, 1) := by decide +kernel
theorem dX5_hangOn_70 : decode cX5_hangOn 70 = .ok (.invokevirtual 84, 3) := by decide +kernel
theorem dX5_hangOn_73 : decode cX5_hangOn 73 = .ok (.aload_n 0, 1) := by decide +kernel
theorem dX5_hangOn_74 : decode cX5_hangOn 74 = .ok (.iload_n 2, 1) := by decide +kernel
theorem dX5_hangOn_75 : decode cX5_hangOn 75 = .ok (.invokevirtual 84, 3) := by decide +kernel
theorem dX5_hangOn_78 : decode cX5_hangOn 78 = .ok (.aload_n 0, 1) := by decide +kernel
theorem dX5_hangOn_79 : decode cX5_hangOn 79 = .ok (.getfield 12, 3) := by decide +kernel
theorem dX5_hangOn_82 : decode cX5_hangOn 82 = .ok (.getfield 88, 3) := by decide +kernel
theorem dX5_hangOn_85 : decode cX5_hangOn 85 = .ok (.iload_n 1, 1) := by decide +kernel
theorem dX5_hangOn_86 : decode cX5_hangOn 86 = .ok (.iload_n 2, 1) := by decide +kernel
theorem dX5_hangOn_87 : decode cX5_hangOn 87 = .ok (.invokestatic 92, 3) := by decide +kernel
theorem dX5_hangOn_90 : decode cX5_hangOn 90 = .ok (.aload_n 0, 1) := by decide +kernel
theorem dX5_hangOn_91 : decode cX5_hangOn 91 = .ok (.dup, 1) := by decide +kernel
theorem dX5_hangOn_92 : decode cX5_hangOn 92 = .ok (.getfield 42, 3) := by decide +kernel
theorem dX5_hangOn_95 : decode cX5_hangOn 95 = .ok (.iconst 1, 1) := by decide +kernel
theorem dX5_hangOn_96 : decode cX5_hangOn 96 = .ok (.iadd, 1) := by decide +kernel
theorem dX5_hangOn_97 : decode cX5_hangOn 97 = .ok (.putfield 42, 3) := by decide +kernel
theorem dX5_hangOn_100 : decode cX5_hangOn 100 = .ok (.aload_n 0, 1) := by decide +kernel
theorem dX5_hangOn_101 : decode cX5_hangOn 101 = .ok (.getfield 12, 3) := by decide +kernel
theorem dX5_hangOn_104 : decode cX5_hangOn 104 = .ok (.iload_n 1, 1) := by decide +kernel
theorem dX5_hangOn_105 : decode cX5_hangOn 105 = .ok (.invokevirtual 96, 3) := by decide +kernel
theorem dX5_hangOn_108 : decode cX5_hangOn 108 = .ok (.ireturn, 1) := by decide +kernel
theorem dX5_cutOff_0 : decode cX5_cutOff 0 = .ok (.aload_n 0, 1) := by decide +kernel
theorem dX5_cutOff_1 : decode cX5_cutOff 1 = .ok (.getfield 12, 3) := by decide +kernel
theorem dX5_cutOff_4 : decode cX5_cutOff 4 = .ok (.iload_n 1, 1) := by decide +kernel
theorem dX5_cutOff_5 : decode cX5_cutOff 5 = .ok (.invokevirtual 75, 3) := by decide +kernel
theorem dX5_cutOff_8 : decode cX5_cutOff 8 = .ok (.ifCond .ne 5, 3) := by decide +kernel
theorem dX5_cutOff_11 : decode cX5_cutOff 11 = .ok (.iconst (-1), 1) := by decide +kernel
theorem dX5_cutOff_12 : decode cX5_cutOff 12 = .ok (.ireturn, 1) := by decide +kernel
theorem dX5_cutOff_13 : decode cX5_cutOff 13 = .ok (.aload_n 0, 1) := by decide +kernel
theorem dX5_cutOff_14 : decode cX5_cutOff 14 = .ok (.getfield 12, 3) := by decide +kernel
theorem dX5_cutOff_17 : decode cX5_cutOff 17 = .ok (.iload_n 1, 1) := by decide +kernel
theorem dX5_cutOff_18 : decode cX5_cutOff 18 = .ok (.invokevirtual 78, 3) := by decide +kernel
theorem dX5_cutOff_21 : decode cX5_cutOff 21 = .ok (.istore_n 3, 1) := by decide +kernel
theorem dX5_cutOff_22 : decode cX5_cutOff 22 = .ok (.iload_n 3, 1) := by decide +kernel
theorem dX5_cutOff_23 : decode cX5_cutOff 23 = .ok (.ifCond .ge 10, 3) := by decide +kernel
theorem dX5_cutOff_26 : decode cX5_cutOff 26 = .ok (.aload_n 2, 1) := by decide +kernel
theorem dX5_cutOff_27 : decode cX5_cutOff 27 = .ok (.iconst 4, 1) := by decide +kernel
theorem dX5_cutOff_28 : decode cX5_cutOff 28 = .ok (.iload_n 1, 1) := by decide +kernel
theorem dX5_cutOff_29 : decode cX5_cutOff 29 = .ok (.invokevirtual 65, 3) := by decide +kernel
theorem dX5_cutOff_32 : decode cX5_cutOff 32 = .ok (.ireturn, 1) := by decide +kernel
theorem dX5_cutOff_33 : decode cX5_cutOff 33 = .ok (.aload_n 0, 1) := by decide +kernel
theorem dX5_cutOff_34 : decode cX5_cutOff 34 = .ok (.iload_n 1, 1) := by decide +kernel
theorem dX5_cutOff_35 : decode cX5_cutOff 35 = .ok (.invokevirtual 84, 3) := by decide +kernel
theorem dX5_cutOff_38 : decode cX5_cutOff 38 = .ok (.aload_n 0, 1) := by decide +kernel
theorem dX5_cutOff_39 : decode cX5_cutOff 39 = .ok (.getfield 21, 3) := by decide +kernel
theorem dX5_cutOff_42 : decode cX5_cutOff 42 = .ok (.iload_n 1, 1) := by decide +kernel
theorem dX5_cutOff_43 : decode cX5_cutOff 43 = .ok (.invokevirtual 99, 3) := by decide +kernel
theorem dX5_cutOff_46 : decode cX5_cutOff 46 = .ok (.aload_n 0, 1) := by decide +kernel
theorem dX5_cutOff_47 : decode cX5_cutOff 47 = .ok (.getfield 12, 3) := by decide +kernel
theorem dX5_cutOff_50 : decode cX5_cutOff 50 = .ok (.getfield 88, 3) := by decide +kernel
theorem dX5_cutOff_53 : decode cX5_cutOff 53 = .ok (.iload_n 1, 1) := by decide +kernel
theorem dX5_cutOff_54 : decode cX5_cutOff 54 = .ok (.iconst (-1), 1) := by decide +kernel
theorem dX5_cutOff_55 : decode cX5_cutOff 55 = .ok (.invokestatic 92, 3) := by decide +kernel
theorem dX5_cutOff_58 : decode cX5_cutOff 58 = .ok (.aload_n 0, 1) := by decide +kernel
theorem dX5_cutOff_59 : decode cX5_cutOff 59 = .ok (.dup, 1) := by decide +kernel
theorem dX5_cutOff_60 : decode cX5_cutOff 60 = .ok (.getfield 45, 3) := by decide +kernel
theorem dX5_cutOff_63 : decode cX5_cutOff 63 = .ok (.iconst 1, 1) := by decide +kernel
theorem dX5_cutOff_64 : decode cX5_cutOff 64 = .ok (.iadd, 1) := by decide +kernel
theorem dX5_cutOff_65 : decode cX5_cutOff 65 = .ok (.putfield 45, 3) := by decide +kernel
theorem dX5_cutOff_68 : decode cX5_cutOff 68 = .ok (.iload_n 3, 1) := by decide +kernel
theorem dX5_cutOff_69 : decode cX5_cutOff 69 = .ok (.ireturn, 1) := by decide +kernel
theorem dX5_walkTo_0 : decode cX5_walkTo 0 = .ok (.aload_n 0, 1) := by decide +kernel
theorem dX5_walkTo_1 : decode cX5_walkTo 1 = .ok (.getfield 12, 3) := by decide +kernel
theorem dX5_walkTo_4 : decode cX5_walkTo 4 = .ok (.iload_n 1, 1) := by decide +kernel
theorem dX5_walkTo_5 : decode cX5_walkTo 5 = .ok (.invokevirtual 75, 3) := by decide +kernel
theorem dX5_walkTo_8 : decode cX5_walkTo 8 = .ok (.ifCond .ne 5, 3) := by decide +kernel
theorem dX5_walkTo_11 : decode cX5_walkTo 11 = .ok (.iconst (-1), 1) := by decide +kernel
theorem dX5_walkTo_12 : decode cX5_walkTo 12 = .ok (.ireturn, 1) := by decide +kernel
theorem dX5_walkTo_13 : decode cX5_walkTo 13 = .ok (.aload_n 0, 1) := by decide +kernel
theorem dX5_walkTo_14 : decode cX5_walkTo 14 = .ok (.iload_n 1, 1) := by decide +kernel
theorem dX5_walkTo_15 : decode cX5_walkTo 15 = .ok (.invokevirtual 84, 3) := by decide +kernel
theorem dX5_walkTo_18 : decode cX5_walkTo 18 = .ok (.aload_n 0, 1) := by decide +kernel
theorem dX5_walkTo_19 : decode cX5_walkTo 19 = .ok (.getfield 12, 3) := by decide +kernel
theorem dX5_walkTo_22 : decode cX5_walkTo 22 = .ok (.iload_n 1, 1) := by decide +kernel
theorem dX5_walkTo_23 : decode cX5_walkTo 23 = .ok (.invokevirtual 102, 3) := by decide +kernel
theorem dX5_walkTo_26 : decode cX5_walkTo 26 = .ok (.ireturn, 1) := by decide +kernel
theorem dX5_goUp_0 : decode cX5_goUp 0 = .ok (.aload_n 0, 1) := by decide +kernel
theorem dX5_goUp_1 : decode cX5_goUp 1 = .ok (.getfield 12, 3) := by decide +kernel
theorem dX5_goUp_4 : decode cX5_goUp 4 = .ok (.iload_n 1, 1) := by decide +kernel
theorem dX5_goUp_5 : decode cX5_goUp 5 = .ok (.invokevirtual 75, 3) := by decide +kernel
theorem dX5_goUp_8 : decode cX5_goUp 8 = .ok (.ifCond .ne 5, 3) := by decide +kernel
theorem dX5_goUp_11 : decode cX5_goUp 11 = .ok (.iconst (-1), 1) := by decide +kernel
theorem dX5_goUp_12 : decode cX5_goUp 12 = .ok (.ireturn, 1) := by decide +kernel
theorem dX5_goUp_13 : decode cX5_goUp 13 = .ok (.aload_n 0, 1) := by decide +kernel
theorem dX5_goUp_14 : decode cX5_goUp 14 = .ok (.iload_n 1, 1) := by decide +kernel
theorem dX5_goUp_15 : decode cX5_goUp 15 = .ok (.invokevirtual 84, 3) := by decide +kernel
theorem dX5_goUp_18 : decode cX5_goUp 18 = .ok (.aload_n 0, 1) := by decide +kernel
theorem dX5_goUp_19 : decode cX5_goUp 19 = .ok (.getfield 12, 3) := by decide +kernel
theorem dX5_goUp_22 : decode cX5_goUp 22 = .ok (.iload_n 1, 1) := by decide +kernel
theorem dX5_goUp_23 : decode cX5_goUp 23 = .ok (.invokevirtual 81, 3) := by decide +kernel
theorem dX5_goUp_26 : decode cX5_goUp 26 = .ok (.istore_n 2, 1) := by decide +kernel
theorem dX5_goUp_27 : decode cX5_goUp 27 = .ok (.aload_n 0, 1) := by decide +kernel
theorem dX5_goUp_28 : decode cX5_goUp 28 = .ok (.getfield 21, 3) := by decide +kernel
theorem dX5_goUp_31 : decode cX5_goUp 31 = .ok (.iload_n 2, 1) := by decide +kernel
theorem dX5_goUp_32 : decode cX5_goUp 32 = .ok (.invokevirtual 105, 3) := by decide +kernel
theorem dX5_goUp_35 : decode cX5_goUp 35 = .ok (.iload_n 2, 1) := by decide +kernel
theorem dX5_goUp_36 : decode cX5_goUp 36 = .ok (.ireturn, 1) := by decide +kernel
theorem dX5_changeWeight_0 : decode cX5_changeWeight 0 = .ok (.aload_n 0, 1) := by decide +kernel
theorem dX5_changeWeight_1 : decode cX5_changeWeight 1 = .ok (.getfield 12, 3) := by decide +kernel
theorem dX5_changeWeight_4 : decode cX5_changeWeight 4 = .ok (.iload_n 1, 1) := by decide +kernel
theorem dX5_changeWeight_5 : decode cX5_changeWeight 5 = .ok (.invokevirtual 75, 3) := by decide +kernel
theorem dX5_changeWeight_8 : decode cX5_changeWeight 8 = .ok (.ifCond .ne 5, 3) := by decide +kernel
theorem dX5_changeWeight_11 : decode cX5_changeWeight 11 = .ok (.iconst (-1), 1) := by decide +kernel
theorem dX5_changeWeight_12 : decode cX5_changeWeight 12 = .ok (.ireturn, 1) := by decide +kernel
theorem dX5_changeWeight_13 : decode cX5_changeWeight 13 = .ok (.iload_n 2, 1) := by decide +kernel
theorem dX5_changeWeight_14 : decode cX5_changeWeight 14 = .ok (.invokestatic 58, 3) := by decide +kernel
theorem dX5_changeWeight_17 : decode cX5_changeWeight 17 = .ok (.ifCond .ne 6, 3) := by decide +kernel
theorem dX5_changeWeight_20 : decode cX5_changeWeight 20 = .ok (.bipush (-2), 2) := by decide +kernel
theorem dX5_changeWeight_22 : decode cX5_changeWeight 22 = .ok (.ireturn, 1) := by decide +kernel
theorem dX5_changeWeight_23 : decode cX5_changeWeight 23 = .ok (.aload_n 0, 1) := by decide +kernel
theorem dX5_changeWeight_24 : decode cX5_changeWeight 24 = .ok (.getfield 12, 3) := by decide +kernel
theorem dX5_changeWeight_27 : decode cX5_changeWeight 27 = .ok (.iload_n 1, 1) := by decide +kernel
theorem dX5_changeWeight_28 : decode cX5_changeWeight 28 = .ok (.invokevirtual 108, 3) := by decide +kernel
theorem dX5_changeWeight_31 : decode cX5_changeWeight 31 = .ok (.istore 4, 2) := by decide +kernel
theorem dX5_changeWeight_33 : decode cX5_changeWeight 33 = .ok (.iload 4, 2) := by decide +kernel
theorem dX5_changeWeight_35 : decode cX5_changeWeight 35 = .ok (.iload_n 2, 1) := by decide +kernel
theorem dX5_changeWeight_36 : decode cX5_changeWeight 36 = .ok (.if_icmp .ne 10, 3) := by decide +kernel
theorem dX5_changeWeight_39 : decode cX5_changeWeight 39 = .ok (.aload_n 3, 1) := by decide +kernel
theorem dX5_changeWeight_40 : decode cX5_changeWeight 40 = .ok (.iconst 5, 1) := by decide +kernel
theorem dX5_changeWeight_41 : decode cX5_changeWeight 41 = .ok (.iload_n 2, 1) := by decide +kernel
theorem dX5_changeWeight_42 : decode cX5_changeWeight 42 = .ok (.invokevirtual 65, 3) := by decide +kernel
theorem dX5_changeWeight_45 : decode cX5_changeWeight 45 = .ok (.ireturn, 1) := by decide +kernel
theorem dX5_changeWeight_46 : decode cX5_changeWeight 46 = .ok (.aload_n 0, 1) := by decide +kernel
theorem dX5_changeWeight_47 : decode cX5_changeWeight 47 = .ok (.getfield 12, 3) := by decide +kernel
theorem dX5_changeWeight_50 : decode cX5_changeWeight 50 = .ok (.getfield 111, 3) := by decide +kernel
theorem dX5_changeWeight_53 : decode cX5_changeWeight 53 = .ok (.iload_n 1, 1) := by decide +kernel
theorem dX5_changeWeight_54 : decode cX5_changeWeight 54 = .ok (.iload_n 2, 1) := by decide +kernel
theorem dX5_changeWeight_55 : decode cX5_changeWeight 55 = .ok (.invokestatic 92, 3) := by decide +kernel
theorem dX5_changeWeight_58 : decode cX5_changeWeight 58 = .ok (.iload 4, 2) := by decide +kernel
theorem dX5_changeWeight_60 : decode cX5_changeWeight 60 = .ok (.ireturn, 1) := by decide +kernel
theorem dX5_setSledge_0 : decode cX5_setSledge 0 = .ok (.aload_n 0, 1) := by decide +kernel
theorem dX5_setSledge_1 : decode cX5_setSledge 1 = .ok (.getfield 12, 3) := by decide +kernel
theorem dX5_setSledge_4 : decode cX5_setSledge 4 = .ok (.iload_n 1, 1) := by decide +kernel
theorem dX5_setSledge_5 : decode cX5_setSledge 5 = .ok (.invokevirtual 75, 3) := by decide +kernel
theorem dX5_setSledge_8 : decode cX5_setSledge 8 = .ok (.ifCond .ne 5, 3) := by decide +kernel
theorem dX5_setSledge_11 : decode cX5_setSledge 11 = .ok (.iconst (-1), 1) := by decide +kernel
theorem dX5_setSledge_12 : decode cX5_setSledge 12 = .ok (.ireturn, 1) := by decide +kernel
theorem dX5_setSledge_13 : decode cX5_setSledge 13 = .ok (.aload_n 0, 1) := by decide +kernel
theorem dX5_setSledge_14 : decode cX5_setSledge 14 = .ok (.getfield 28, 3) := by decide +kernel
theorem dX5_setSledge_17 : decode cX5_setSledge 17 = .ok (.getfield 114, 3) := by decide +kernel
theorem dX5_setSledge_20 : decode cX5_setSledge 20 = .ok (.iconst 3, 1) := by decide +kernel
theorem dX5_setSledge_21 : decode cX5_setSledge 21 = .ok (.if_icmp .lt 10, 3) := by decide +kernel
theorem dX5_setSledge_24 : decode cX5_setSledge 24 = .ok (.aload_n 2, 1) := by decide +kernel
theorem dX5_setSledge_25 : decode cX5_setSledge 25 = .ok (.iconst 1, 1) := by decide +kernel
theorem dX5_setSledge_26 : decode cX5_setSledge 26 = .ok (.iconst 3, 1) := by decide +kernel
theorem dX5_setSledge_27 : decode cX5_setSledge 27 = .ok (.invokevirtual 65, 3) := by decide +kernel
theorem dX5_setSledge_30 : decode cX5_setSledge 30 = .ok (.ireturn, 1) := by decide +kernel
theorem dX5_setSledge_31 : decode cX5_setSledge 31 = .ok (.aload_n 0, 1) := by decide +kernel
theorem dX5_setSledge_32 : decode cX5_setSledge 32 = .ok (.getfield 28, 3) := by decide +kernel
theorem dX5_setSledge_35 : decode cX5_setSledge 35 = .ok (.iload_n 1, 1) := by decide +kernel
theorem dX5_setSledge_36 : decode cX5_setSledge 36 = .ok (.aload_n 0, 1) := by decide +kernel
theorem dX5_setSledge_37 : decode cX5_setSledge 37 = .ok (.getfield 12, 3) := by decide +kernel
theorem dX5_setSledge_40 : decode cX5_setSledge 40 = .ok (.iload_n 1, 1) := by decide +kernel
theorem dX5_setSledge_41 : decode cX5_setSledge 41 = .ok (.invokevirtual 108, 3) := by decide +kernel
theorem dX5_setSledge_44 : decode cX5_setSledge 44 = .ok (.invokevirtual 115, 3) := by decide +kernel
theorem dX5_setSledge_47 : decode cX5_setSledge 47 = .ok (.ireturn, 1) := by decide +kernel
theorem dX5_pullSledges_0 : decode cX5_pullSledges 0 = .ok (.aload_n 0, 1) := by decide +kernel
theorem dX5_pullSledges_1 : decode cX5_pullSledges 1 = .ok (.getfield 28, 3) := by decide +kernel
theorem dX5_pullSledges_4 : decode cX5_pullSledges 4 = .ok (.invokevirtual 117, 3) := by decide +kernel
theorem dX5_pullSledges_7 : decode cX5_pullSledges 7 = .ok (.ifCond .ne 17, 3) := by decide +kernel
theorem dX5_pullSledges_10 : decode cX5_pullSledges 10 = .ok (.aload_n 1, 1) := by decide +kernel
theorem dX5_pullSledges_11 : decode cX5_pullSledges 11 = .ok (.bipush 6, 2) := by decide +kernel
theorem dX5_pullSledges_13 : decode cX5_pullSledges 13 = .ok (.aload_n 0, 1) := by decide +kernel
theorem dX5_pullSledges_14 : decode cX5_pullSledges 14 = .ok (.getfield 28, 3) := by decide +kernel
theorem dX5_pullSledges_17 : decode cX5_pullSledges 17 = .ok (.invokevirtual 121, 3) := by decide +kernel
theorem dX5_pullSledges_20 : decode cX5_pullSledges 20 = .ok (.invokevirtual 65, 3) := by decide +kernel
theorem dX5_pullSledges_23 : decode cX5_pullSledges 23 = .ok (.ireturn, 1) := by decide +kernel
theorem dX5_pullSledges_24 : decode cX5_pullSledges 24 = .ok (.aload_n 0, 1) := by decide +kernel
theorem dX5_pullSledges_25 : decode cX5_pullSledges 25 = .ok (.getfield 28, 3) := by decide +kernel
theorem dX5_pullSledges_28 : decode cX5_pullSledges 28 = .ok (.invokevirtual 121, 3) := by decide +kernel
theorem dX5_pullSledges_31 : decode cX5_pullSledges 31 = .ok (.istore_n 2, 1) := by decide +kernel
theorem dX5_pullSledges_32 : decode cX5_pullSledges 32 = .ok (.iconst 0, 1) := by decide +kernel
theorem dX5_pullSledges_33 : decode cX5_pullSledges 33 = .ok (.istore_n 3, 1) := by decide +kernel
theorem dX5_pullSledges_34 : decode cX5_pullSledges 34 = .ok (.iload_n 3, 1) := by decide +kernel
theorem dX5_pullSledges_35 : decode cX5_pullSledges 35 = .ok (.iconst 3, 1) := by decide +kernel
theorem dX5_pullSledges_36 : decode cX5_pullSledges 36 = .ok (.if_icmp .ge 53, 3) := by decide +kernel
theorem dX5_pullSledges_39 : decode cX5_pullSledges 39 = .ok (.aload_n 0, 1) := by decide +kernel
theorem dX5_pullSledges_40 : decode cX5_pullSledges 40 = .ok (.getfield 28, 3) := by decide +kernel
theorem dX5_pullSledges_43 : decode cX5_pullSledges 43 = .ok (.iload_n 3, 1) := by decide +kernel
theorem dX5_pullSledges_44 : decode cX5_pullSledges 44 = .ok (.invokevirtual 124, 3) := by decide +kernel
theorem dX5_pullSledges_47 : decode cX5_pullSledges 47 = .ok (.ifCond .eq 36, 3) := by decide +kernel
theorem dX5_pullSledges_50 : decode cX5_pullSledges 50 = .ok (.aload_n 0, 1) := by decide +kernel
theorem dX5_pullSledges_51 : decode cX5_pullSledges 51 = .ok (.getfield 28, 3) := by decide +kernel
theorem dX5_pullSledges_54 : decode cX5_pullSledges 54 = .ok (.iload_n 3, 1) := by decide +kernel
theorem dX5_pullSledges_55 : decode cX5_pullSledges 55 = .ok (.invokevirtual 127, 3) := by decide +kernel
theorem dX5_pullSledges_58 : decode cX5_pullSledges 58 = .ok (.istore 4, 2) := by decide +kernel
theorem dX5_pullSledges_60 : decode cX5_pullSledges 60 = .ok (.aload_n 0, 1) := by decide +kernel
theorem dX5_pullSledges_61 : decode cX5_pullSledges 61 = .ok (.iload 4, 2) := by decide +kernel
theorem dX5_pullSledges_63 : decode cX5_pullSledges 63 = .ok (.invokevirtual 84, 3) := by decide +kernel
theorem dX5_pullSledges_66 : decode cX5_pullSledges 66 = .ok (.aload_n 0, 1) := by decide +kernel
theorem dX5_pullSledges_67 : decode cX5_pullSledges 67 = .ok (.getfield 28, 3) := by decide +kernel
theorem dX5_pullSledges_70 : decode cX5_pullSledges 70 = .ok (.iload_n 3, 1) := by decide +kernel
theorem dX5_pullSledges_71 : decode cX5_pullSledges 71 = .ok (.aload_n 0, 1) := by decide +kernel
theorem dX5_pullSledges_72 : decode cX5_pullSledges 72 = .ok (.getfield 12, 3) := by decide +kernel
theorem dX5_pullSledges_75 : decode cX5_pullSledges 75 = .ok (.iload 4, 2) := by decide +kernel
theorem dX5_pullSledges_77 : decode cX5_pullSledges 77 = .ok (.invokevirtual 78, 3) := by decide +kernel
theorem dX5_pullSledges_80 : decode cX5_pullSledges 80 = .ok (.invokevirtual 130, 3) := by decide +kernel
theorem dX5_pullSledges_83 : decode cX5_pullSledges 83 = .ok (.iinc 3 1, 3) := by decide +kernel
theorem dX5_pullSledges_86 : decode cX5_pullSledges 86 = .ok (.goto (-52), 3) := by decide +kernel
theorem dX5_pullSledges_89 : decode cX5_pullSledges 89 = .ok (.aload_n 0, 1) := by decide +kernel
theorem dX5_pullSledges_90 : decode cX5_pullSledges 90 = .ok (.getfield 28, 3) := by decide +kernel
theorem dX5_pullSledges_93 : decode cX5_pullSledges 93 = .ok (.invokevirtual 121, 3) := by decide +kernel
theorem dX5_pullSledges_96 : decode cX5_pullSledges 96 = .ok (.iload_n 2, 1) := by decide +kernel
theorem dX5_pullSledges_97 : decode cX5_pullSledges 97 = .ok (.isub, 1) := by decide +kernel
theorem dX5_pullSledges_98 : decode cX5_pullSledges 98 = .ok (.ireturn, 1) := by decide +kernel
theorem dX5_expose_0 : decode cX5_expose 0 = .ok (.aload_n 0, 1) := by decide +kernel
theorem dX5_expose_1 : decode cX5_expose 1 = .ok (.dup, 1) := by decide +kernel
theorem dX5_expose_2 : decode cX5_expose 2 = .ok (.getfield 38, 3) := by decide +kernel
theorem dX5_expose_5 : decode cX5_expose 5 = .ok (.iconst 1, 1) := by decide +kernel
theorem dX5_expose_6 : decode cX5_expose 6 = .ok (.iadd, 1) := by decide +kernel
theorem dX5_expose_7 : decode cX5_expose 7 = .ok (.putfield 38, 3) := by decide +kernel
theorem dX5_expose_10 : decode cX5_expose 10 = .ok (.aload_n 0, 1) := by decide +kernel
theorem dX5_expose_11 : decode cX5_expose 11 = .ok (.getfield 21, 3) := by decide +kernel
theorem dX5_expose_14 : decode cX5_expose 14 = .ok (.iload_n 1, 1) := by decide +kernel
theorem dX5_expose_15 : decode cX5_expose 15 = .ok (.invokevirtual 105, 3) := by decide +kernel
theorem dX5_expose_18 : decode cX5_expose 18 = .ok (.aload_n 0, 1) := by decide +kernel
theorem dX5_expose_19 : decode cX5_expose 19 = .ok (.getfield 21, 3) := by decide +kernel
theorem dX5_expose_22 : decode cX5_expose 22 = .ok (.iload_n 1, 1) := by decide +kernel
theorem dX5_expose_23 : decode cX5_expose 23 = .ok (.invokevirtual 134, 3) := by decide +kernel
theorem dX5_expose_26 : decode cX5_expose 26 = .ok (.iload_n 1, 1) := by decide +kernel
theorem dX5_expose_27 : decode cX5_expose 27 = .ok (.istore_n 2, 1) := by decide +kernel
theorem dX5_expose_28 : decode cX5_expose 28 = .ok (.aload_n 0, 1) := by decide +kernel
theorem dX5_expose_29 : decode cX5_expose 29 = .ok (.getfield 12, 3) := by decide +kernel
theorem dX5_expose_32 : decode cX5_expose 32 = .ok (.aload_n 0, 1) := by decide +kernel
theorem dX5_expose_33 : decode cX5_expose 33 = .ok (.getfield 21, 3) := by decide +kernel
theorem dX5_expose_36 : decode cX5_expose 36 = .ok (.iload_n 2, 1) := by decide +kernel
theorem dX5_expose_37 : decode cX5_expose 37 = .ok (.invokevirtual 137, 3) := by decide +kernel
theorem dX5_expose_40 : decode cX5_expose 40 = .ok (.invokevirtual 78, 3) := by decide +kernel
theorem dX5_expose_43 : decode cX5_expose 43 = .ok (.istore_n 3, 1) := by decide +kernel
theorem dX5_expose_44 : decode cX5_expose 44 = .ok (.iconst 0, 1) := by decide +kernel
theorem dX5_expose_45 : decode cX5_expose 45 = .ok (.istore 4, 2) := by decide +kernel
theorem dX5_expose_47 : decode cX5_expose 47 = .ok (.iload 4, 2) := by decide +kernel
theorem dX5_expose_49 : decode cX5_expose 49 = .ok (.bipush 16, 2) := by decide +kernel
theorem dX5_expose_51 : decode cX5_expose 51 = .ok (.if_icmp .ge 56, 3) := by decide +kernel
theorem dX5_expose_54 : decode cX5_expose 54 = .ok (.iload_n 3, 1) := by decide +kernel
theorem dX5_expose_55 : decode cX5_expose 55 = .ok (.ifCond .lt 52, 3) := by decide +kernel
theorem dX5_expose_58 : decode cX5_expose 58 = .ok (.aload_n 0, 1) := by decide +kernel
theorem dX5_expose_59 : decode cX5_expose 59 = .ok (.getfield 21, 3) := by decide +kernel
theorem dX5_expose_62 : decode cX5_expose 62 = .ok (.iload_n 3, 1) := by decide +kernel
theorem dX5_expose_63 : decode cX5_expose 63 = .ok (.invokevirtual 105, 3) := by decide +kernel
theorem dX5_expose_66 : decode cX5_expose 66 = .ok (.aload_n 0, 1) := by decide +kernel
theorem dX5_expose_67 : decode cX5_expose 67 = .ok (.getfield 21, 3) := by decide +kernel
theorem dX5_expose_70 : decode cX5_expose 70 = .ok (.iload_n 3, 1) := by decide +kernel
theorem dX5_expose_71 : decode cX5_expose 71 = .ok (.invokevirtual 134, 3) := by decide +kernel
theorem dX5_expose_74 : decode cX5_expose 74 = .ok (.aload_n 0, 1) := by decide +kernel
theorem dX5_expose_75 : decode cX5_expose 75 = .ok (.getfield 21, 3) := by decide +kernel
theorem dX5_expose_78 : decode cX5_expose 78 = .ok (.iload_n 3, 1) := by decide +kernel
theorem dX5_expose_79 : decode cX5_expose 79 = .ok (.iload_n 2, 1) := by decide +kernel
theorem dX5_expose_80 : decode cX5_expose 80 = .ok (.invokevirtual 140, 3) := by decide +kernel
theorem dX5_expose_83 : decode cX5_expose 83 = .ok (.iload_n 3, 1) := by decide +kernel
theorem dX5_expose_84 : decode cX5_expose 84 = .ok (.istore_n 2, 1) := by decide +kernel
theorem dX5_expose_85 : decode cX5_expose 85 = .ok (.aload_n 0, 1) := by decide +kernel
theorem dX5_expose_86 : decode cX5_expose 86 = .ok (.getfield 12, 3) := by decide +kernel
theorem dX5_expose_89 : decode cX5_expose 89 = .ok (.aload_n 0, 1) := by decide +kernel
theorem dX5_expose_90 : decode cX5_expose 90 = .ok (.getfield 21, 3) := by decide +kernel
theorem dX5_expose_93 : decode cX5_expose 93 = .ok (.iload_n 2, 1) := by decide +kernel
theorem dX5_expose_94 : decode cX5_expose 94 = .ok (.invokevirtual 137, 3) := by decide +kernel
theorem dX5_expose_97 : decode cX5_expose 97 = .ok (.invokevirtual 78, 3) := by decide +kernel
theorem dX5_expose_100 : decode cX5_expose 100 = .ok (.istore_n 3, 1) := by decide +kernel
theorem dX5_expose_101 : decode cX5_expose 101 = .ok (.iinc 4 1, 3) := by decide +kernel
theorem dX5_expose_104 : decode cX5_expose 104 = .ok (.goto (-57), 3) := by decide +kernel
theorem dX5_expose_107 : decode cX5_expose 107 = .ok (.aload_n 0, 1) := by decide +kernel
theorem dX5_expose_108 : decode cX5_expose 108 = .ok (.getfield 21, 3) := by decide +kernel
theorem dX5_expose_111 : decode cX5_expose 111 = .ok (.iload_n 1, 1) := by decide +kernel
theorem dX5_expose_112 : decode cX5_expose 112 = .ok (.invokevirtual 105, 3) := by decide +kernel
theorem dX5_expose_115 : decode cX5_expose 115 = .ok (.return_, 1) := by decide +kernel
theorem dX5_countRopes_0 : decode cX5_countRopes 0 = .ok (.iconst 0, 1) := by decide +kernel
theorem dX5_countRopes_1 : decode cX5_countRopes 1 = .ok (.istore_n 1, 1) := by decide +kernel
theorem dX5_countRopes_2 : decode cX5_countRopes 2 = .ok (.iconst 0, 1) := by decide +kernel
theorem dX5_countRopes_3 : decode cX5_countRopes 3 = .ok (.istore_n 2, 1) := by decide +kernel
theorem dX5_countRopes_4 : decode cX5_countRopes 4 = .ok (.iload_n 2, 1) := by decide +kernel
theorem dX5_countRopes_5 : decode cX5_countRopes 5 = .ok (.aload_n 0, 1) := by decide +kernel
theorem dX5_countRopes_6 : decode cX5_countRopes 6 = .ok (.getfield 12, 3) := by decide +kernel
theorem dX5_countRopes_9 : decode cX5_countRopes 9 = .ok (.getfield 62, 3) := by decide +kernel
theorem dX5_countRopes_12 : decode cX5_countRopes 12 = .ok (.if_icmp .ge 28, 3) := by decide +kernel
theorem dX5_countRopes_15 : decode cX5_countRopes 15 = .ok (.iload_n 1, 1) := by decide +kernel
theorem dX5_countRopes_16 : decode cX5_countRopes 16 = .ok (.aload_n 0, 1) := by decide +kernel
theorem dX5_countRopes_17 : decode cX5_countRopes 17 = .ok (.getfield 21, 3) := by decide +kernel
theorem dX5_countRopes_20 : decode cX5_countRopes 20 = .ok (.iload_n 2, 1) := by decide +kernel
theorem dX5_countRopes_21 : decode cX5_countRopes 21 = .ok (.invokevirtual 143, 3) := by decide +kernel
theorem dX5_countRopes_24 : decode cX5_countRopes 24 = .ok (.ifCond .ge 7, 3) := by decide +kernel
theorem dX5_countRopes_27 : decode cX5_countRopes 27 = .ok (.iconst 1, 1) := by decide +kernel
theorem dX5_countRopes_28 : decode cX5_countRopes 28 = .ok (.goto 4, 3) := by decide +kernel
theorem dX5_countRopes_31 : decode cX5_countRopes 31 = .ok (.iconst 0, 1) := by decide +kernel
theorem dX5_countRopes_32 : decode cX5_countRopes 32 = .ok (.iadd, 1) := by decide +kernel
theorem dX5_countRopes_33 : decode cX5_countRopes 33 = .ok (.istore_n 1, 1) := by decide +kernel
theorem dX5_countRopes_34 : decode cX5_countRopes 34 = .ok (.iinc 2 1, 3) := by decide +kernel
theorem dX5_countRopes_37 : decode cX5_countRopes 37 = .ok (.goto (-33), 3) := by decide +kernel
theorem dX5_countRopes_40 : decode cX5_countRopes 40 = .ok (.iload_n 1, 1) := by decide +kernel
theorem dX5_countRopes_41 : decode cX5_countRopes 41 = .ok (.ireturn, 1) := by decide +kernel
theorem dX5_countRopesUp_0 : decode cX5_countRopesUp 0 = .ok (.iconst 0, 1) := by decide +kernel
theorem dX5_countRopesUp_1 : decode cX5_countRopesUp 1 = .ok (.istore_n 2, 1) := by decide +kernel
theorem dX5_countRopesUp_2 : decode cX5_countRopesUp 2 = .ok (.iload_n 1, 1) := by decide +kernel
theorem dX5_countRopesUp_3 : decode cX5_countRopesUp 3 = .ok (.istore_n 3, 1) := by decide +kernel
theorem dX5_countRopesUp_4 : decode cX5_countRopesUp 4 = .ok (.iload_n 2, 1) := by decide +kernel
theorem dX5_countRopesUp_5 : decode cX5_countRopesUp 5 = .ok (.bipush 16, 2) := by decide +kernel
theorem dX5_countRopesUp_7 : decode cX5_countRopesUp 7 = .ok (.if_icmp .ge 29, 3) := by decide +kernel
theorem dX5_countRopesUp_10 : decode cX5_countRopesUp 10 = .ok (.iload_n 3, 1) := by decide +kernel
theorem dX5_countRopesUp_11 : decode cX5_countRopesUp 11 = .ok (.ifCond .lt 25, 3) := by decide +kernel
theorem dX5_countRopesUp_14 : decode cX5_countRopesUp 14 = .ok (.iinc 2 1, 3) := by decide +kernel
theorem dX5_countRopesUp_17 : decode cX5_countRopesUp 17 = .ok (.aload_n 0, 1) := by decide +kernel
theorem dX5_countRopesUp_18 : decode cX5_countRopesUp 18 = .ok (.getfield 12, 3) := by decide +kernel
theorem dX5_countRopesUp_21 : decode cX5_countRopesUp 21 = .ok (.aload_n 0, 1) := by decide +kernel
theorem dX5_countRopesUp_22 : decode cX5_countRopesUp 22 = .ok (.getfield 21, 3) := by decide +kernel
theorem dX5_countRopesUp_25 : decode cX5_countRopesUp 25 = .ok (.iload_n 3, 1) := by decide +kernel
theorem dX5_countRopesUp_26 : decode cX5_countRopesUp 26 = .ok (.invokevirtual 137, 3) := by decide +kernel
theorem dX5_countRopesUp_29 : decode cX5_countRopesUp 29 = .ok (.invokevirtual 78, 3) := by decide +kernel
theorem dX5_countRopesUp_32 : decode cX5_countRopesUp 32 = .ok (.istore_n 3, 1) := by decide +kernel
theorem dX5_countRopesUp_33 : decode cX5_countRopesUp 33 = .ok (.goto (-29), 3) := by decide +kernel
theorem dX5_countRopesUp_36 : decode cX5_countRopesUp 36 = .ok (.iload_n 2, 1) := by decide +kernel
theorem dX5_countRopesUp_37 : decode cX5_countRopesUp 37 = .ok (.ireturn, 1) := by decide +kernel
theorem dX5_sumByRopes_0 : decode cX5_sumByRopes 0 = .ok (.iconst 0, 1) := by decide +kernel
theorem dX5_sumByRopes_1 : decode cX5_sumByRopes 1 = .ok (.istore_n 2, 1) := by decide +kernel
theorem dX5_sumByRopes_2 : decode cX5_sumByRopes 2 = .ok (.iload_n 1, 1) := by decide +kernel
theorem dX5_sumByRopes_3 : decode cX5_sumByRopes 3 = .ok (.istore_n 3, 1) := by decide +kernel
theorem dX5_sumByRopes_4 : decode cX5_sumByRopes 4 = .ok (.iconst 0, 1) := by decide +kernel
theorem dX5_sumByRopes_5 : decode cX5_sumByRopes 5 = .ok (.istore 4, 2) := by decide +kernel
theorem dX5_sumByRopes_7 : decode cX5_sumByRopes 7 = .ok (.iload 4, 2) := by decide +kernel
theorem dX5_sumByRopes_9 : decode cX5_sumByRopes 9 = .ok (.bipush 16, 2) := by decide +kernel
theorem dX5_sumByRopes_11 : decode cX5_sumByRopes 11 = .ok (.if_icmp .ge 37, 3) := by decide +kernel
theorem dX5_sumByRopes_14 : decode cX5_sumByRopes 14 = .ok (.iload_n 3, 1) := by decide +kernel
theorem dX5_sumByRopes_15 : decode cX5_sumByRopes 15 = .ok (.ifCond .lt 33, 3) := by decide +kernel
theorem dX5_sumByRopes_18 : decode cX5_sumByRopes 18 = .ok (.iload_n 2, 1) := by decide +kernel
theorem dX5_sumByRopes_19 : decode cX5_sumByRopes 19 = .ok (.aload_n 0, 1) := by decide +kernel
theorem dX5_sumByRopes_20 : decode cX5_sumByRopes 20 = .ok (.iload_n 3, 1) := by decide +kernel
theorem dX5_sumByRopes_21 : decode cX5_sumByRopes 21 = .ok (.invokevirtual 146, 3) := by decide +kernel
theorem dX5_sumByRopes_24 : decode cX5_sumByRopes 24 = .ok (.iadd, 1) := by decide +kernel
theorem dX5_sumByRopes_25 : decode cX5_sumByRopes 25 = .ok (.istore_n 2, 1) := by decide +kernel
theorem dX5_sumByRopes_26 : decode cX5_sumByRopes 26 = .ok (.aload_n 0, 1) := by decide +kernel
theorem dX5_sumByRopes_27 : decode cX5_sumByRopes 27 = .ok (.getfield 12, 3) := by decide +kernel
theorem dX5_sumByRopes_30 : decode cX5_sumByRopes 30 = .ok (.aload_n 0, 1) := by decide +kernel
theorem dX5_sumByRopes_31 : decode cX5_sumByRopes 31 = .ok (.getfield 21, 3) := by decide +kernel
theorem dX5_sumByRopes_34 : decode cX5_sumByRopes 34 = .ok (.iload_n 3, 1) := by decide +kernel
theorem dX5_sumByRopes_35 : decode cX5_sumByRopes 35 = .ok (.invokevirtual 137, 3) := by decide +kernel
theorem dX5_sumByRopes_38 : decode cX5_sumByRopes 38 = .ok (.invokevirtual 78, 3) := by decide +kernel
theorem dX5_sumByRopes_41 : decode cX5_sumByRopes 41 = .ok (.istore_n 3, 1) := by decide +kernel
theorem dX5_sumByRopes_42 : decode cX5_sumByRopes 42 = .ok (.iinc 4 1, 3) := by decide +kernel
theorem dX5_sumByRopes_45 : decode cX5_sumByRopes 45 = .ok (.goto (-38), 3) := by decide +kernel
theorem dX5_sumByRopes_48 : decode cX5_sumByRopes 48 = .ok (.iload_n 2, 1) := by decide +kernel
theorem dX5_sumByRopes_49 : decode cX5_sumByRopes 49 = .ok (.ireturn, 1) := by decide +kernel
theorem dX5_weightDownTo_0 : decode cX5_weightDownTo 0 = .ok (.aload_n 0, 1) := by decide +kernel
theorem dX5_weightDownTo_1 : decode cX5_weightDownTo 1 = .ok (.getfield 12, 3) := by decide +kernel
theorem dX5_weightDownTo_4 : decode cX5_weightDownTo 4 = .ok (.iload_n 1, 1) := by decide +kernel
theorem dX5_weightDownTo_5 : decode cX5_weightDownTo 5 = .ok (.invokevirtual 108, 3) := by decide +kernel
theorem dX5_weightDownTo_8 : decode cX5_weightDownTo 8 = .ok (.aload_n 0, 1) := by decide +kernel
theorem dX5_weightDownTo_9 : decode cX5_weightDownTo 9 = .ok (.aload_n 0, 1) := by decide +kernel
theorem dX5_weightDownTo_10 : decode cX5_weightDownTo 10 = .ok (.getfield 21, 3) := by decide +kernel
theorem dX5_weightDownTo_13 : decode cX5_weightDownTo 13 = .ok (.iload_n 1, 1) := by decide +kernel
theorem dX5_weightDownTo_14 : decode cX5_weightDownTo 14 = .ok (.invokevirtual 149, 3) := by decide +kernel
theorem dX5_weightDownTo_17 : decode cX5_weightDownTo 17 = .ok (.invokevirtual 152, 3) := by decide +kernel
theorem dX5_weightDownTo_20 : decode cX5_weightDownTo 20 = .ok (.iadd, 1) := by decide +kernel
theorem dX5_weightDownTo_21 : decode cX5_weightDownTo 21 = .ok (.istore_n 2, 1) := by decide +kernel
theorem dX5_weightDownTo_22 : decode cX5_weightDownTo 22 = .ok (.iload_n 1, 1) := by decide +kernel
theorem dX5_weightDownTo_23 : decode cX5_weightDownTo 23 = .ok (.istore_n 3, 1) := by decide +kernel
theorem dX5_weightDownTo_24 : decode cX5_weightDownTo 24 = .ok (.aload_n 0, 1) := by decide +kernel
theorem dX5_weightDownTo_25 : decode cX5_weightDownTo 25 = .ok (.getfield 21, 3) := by decide +kernel
theorem dX5_weightDownTo_28 : decode cX5_weightDownTo 28 = .ok (.iload_n 3, 1) := by decide +kernel
theorem dX5_weightDownTo_29 : decode cX5_weightDownTo 29 = .ok (.invokevirtual 143, 3) := by decide +kernel
theorem dX5_weightDownTo_32 : decode cX5_weightDownTo 32 = .ok (.istore 4, 2) := by decide +kernel
theorem dX5_weightDownTo_34 : decode cX5_weightDownTo 34 = .ok (.iconst 0, 1) := by decide +kernel
theorem dX5_weightDownTo_35 : decode cX5_weightDownTo 35 = .ok (.istore 5, 2) := by decide +kernel
theorem dX5_weightDownTo_37 : decode cX5_weightDownTo 37 = .ok (.iload 5, 2) := by decide +kernel
theorem dX5_weightDownTo_39 : decode cX5_weightDownTo 39 = .ok (.bipush 16, 2) := by decide +kernel
theorem dX5_weightDownTo_41 : decode cX5_weightDownTo 41 = .ok (.if_icmp .ge 66, 3) := by decide +kernel
theorem dX5_weightDownTo_44 : decode cX5_weightDownTo 44 = .ok (.iload 4, 2) := by decide +kernel
theorem dX5_weightDownTo_46 : decode cX5_weightDownTo 46 = .ok (.ifCond .lt 61, 3) := by decide +kernel
theorem dX5_weightDownTo_49 : decode cX5_weightDownTo 49 = .ok (.aload_n 0, 1) := by decide +kernel
theorem dX5_weightDownTo_50 : decode cX5_weightDownTo 50 = .ok (.getfield 21, 3) := by decide +kernel
theorem dX5_weightDownTo_53 : decode cX5_weightDownTo 53 = .ok (.iload 4, 2) := by decide +kernel
theorem dX5_weightDownTo_55 : decode cX5_weightDownTo 55 = .ok (.invokevirtual 155, 3) := by decide +kernel
theorem dX5_weightDownTo_58 : decode cX5_weightDownTo 58 = .ok (.iload_n 3, 1) := by decide +kernel
theorem dX5_weightDownTo_59 : decode cX5_weightDownTo 59 = .ok (.if_icmp .ne 29, 3) := by decide +kernel
theorem dX5_weightDownTo_62 : decode cX5_weightDownTo 62 = .ok (.iload_n 2, 1) := by decide +kernel
theorem dX5_weightDownTo_63 : decode cX5_weightDownTo 63 = .ok (.aload_n 0, 1) := by decide +kernel
theorem dX5_weightDownTo_64 : decode cX5_weightDownTo 64 = .ok (.getfield 12, 3) := by decide +kernel
theorem dX5_weightDownTo_67 : decode cX5_weightDownTo 67 = .ok (.iload 4, 2) := by decide +kernel
theorem dX5_weightDownTo_69 : decode cX5_weightDownTo 69 = .ok (.invokevirtual 108, 3) := by decide +kernel
theorem dX5_weightDownTo_72 : decode cX5_weightDownTo 72 = .ok (.aload_n 0, 1) := by decide +kernel
theorem dX5_weightDownTo_73 : decode cX5_weightDownTo 73 = .ok (.aload_n 0, 1) := by decide +kernel
theorem dX5_weightDownTo_74 : decode cX5_weightDownTo 74 = .ok (.getfield 21, 3) := by decide +kernel
theorem dX5_weightDownTo_77 : decode cX5_weightDownTo 77 = .ok (.iload 4, 2) := by decide +kernel
theorem dX5_weightDownTo_79 : decode cX5_weightDownTo 79 = .ok (.invokevirtual 149, 3) := by decide +kernel
theorem dX5_weightDownTo_82 : decode cX5_weightDownTo 82 = .ok (.invokevirtual 152, 3) := by decide +kernel
theorem dX5_weightDownTo_85 : decode cX5_weightDownTo 85 = .ok (.iadd, 1) := by decide +kernel
theorem dX5_weightDownTo_86 : decode cX5_weightDownTo 86 = .ok (.iadd, 1) := by decide +kernel
theorem dX5_weightDownTo_87 : decode cX5_weightDownTo 87 = .ok (.istore_n 2, 1) := by decide +kernel
theorem dX5_weightDownTo_88 : decode cX5_weightDownTo 88 = .ok (.iload 4, 2) := by decide +kernel
theorem dX5_weightDownTo_90 : decode cX5_weightDownTo 90 = .ok (.istore_n 3, 1) := by decide +kernel
theorem dX5_weightDownTo_91 : decode cX5_weightDownTo 91 = .ok (.aload_n 0, 1) := by decide +kernel
theorem dX5_weightDownTo_92 : decode cX5_weightDownTo 92 = .ok (.getfield 21, 3) := by decide +kernel
theorem dX5_weightDownTo_95 : decode cX5_weightDownTo 95 = .ok (.iload_n 3, 1) := by decide +kernel
theorem dX5_weightDownTo_96 : decode cX5_weightDownTo 96 = .ok (.invokevirtual 143, 3) := by decide +kernel
theorem dX5_weightDownTo_99 : decode cX5_weightDownTo 99 = .ok (.istore 4, 2) := by decide +kernel
theorem dX5_weightDownTo_101 : decode cX5_weightDownTo 101 = .ok (.iinc 5 1, 3) := by decide +kernel
theorem dX5_weightDownTo_104 : decode cX5_weightDownTo 104 = .ok (.goto (-67), 3) := by decide +kernel
theorem dX5_weightDownTo_107 : decode cX5_weightDownTo 107 = .ok (.iload_n 2, 1) := by decide +kernel
theorem dX5_weightDownTo_108 : decode cX5_weightDownTo 108 = .ok (.ireturn, 1) := by decide +kernel
theorem dX5_weightBelow_0 : decode cX5_weightBelow 0 = .ok (.iconst 0, 1) := by decide +kernel
theorem dX5_weightBelow_1 : decode cX5_weightBelow 1 = .ok (.istore_n 2, 1) := by decide +kernel
theorem dX5_weightBelow_2 : decode cX5_weightBelow 2 = .ok (.iconst 0, 1) := by decide +kernel
theorem dX5_weightBelow_3 : decode cX5_weightBelow 3 = .ok (.istore_n 3, 1) := by decide +kernel
theorem dX5_weightBelow_4 : decode cX5_weightBelow 4 = .ok (.iload_n 3, 1) := by decide +kernel
theorem dX5_weightBelow_5 : decode cX5_weightBelow 5 = .ok (.aload_n 0, 1) := by decide +kernel
theorem dX5_weightBelow_6 : decode cX5_weightBelow 6 = .ok (.getfield 12, 3) := by decide +kernel
theorem dX5_weightBelow_9 : decode cX5_weightBelow 9 = .ok (.getfield 62, 3) := by decide +kernel
theorem dX5_weightBelow_12 : decode cX5_weightBelow 12 = .ok (.if_icmp .ge 36, 3) := by decide +kernel
theorem dX5_weightBelow_15 : decode cX5_weightBelow 15 = .ok (.iload_n 2, 1) := by decide +kernel
theorem dX5_weightBelow_16 : decode cX5_weightBelow 16 = .ok (.aload_n 0, 1) := by decide +kernel
theorem dX5_weightBelow_17 : decode cX5_weightBelow 17 = .ok (.getfield 21, 3) := by decide +kernel
theorem dX5_weightBelow_20 : decode cX5_weightBelow 20 = .ok (.iload_n 3, 1) := by decide +kernel
theorem dX5_weightBelow_21 : decode cX5_weightBelow 21 = .ok (.iload_n 1, 1) := by decide +kernel
theorem dX5_weightBelow_22 : decode cX5_weightBelow 22 = .ok (.invokevirtual 158, 3) := by decide +kernel
theorem dX5_weightBelow_25 : decode cX5_weightBelow 25 = .ok (.ifCond .eq 14, 3) := by decide +kernel
theorem dX5_weightBelow_28 : decode cX5_weightBelow 28 = .ok (.aload_n 0, 1) := by decide +kernel
theorem dX5_weightBelow_29 : decode cX5_weightBelow 29 = .ok (.getfield 12, 3) := by decide +kernel
theorem dX5_weightBelow_32 : decode cX5_weightBelow 32 = .ok (.iload_n 3, 1) := by decide +kernel
theorem dX5_weightBelow_33 : decode cX5_weightBelow 33 = .ok (.invokevirtual 108, 3) := by decide +kernel
theorem dX5_weightBelow_36 : decode cX5_weightBelow 36 = .ok (.goto 4, 3) := by decide +kernel
theorem dX5_weightBelow_39 : decode cX5_weightBelow 39 = .ok (.iconst 0, 1) := by decide +kernel
theorem dX5_weightBelow_40 : decode cX5_weightBelow 40 = .ok (.iadd, 1) := by decide +kernel
theorem dX5_weightBelow_41 : decode cX5_weightBelow 41 = .ok (.istore_n 2, 1) := by decide +kernel
theorem dX5_weightBelow_42 : decode cX5_weightBelow 42 = .ok (.iinc 3 1, 3) := by decide +kernel
theorem dX5_weightBelow_45 : decode cX5_weightBelow 45 = .ok (.goto (-41), 3) := by decide +kernel
theorem dX5_weightBelow_48 : decode cX5_weightBelow 48 = .ok (.iload_n 2, 1) := by decide +kernel
theorem dX5_weightBelow_49 : decode cX5_weightBelow 49 = .ok (.ireturn, 1) := by decide +kernel
theorem dX5_rootByTops_0 : decode cX5_rootByTops 0 = .ok (.aload_n 0, 1) := by decide +kernel
theorem dX5_rootByTops_1 : decode cX5_rootByTops 1 = .ok (.getfield 21, 3) := by decide +kernel
theorem dX5_rootByTops_4 : decode cX5_rootByTops 4 = .ok (.iload_n 1, 1) := by decide +kernel
theorem dX5_rootByTops_5 : decode cX5_rootByTops 5 = .ok (.invokevirtual 137, 3) := by decide +kernel
theorem dX5_rootByTops_8 : decode cX5_rootByTops 8 = .ok (.istore_n 2, 1) := by decide +kernel
theorem dX5_rootByTops_9 : decode cX5_rootByTops 9 = .ok (.iconst 0, 1) := by decide +kernel
theorem dX5_rootByTops_10 : decode cX5_rootByTops 10 = .ok (.istore_n 3, 1) := by decide +kernel
theorem dX5_rootByTops_11 : decode cX5_rootByTops 11 = .ok (.iload_n 3, 1) := by decide +kernel
theorem dX5_rootByTops_12 : decode cX5_rootByTops 12 = .ok (.bipush 16, 2) := by decide +kernel
theorem dX5_rootByTops_14 : decode cX5_rootByTops 14 = .ok (.if_icmp .ge 36, 3) := by decide +kernel
theorem dX5_rootByTops_17 : decode cX5_rootByTops 17 = .ok (.aload_n 0, 1) := by decide +kernel
theorem dX5_rootByTops_18 : decode cX5_rootByTops 18 = .ok (.getfield 12, 3) := by decide +kernel
theorem dX5_rootByTops_21 : decode cX5_rootByTops 21 = .ok (.iload_n 2, 1) := by decide +kernel
theorem dX5_rootByTops_22 : decode cX5_rootByTops 22 = .ok (.invokevirtual 78, 3) := by decide +kernel
theorem dX5_rootByTops_25 : decode cX5_rootByTops 25 = .ok (.ifCond .lt 25, 3) := by decide +kernel
theorem dX5_rootByTops_28 : decode cX5_rootByTops 28 = .ok (.aload_n 0, 1) := by decide +kernel
theorem dX5_rootByTops_29 : decode cX5_rootByTops 29 = .ok (.getfield 21, 3) := by decide +kernel
theorem dX5_rootByTops_32 : decode cX5_rootByTops 32 = .ok (.aload_n 0, 1) := by decide +kernel
theorem dX5_rootByTops_33 : decode cX5_rootByTops 33 = .ok (.getfield 12, 3) := by decide +kernel
theorem dX5_rootByTops_36 : decode cX5_rootByTops 36 = .ok (.iload_n 2, 1) := by decide +kernel
theorem dX5_rootByTops_37 : decode cX5_rootByTops 37 = .ok (.invokevirtual 78, 3) := by decide +kernel
theorem dX5_rootByTops_40 : decode cX5_rootByTops 40 = .ok (.invokevirtual 137, 3) := by decide +kernel
theorem dX5_rootByTops_43 : decode cX5_rootByTops 43 = .ok (.istore_n 2, 1) := by decide +kernel
theorem dX5_rootByTops_44 : decode cX5_rootByTops 44 = .ok (.iinc 3 1, 3) := by decide +kernel
theorem dX5_rootByTops_47 : decode cX5_rootByTops 47 = .ok (.goto (-36), 3) := by decide +kernel
theorem dX5_rootByTops_50 : decode cX5_rootByTops 50 = .ok (.iload_n 2, 1) := by decide +kernel
theorem dX5_rootByTops_51 : decode cX5_rootByTops 51 = .ok (.ireturn, 1) := by decide +kernel
theorem dX5_jointByRopes_0 : decode cX5_jointByRopes 0 = .ok (.iload_n 1, 1) := by decide +kernel
theorem dX5_jointByRopes_1 : decode cX5_jointByRopes 1 = .ok (.istore_n 3, 1) := by decide +kernel
theorem dX5_jointByRopes_2 : decode cX5_jointByRopes 2 = .ok (.iload_n 2, 1) := by decide +kernel
theorem dX5_jointByRopes_3 : decode cX5_jointByRopes 3 = .ok (.istore 4, 2) := by decide +kernel
theorem dX5_jointByRopes_5 : decode cX5_jointByRopes 5 = .ok (.iconst 0, 1) := by decide +kernel
theorem dX5_jointByRopes_6 : decode cX5_jointByRopes 6 = .ok (.istore 5, 2) := by decide +kernel
theorem dX5_jointByRopes_8 : decode cX5_jointByRopes 8 = .ok (.iload 5, 2) := by decide +kernel
theorem dX5_jointByRopes_10 : decode cX5_jointByRopes 10 = .ok (.bipush 16, 2) := by decide +kernel
theorem dX5_jointByRopes_12 : decode cX5_jointByRopes 12 = .ok (.if_icmp .ge 118, 3) := by decide +kernel
theorem dX5_jointByRopes_15 : decode cX5_jointByRopes 15 = .ok (.iload_n 3, 1) := by decide +kernel
theorem dX5_jointByRopes_16 : decode cX5_jointByRopes 16 = .ok (.ifCond .lt 114, 3) := by decide +kernel
theorem dX5_jointByRopes_19 : decode cX5_jointByRopes 19 = .ok (.iload 4, 2) := by decide +kernel
theorem dX5_jointByRopes_21 : decode cX5_jointByRopes 21 = .ok (.ifCond .lt 109, 3) := by decide +kernel
theorem dX5_jointByRopes_24 : decode cX5_jointByRopes 24 = .ok (.aload_n 0, 1) := by decide +kernel
theorem dX5_jointByRopes_25 : decode cX5_jointByRopes 25 = .ok (.getfield 21, 3) := by decide +kernel
theorem dX5_jointByRopes_28 : decode cX5_jointByRopes 28 = .ok (.iload_n 3, 1) := by decide +kernel
theorem dX5_jointByRopes_29 : decode cX5_jointByRopes 29 = .ok (.invokevirtual 137, 3) := by decide +kernel
theorem dX5_jointByRopes_32 : decode cX5_jointByRopes 32 = .ok (.istore 6, 2) := by decide +kernel
theorem dX5_jointByRopes_34 : decode cX5_jointByRopes 34 = .ok (.aload_n 0, 1) := by decide +kernel
theorem dX5_jointByRopes_35 : decode cX5_jointByRopes 35 = .ok (.getfield 21, 3) := by decide +kernel
theorem dX5_jointByRopes_38 : decode cX5_jointByRopes 38 = .ok (.iload 4, 2) := by decide +kernel
theorem dX5_jointByRopes_40 : decode cX5_jointByRopes 40 = .ok (.invokevirtual 137, 3) := by decide +kernel
theorem dX5_jointByRopes_43 : decode cX5_jointByRopes 43 = .ok (.istore 7, 2) := by decide +kernel
theorem dX5_jointByRopes_45 : decode cX5_jointByRopes 45 = .ok (.iload 6, 2) := by decide +kernel
theorem dX5_jointByRopes_47 : decode cX5_jointByRopes 47 = .ok (.iload 7, 2) := by decide +kernel
theorem dX5_jointByRopes_49 : decode cX5_jointByRopes 49 = .ok (.if_icmp .ne 30, 3) := by decide +kernel
theorem dX5_jointByRopes_52 : decode cX5_jointByRopes 52 = .ok (.aload_n 0, 1) := by decide +kernel
theorem dX5_jointByRopes_53 : decode cX5_jointByRopes 53 = .ok (.getfield 21, 3) := by decide +kernel
theorem dX5_jointByRopes_56 : decode cX5_jointByRopes 56 = .ok (.iload_n 3, 1) := by decide +kernel
theorem dX5_jointByRopes_57 : decode cX5_jointByRopes 57 = .ok (.invokevirtual 162, 3) := by decide +kernel
theorem dX5_jointByRopes_60 : decode cX5_jointByRopes 60 = .ok (.aload_n 0, 1) := by decide +kernel
theorem dX5_jointByRopes_61 : decode cX5_jointByRopes 61 = .ok (.getfield 21, 3) := by decide +kernel
theorem dX5_jointByRopes_64 : decode cX5_jointByRopes 64 = .ok (.iload 4, 2) := by decide +kernel
theorem dX5_jointByRopes_66 : decode cX5_jointByRopes 66 = .ok (.invokevirtual 162, 3) := by decide +kernel
theorem dX5_jointByRopes_69 : decode cX5_jointByRopes 69 = .ok (.if_icmp .gt 7, 3) := by decide +kernel
theorem dX5_jointByRopes_72 : decode cX5_jointByRopes 72 = .ok (.iload_n 3, 1) := by decide +kernel
theorem dX5_jointByRopes_73 : decode cX5_jointByRopes 73 = .ok (.goto 5, 3) := by decide +kernel
theorem dX5_jointByRopes_76 : decode cX5_jointByRopes 76 = .ok (.iload 4, 2) := by decide +kernel
theorem dX5_jointByRopes_78 : decode cX5_jointByRopes 78 = .ok (.ireturn, 1) := by decide +kernel
theorem dX5_jointByRopes_79 : decode cX5_jointByRopes 79 = .ok (.aload_n 0, 1) := by decide +kernel
theorem dX5_jointByRopes_80 : decode cX5_jointByRopes 80 = .ok (.getfield 12, 3) := by decide +kernel
theorem dX5_jointByRopes_83 : decode cX5_jointByRopes 83 = .ok (.iload 6, 2) := by decide +kernel
theorem dX5_jointByRopes_85 : decode cX5_jointByRopes 85 = .ok (.invokevirtual 96, 3) := by decide +kernel
theorem dX5_jointByRopes_88 : decode cX5_jointByRopes 88 = .ok (.aload_n 0, 1) := by decide +kernel
theorem dX5_jointByRopes_89 : decode cX5_jointByRopes 89 = .ok (.getfield 12, 3) := by decide +kernel
theorem dX5_jointByRopes_92 : decode cX5_jointByRopes 92 = .ok (.iload 7, 2) := by decide +kernel
theorem dX5_jointByRopes_94 : decode cX5_jointByRopes 94 = .ok (.invokevirtual 96, 3) := by decide +kernel
theorem dX5_jointByRopes_97 : decode cX5_jointByRopes 97 = .ok (.if_icmp .lt 16, 3) := by decide +kernel
theorem dX5_jointByRopes_100 : decode cX5_jointByRopes 100 = .ok (.aload_n 0, 1) := by decide +kernel
theorem dX5_jointByRopes_101 : decode cX5_jointByRopes 101 = .ok (.getfield 12, 3) := by decide +kernel
theorem dX5_jointByRopes_104 : decode cX5_jointByRopes 104 = .ok (.iload 6, 2) := by decide +kernel
theorem dX5_jointByRopes_106 : decode cX5_jointByRopes 106 = .ok (.invokevirtual 78, 3) := by decide +kernel
theorem dX5_jointByRopes_109 : decode cX5_jointByRopes 109 = .ok (.istore_n 3, 1) := by decide +kernel
theorem dX5_jointByRopes_110 : decode cX5_jointByRopes 110 = .ok (.goto 14, 3) := by decide +kernel
theorem dX5_jointByRopes_113 : decode cX5_jointByRopes 113 = .ok (.aload_n 0, 1) := by decide +kernel
theorem dX5_jointByRopes_114 : decode cX5_jointByRopes 114 = .ok (.getfield 12, 3) := by decide +kernel
theorem dX5_jointByRopes_117 : decode cX5_jointByRopes 117 = .ok (.iload 7, 2) := by decide +kernel
theorem dX5_jointByRopes_119 : decode cX5_jointByRopes 119 = .ok (.invokevirtual 78, 3) := by decide +kernel
theorem dX5_jointByRopes_122 : decode cX5_jointByRopes 122 = .ok (.istore 4, 2) := by decide +kernel
theorem dX5_jointByRopes_124 : decode cX5_jointByRopes 124 = .ok (.iinc 5 1, 3) := by decide +kernel
theorem dX5_jointByRopes_127 : decode cX5_jointByRopes 127 = .ok (.goto (-119), 3) := by decide +kernel
theorem dX5_jointByRopes_130 : decode cX5_jointByRopes 130 = .ok (.bipush (-4), 2) := by decide +kernel
theorem dX5_jointByRopes_132 : decode cX5_jointByRopes 132 = .ok (.ireturn, 1) := by decide +kernel
theorem dX5_doWaysAgree_0 : decode cX5_doWaysAgree 0 = .ok (.iconst 0, 1) := by decide +kernel
theorem dX5_doWaysAgree_1 : decode cX5_doWaysAgree 1 = .ok (.istore_n 1, 1) := by decide +kernel
theorem dX5_doWaysAgree_2 : decode cX5_doWaysAgree 2 = .ok (.iload_n 1, 1) := by decide +kernel
theorem dX5_doWaysAgree_3 : decode cX5_doWaysAgree 3 = .ok (.aload_n 0, 1) := by decide +kernel
theorem dX5_doWaysAgree_4 : decode cX5_doWaysAgree 4 = .ok (.getfield 12, 3) := by decide +kernel
theorem dX5_doWaysAgree_7 : decode cX5_doWaysAgree 7 = .ok (.getfield 62, 3) := by decide +kernel
theorem dX5_doWaysAgree_10 : decode cX5_doWaysAgree 10 = .ok (.if_icmp .ge 82, 3) := by decide +kernel
theorem dX5_doWaysAgree_13 : decode cX5_doWaysAgree 13 = .ok (.aload_n 0, 1) := by decide +kernel
theorem dX5_doWaysAgree_14 : decode cX5_doWaysAgree 14 = .ok (.iload_n 1, 1) := by decide +kernel
theorem dX5_doWaysAgree_15 : decode cX5_doWaysAgree 15 = .ok (.invokevirtual 165, 3) := by decide +kernel
theorem dX5_doWaysAgree_18 : decode cX5_doWaysAgree 18 = .ok (.aload_n 0, 1) := by decide +kernel
theorem dX5_doWaysAgree_19 : decode cX5_doWaysAgree 19 = .ok (.getfield 12, 3) := by decide +kernel
theorem dX5_doWaysAgree_22 : decode cX5_doWaysAgree 22 = .ok (.iload_n 1, 1) := by decide +kernel
theorem dX5_doWaysAgree_23 : decode cX5_doWaysAgree 23 = .ok (.invokevirtual 102, 3) := by decide +kernel
theorem dX5_doWaysAgree_26 : decode cX5_doWaysAgree 26 = .ok (.if_icmp .ne 19, 3) := by decide +kernel
theorem dX5_doWaysAgree_29 : decode cX5_doWaysAgree 29 = .ok (.aload_n 0, 1) := by decide +kernel
theorem dX5_doWaysAgree_30 : decode cX5_doWaysAgree 30 = .ok (.iload_n 1, 1) := by decide +kernel
theorem dX5_doWaysAgree_31 : decode cX5_doWaysAgree 31 = .ok (.invokevirtual 168, 3) := by decide +kernel
theorem dX5_doWaysAgree_34 : decode cX5_doWaysAgree 34 = .ok (.aload_n 0, 1) := by decide +kernel
theorem dX5_doWaysAgree_35 : decode cX5_doWaysAgree 35 = .ok (.getfield 12, 3) := by decide +kernel
theorem dX5_doWaysAgree_38 : decode cX5_doWaysAgree 38 = .ok (.iload_n 1, 1) := by decide +kernel
theorem dX5_doWaysAgree_39 : decode cX5_doWaysAgree 39 = .ok (.invokevirtual 81, 3) := by decide +kernel
theorem dX5_doWaysAgree_42 : decode cX5_doWaysAgree 42 = .ok (.if_icmp .eq 5, 3) := by decide +kernel
theorem dX5_doWaysAgree_45 : decode cX5_doWaysAgree 45 = .ok (.iconst 0, 1) := by decide +kernel
theorem dX5_doWaysAgree_46 : decode cX5_doWaysAgree 46 = .ok (.ireturn, 1) := by decide +kernel
theorem dX5_doWaysAgree_47 : decode cX5_doWaysAgree 47 = .ok (.iconst 0, 1) := by decide +kernel
theorem dX5_doWaysAgree_48 : decode cX5_doWaysAgree 48 = .ok (.istore_n 2, 1) := by decide +kernel
theorem dX5_doWaysAgree_49 : decode cX5_doWaysAgree 49 = .ok (.iload_n 2, 1) := by decide +kernel
theorem dX5_doWaysAgree_50 : decode cX5_doWaysAgree 50 = .ok (.aload_n 0, 1) := by decide +kernel
theorem dX5_doWaysAgree_51 : decode cX5_doWaysAgree 51 = .ok (.getfield 12, 3) := by decide +kernel
theorem dX5_doWaysAgree_54 : decode cX5_doWaysAgree 54 = .ok (.getfield 62, 3) := by decide +kernel
theorem dX5_doWaysAgree_57 : decode cX5_doWaysAgree 57 = .ok (.if_icmp .ge 29, 3) := by decide +kernel
theorem dX5_doWaysAgree_60 : decode cX5_doWaysAgree 60 = .ok (.aload_n 0, 1) := by decide +kernel
theorem dX5_doWaysAgree_61 : decode cX5_doWaysAgree 61 = .ok (.iload_n 1, 1) := by decide +kernel
theorem dX5_doWaysAgree_62 : decode cX5_doWaysAgree 62 = .ok (.iload_n 2, 1) := by decide +kernel
theorem dX5_doWaysAgree_63 : decode cX5_doWaysAgree 63 = .ok (.invokevirtual 171, 3) := by decide +kernel
theorem dX5_doWaysAgree_66 : decode cX5_doWaysAgree 66 = .ok (.aload_n 0, 1) := by decide +kernel
theorem dX5_doWaysAgree_67 : decode cX5_doWaysAgree 67 = .ok (.getfield 12, 3) := by decide +kernel
theorem dX5_doWaysAgree_70 : decode cX5_doWaysAgree 70 = .ok (.iload_n 1, 1) := by decide +kernel
theorem dX5_doWaysAgree_71 : decode cX5_doWaysAgree 71 = .ok (.iload_n 2, 1) := by decide +kernel
theorem dX5_doWaysAgree_72 : decode cX5_doWaysAgree 72 = .ok (.invokevirtual 174, 3) := by decide +kernel
theorem dX5_doWaysAgree_75 : decode cX5_doWaysAgree 75 = .ok (.if_icmp .eq 5, 3) := by decide +kernel
theorem dX5_doWaysAgree_78 : decode cX5_doWaysAgree 78 = .ok (.iconst 0, 1) := by decide +kernel
theorem dX5_doWaysAgree_79 : decode cX5_doWaysAgree 79 = .ok (.ireturn, 1) := by decide +kernel
theorem dX5_doWaysAgree_80 : decode cX5_doWaysAgree 80 = .ok (.iinc 2 1, 3) := by decide +kernel
theorem dX5_doWaysAgree_83 : decode cX5_doWaysAgree 83 = .ok (.goto (-34), 3) := by decide +kernel
theorem dX5_doWaysAgree_86 : decode cX5_doWaysAgree 86 = .ok (.iinc 1 1, 3) := by decide +kernel
theorem dX5_doWaysAgree_89 : decode cX5_doWaysAgree 89 = .ok (.goto (-87), 3) := by decide +kernel
theorem dX5_doWaysAgree_92 : decode cX5_doWaysAgree 92 = .ok (.iconst 1, 1) := by decide +kernel
theorem dX5_doWaysAgree_93 : decode cX5_doWaysAgree 93 = .ok (.ireturn, 1) := by decide +kernel
theorem dX5_areRopesWell_0 : decode cX5_areRopesWell 0 = .ok (.iconst 0, 1) := by decide +kernel
theorem dX5_areRopesWell_1 : decode cX5_areRopesWell 1 = .ok (.istore_n 1, 1) := by decide +kernel
theorem dX5_areRopesWell_2 : decode cX5_areRopesWell 2 = .ok (.iload_n 1, 1) := by decide +kernel
theorem dX5_areRopesWell_3 : decode cX5_areRopesWell 3 = .ok (.aload_n 0, 1) := by decide +kernel
theorem dX5_areRopesWell_4 : decode cX5_areRopesWell 4 = .ok (.getfield 12, 3) := by decide +kernel
theorem dX5_areRopesWell_7 : decode cX5_areRopesWell 7 = .ok (.getfield 62, 3) := by decide +kernel
theorem dX5_areRopesWell_10 : decode cX5_areRopesWell 10 = .ok (.if_icmp .ge 47, 3) := by decide +kernel
theorem dX5_areRopesWell_13 : decode cX5_areRopesWell 13 = .ok (.aload_n 0, 1) := by decide +kernel
theorem dX5_areRopesWell_14 : decode cX5_areRopesWell 14 = .ok (.getfield 21, 3) := by decide +kernel
theorem dX5_areRopesWell_17 : decode cX5_areRopesWell 17 = .ok (.iload_n 1, 1) := by decide +kernel
theorem dX5_areRopesWell_18 : decode cX5_areRopesWell 18 = .ok (.invokevirtual 177, 3) := by decide +kernel
theorem dX5_areRopesWell_21 : decode cX5_areRopesWell 21 = .ok (.istore_n 2, 1) := by decide +kernel
theorem dX5_areRopesWell_22 : decode cX5_areRopesWell 22 = .ok (.iload_n 2, 1) := by decide +kernel
theorem dX5_areRopesWell_23 : decode cX5_areRopesWell 23 = .ok (.ifCond .lt 17, 3) := by decide +kernel
theorem dX5_areRopesWell_26 : decode cX5_areRopesWell 26 = .ok (.aload_n 0, 1) := by decide +kernel
theorem dX5_areRopesWell_27 : decode cX5_areRopesWell 27 = .ok (.getfield 12, 3) := by decide +kernel
theorem dX5_areRopesWell_30 : decode cX5_areRopesWell 30 = .ok (.iload_n 1, 1) := by decide +kernel
theorem dX5_areRopesWell_31 : decode cX5_areRopesWell 31 = .ok (.invokevirtual 78, 3) := by decide +kernel
theorem dX5_areRopesWell_34 : decode cX5_areRopesWell 34 = .ok (.iload_n 2, 1) := by decide +kernel
theorem dX5_areRopesWell_35 : decode cX5_areRopesWell 35 = .ok (.if_icmp .eq 5, 3) := by decide +kernel
theorem dX5_areRopesWell_38 : decode cX5_areRopesWell 38 = .ok (.iconst 0, 1) := by decide +kernel
theorem dX5_areRopesWell_39 : decode cX5_areRopesWell 39 = .ok (.ireturn, 1) := by decide +kernel
theorem dX5_areRopesWell_40 : decode cX5_areRopesWell 40 = .ok (.aload_n 0, 1) := by decide +kernel
theorem dX5_areRopesWell_41 : decode cX5_areRopesWell 41 = .ok (.iload_n 1, 1) := by decide +kernel
theorem dX5_areRopesWell_42 : decode cX5_areRopesWell 42 = .ok (.invokevirtual 180, 3) := by decide +kernel
theorem dX5_areRopesWell_45 : decode cX5_areRopesWell 45 = .ok (.iconst 1, 1) := by decide +kernel
theorem dX5_areRopesWell_46 : decode cX5_areRopesWell 46 = .ok (.if_icmp .eq 5, 3) := by decide +kernel
theorem dX5_areRopesWell_49 : decode cX5_areRopesWell 49 = .ok (.iconst 0, 1) := by decide +kernel
theorem dX5_areRopesWell_50 : decode cX5_areRopesWell 50 = .ok (.ireturn, 1) := by decide +kernel
theorem dX5_areRopesWell_51 : decode cX5_areRopesWell 51 = .ok (.iinc 1 1, 3) := by decide +kernel
theorem dX5_areRopesWell_54 : decode cX5_areRopesWell 54 = .ok (.goto (-52), 3) := by decide +kernel
theorem dX5_areRopesWell_57 : decode cX5_areRopesWell 57 = .ok (.iconst 1, 1) := by decide +kernel
theorem dX5_areRopesWell_58 : decode cX5_areRopesWell 58 = .ok (.ireturn, 1) := by decide +kernel
theorem dX5_timesOnRopes_0 : decode cX5_timesOnRopes 0 = .ok (.iconst 0, 1) := by decide +kernel
theorem dX5_timesOnRopes_1 : decode cX5_timesOnRopes 1 = .ok (.istore_n 2, 1) := by decide +kernel
theorem dX5_timesOnRopes_2 : decode cX5_timesOnRopes 2 = .ok (.iconst 0, 1) := by decide +kernel
theorem dX5_timesOnRopes_3 : decode cX5_timesOnRopes 3 = .ok (.istore_n 3, 1) := by decide +kernel
theorem dX5_timesOnRopes_4 : decode cX5_timesOnRopes 4 = .ok (.iload_n 3, 1) := by decide +kernel
theorem dX5_timesOnRopes_5 : decode cX5_timesOnRopes 5 = .ok (.aload_n 0, 1) := by decide +kernel
theorem dX5_timesOnRopes_6 : decode cX5_timesOnRopes 6 = .ok (.getfield 12, 3) := by decide +kernel
theorem dX5_timesOnRopes_9 : decode cX5_timesOnRopes 9 = .ok (.getfield 62, 3) := by decide +kernel
theorem dX5_timesOnRopes_12 : decode cX5_timesOnRopes 12 = .ok (.if_icmp .ge 74, 3) := by decide +kernel
theorem dX5_timesOnRopes_15 : decode cX5_timesOnRopes 15 = .ok (.aload_n 0, 1) := by decide +kernel
theorem dX5_timesOnRopes_16 : decode cX5_timesOnRopes 16 = .ok (.getfield 21, 3) := by decide +kernel
theorem dX5_timesOnRopes_19 : decode cX5_timesOnRopes 19 = .ok (.iload_n 3, 1) := by decide +kernel
theorem dX5_timesOnRopes_20 : decode cX5_timesOnRopes 20 = .ok (.invokevirtual 137, 3) := by decide +kernel
theorem dX5_timesOnRopes_23 : decode cX5_timesOnRopes 23 = .ok (.iload_n 3, 1) := by decide +kernel
theorem dX5_timesOnRopes_24 : decode cX5_timesOnRopes 24 = .ok (.if_icmp .ne 7, 3) := by decide +kernel
theorem dX5_timesOnRopes_27 : decode cX5_timesOnRopes 27 = .ok (.iload_n 3, 1) := by decide +kernel
theorem dX5_timesOnRopes_28 : decode cX5_timesOnRopes 28 = .ok (.goto 4, 3) := by decide +kernel
theorem dX5_timesOnRopes_31 : decode cX5_timesOnRopes 31 = .ok (.iconst (-1), 1) := by decide +kernel
theorem dX5_timesOnRopes_32 : decode cX5_timesOnRopes 32 = .ok (.istore 4, 2) := by decide +kernel
theorem dX5_timesOnRopes_34 : decode cX5_timesOnRopes 34 = .ok (.iconst 0, 1) := by decide +kernel
theorem dX5_timesOnRopes_35 : decode cX5_timesOnRopes 35 = .ok (.istore 5, 2) := by decide +kernel
theorem dX5_timesOnRopes_37 : decode cX5_timesOnRopes 37 = .ok (.iload 5, 2) := by decide +kernel
theorem dX5_timesOnRopes_39 : decode cX5_timesOnRopes 39 = .ok (.bipush 16, 2) := by decide +kernel
theorem dX5_timesOnRopes_41 : decode cX5_timesOnRopes 41 = .ok (.if_icmp .ge 39, 3) := by decide +kernel
theorem dX5_timesOnRopes_44 : decode cX5_timesOnRopes 44 = .ok (.iload 4, 2) := by decide +kernel
theorem dX5_timesOnRopes_46 : decode cX5_timesOnRopes 46 = .ok (.ifCond .lt 34, 3) := by decide +kernel
theorem dX5_timesOnRopes_49 : decode cX5_timesOnRopes 49 = .ok (.iload_n 2, 1) := by decide +kernel
theorem dX5_timesOnRopes_50 : decode cX5_timesOnRopes 50 = .ok (.iload 4, 2) := by decide +kernel
theorem dX5_timesOnRopes_52 : decode cX5_timesOnRopes 52 = .ok (.iload_n 1, 1) := by decide +kernel
theorem dX5_timesOnRopes_53 : decode cX5_timesOnRopes 53 = .ok (.if_icmp .ne 7, 3) := by decide +kernel
theorem dX5_timesOnRopes_56 : decode cX5_timesOnRopes 56 = .ok (.iconst 1, 1) := by decide +kernel
theorem dX5_timesOnRopes_57 : decode cX5_timesOnRopes 57 = .ok (.goto 4, 3) := by decide +kernel
theorem dX5_timesOnRopes_60 : decode cX5_timesOnRopes 60 = .ok (.iconst 0, 1) := by decide +kernel
theorem dX5_timesOnRopes_61 : decode cX5_timesOnRopes 61 = .ok (.iadd, 1) := by decide +kernel
theorem dX5_timesOnRopes_62 : decode cX5_timesOnRopes 62 = .ok (.istore_n 2, 1) := by decide +kernel
theorem dX5_timesOnRopes_63 : decode cX5_timesOnRopes 63 = .ok (.aload_n 0, 1) := by decide +kernel
theorem dX5_timesOnRopes_64 : decode cX5_timesOnRopes 64 = .ok (.getfield 21, 3) := by decide +kernel
theorem dX5_timesOnRopes_67 : decode cX5_timesOnRopes 67 = .ok (.iload 4, 2) := by decide +kernel
theorem dX5_timesOnRopes_69 : decode cX5_timesOnRopes 69 = .ok (.invokevirtual 183, 3) := by decide +kernel
theorem dX5_timesOnRopes_72 : decode cX5_timesOnRopes 72 = .ok (.istore 4, 2) := by decide +kernel
theorem dX5_timesOnRopes_74 : decode cX5_timesOnRopes 74 = .ok (.iinc 5 1, 3) := by decide +kernel
theorem dX5_timesOnRopes_77 : decode cX5_timesOnRopes 77 = .ok (.goto (-40), 3) := by decide +kernel
theorem dX5_timesOnRopes_80 : decode cX5_timesOnRopes 80 = .ok (.iinc 3 1, 3) := by decide +kernel
theorem dX5_timesOnRopes_83 : decode cX5_timesOnRopes 83 = .ok (.goto (-79), 3) := by decide +kernel
theorem dX5_timesOnRopes_86 : decode cX5_timesOnRopes 86 = .ok (.iload_n 2, 1) := by decide +kernel
theorem dX5_timesOnRopes_87 : decode cX5_timesOnRopes 87 = .ok (.ireturn, 1) := by decide +kernel
theorem dX5_isWeight_0 : decode cX5_isWeight 0 = .ok (.iload_n 0, 1) := by decide +kernel
theorem dX5_isWeight_1 : decode cX5_isWeight 1 = .ok (.ifCond .lt 13, 3) := by decide +kernel
theorem dX5_isWeight_4 : decode cX5_isWeight 4 = .ok (.iload_n 0, 1) := by decide +kernel
theorem dX5_isWeight_5 : decode cX5_isWeight 5 = .ok (.bipush 99, 2) := by decide +kernel
theorem dX5_isWeight_7 : decode cX5_isWeight 7 = .ok (.if_icmp .gt 7, 3) := by decide +kernel
theorem dX5_isWeight_10 : decode cX5_isWeight 10 = .ok (.iconst 1, 1) := by decide +kernel
theorem dX5_isWeight_11 : decode cX5_isWeight 11 = .ok (.goto 4, 3) := by decide +kernel
theorem dX5_isWeight_14 : decode cX5_isWeight 14 = .ok (.iconst 0, 1) := by decide +kernel
theorem dX5_isWeight_15 : decode cX5_isWeight 15 = .ok (.ireturn, 1) := by decide +kernel
theorem dX6_init_0 : decode cX6_init 0 = .ok (.aload_n 0, 1) := by decide +kernel
theorem dX6_init_1 : decode cX6_init 1 = .ok (.invokespecial 3, 3) := by decide +kernel
theorem dX6_init_4 : decode cX6_init 4 = .ok (.return_, 1) := by decide +kernel
theorem dX6_refuse_0 : decode cX6_refuse 0 = .ok (.aload_n 0, 1) := by decide +kernel
theorem dX6_refuse_1 : decode cX6_refuse 1 = .ok (.iload_n 1, 1) := by decide +kernel
theorem dX6_refuse_2 : decode cX6_refuse 2 = .ok (.putfield 9, 3) := by decide +kernel
theorem dX6_refuse_5 : decode cX6_refuse 5 = .ok (.aload_n 0, 1) := by decide +kernel
theorem dX6_refuse_6 : decode cX6_refuse 6 = .ok (.iload_n 2, 1) := by decide +kernel
theorem dX6_refuse_7 : decode cX6_refuse 7 = .ok (.putfield 15, 3) := by decide +kernel
theorem dX6_refuse_10 : decode cX6_refuse 10 = .ok (.aload_n 0, 1) := by decide +kernel
theorem dX6_refuse_11 : decode cX6_refuse 11 = .ok (.iconst 0, 1) := by decide +kernel
theorem dX6_refuse_12 : decode cX6_refuse 12 = .ok (.putfield 18, 3) := by decide +kernel
theorem dX6_refuse_15 : decode cX6_refuse 15 = .ok (.aload_n 0, 1) := by decide +kernel
theorem dX6_refuse_16 : decode cX6_refuse 16 = .ok (.iconst 0, 1) := by decide +kernel
theorem dX6_refuse_17 : decode cX6_refuse 17 = .ok (.putfield 21, 3) := by decide +kernel
theorem dX6_refuse_20 : decode cX6_refuse 20 = .ok (.bipush (-3), 2) := by decide +kernel
theorem dX6_refuse_22 : decode cX6_refuse 22 = .ok (.ireturn, 1) := by decide +kernel
theorem dX6_refuseBefore_0 : decode cX6_refuseBefore 0 = .ok (.aload_n 0, 1) := by decide +kernel
theorem dX6_refuseBefore_1 : decode cX6_refuseBefore 1 = .ok (.aload_n 0, 1) := by decide +kernel
theorem dX6_refuseBefore_2 : decode cX6_refuseBefore 2 = .ok (.getfield 9, 3) := by decide +kernel
theorem dX6_refuseBefore_5 : decode cX6_refuseBefore 5 = .ok (.putfield 18, 3) := by decide +kernel
theorem dX6_refuseBefore_8 : decode cX6_refuseBefore 8 = .ok (.aload_n 0, 1) := by decide +kernel
theorem dX6_refuseBefore_9 : decode cX6_refuseBefore 9 = .ok (.aload_n 0, 1) := by decide +kernel
theorem dX6_refuseBefore_10 : decode cX6_refuseBefore 10 = .ok (.getfield 15, 3) := by decide +kernel
theorem dX6_refuseBefore_13 : decode cX6_refuseBefore 13 = .ok (.putfield 21, 3) := by decide +kernel
theorem dX6_refuseBefore_16 : decode cX6_refuseBefore 16 = .ok (.aload_n 0, 1) := by decide +kernel
theorem dX6_refuseBefore_17 : decode cX6_refuseBefore 17 = .ok (.iload_n 1, 1) := by decide +kernel
theorem dX6_refuseBefore_18 : decode cX6_refuseBefore 18 = .ok (.putfield 9, 3) := by decide +kernel
theorem dX6_refuseBefore_21 : decode cX6_refuseBefore 21 = .ok (.aload_n 0, 1) := by decide +kernel
theorem dX6_refuseBefore_22 : decode cX6_refuseBefore 22 = .ok (.iload_n 2, 1) := by decide +kernel
theorem dX6_refuseBefore_23 : decode cX6_refuseBefore 23 = .ok (.putfield 15, 3) := by decide +kernel
theorem dX6_refuseBefore_26 : decode cX6_refuseBefore 26 = .ok (.bipush (-3), 2) := by decide +kernel
theorem dX6_refuseBefore_28 : decode cX6_refuseBefore 28 = .ok (.ireturn, 1) := by decide +kernel
theorem dX6_tell_0 : decode cX6_tell 0 = .ok (.iload_n 1, 1) := by decide +kernel
theorem dX6_tell_1 : decode cX6_tell 1 = .ok (.ifCond .lt 8, 3) := by decide +kernel
theorem dX6_tell_4 : decode cX6_tell 4 = .ok (.iload_n 1, 1) := by decide +kernel
theorem dX6_tell_5 : decode cX6_tell 5 = .ok (.iconst 1, 1) := by decide +kernel
theorem dX6_tell_6 : decode cX6_tell 6 = .ok (.if_icmp .le 6, 3) := by decide +kernel
theorem dX6_tell_9 : decode cX6_tell 9 = .ok (.bipush (-2), 2) := by decide +kernel
theorem dX6_tell_11 : decode cX6_tell 11 = .ok (.ireturn, 1) := by decide +kernel
theorem dX6_tell_12 : decode cX6_tell 12 = .ok (.iload_n 1, 1) := by decide +kernel
theorem dX6_tell_13 : decode cX6_tell 13 = .ok (.ifCond .ne 10, 3) := by decide +kernel
theorem dX6_tell_16 : decode cX6_tell 16 = .ok (.aload_n 0, 1) := by decide +kernel
theorem dX6_tell_17 : decode cX6_tell 17 = .ok (.getfield 9, 3) := by decide +kernel
theorem dX6_tell_20 : decode cX6_tell 20 = .ok (.goto 7, 3) := by decide +kernel
theorem dX6_tell_23 : decode cX6_tell 23 = .ok (.aload_n 0, 1) := by decide +kernel
theorem dX6_tell_24 : decode cX6_tell 24 = .ok (.getfield 18, 3) := by decide +kernel
theorem dX6_tell_27 : decode cX6_tell 27 = .ok (.istore_n 3, 1) := by decide +kernel
theorem dX6_tell_28 : decode cX6_tell 28 = .ok (.iload_n 3, 1) := by decide +kernel
theorem dX6_tell_29 : decode cX6_tell 29 = .ok (.ifCond .ne 6, 3) := by decide +kernel
theorem dX6_tell_32 : decode cX6_tell 32 = .ok (.bipush (-4), 2) := by decide +kernel
theorem dX6_tell_34 : decode cX6_tell 34 = .ok (.ireturn, 1) := by decide +kernel
theorem dX6_tell_35 : decode cX6_tell 35 = .ok (.iload_n 1, 1) := by decide +kernel
theorem dX6_tell_36 : decode cX6_tell 36 = .ok (.ifCond .ne 10, 3) := by decide +kernel
theorem dX6_tell_39 : decode cX6_tell 39 = .ok (.aload_n 0, 1) := by decide +kernel
theorem dX6_tell_40 : decode cX6_tell 40 = .ok (.getfield 15, 3) := by decide +kernel
theorem dX6_tell_43 : decode cX6_tell 43 = .ok (.goto 7, 3) := by decide +kernel
theorem dX6_tell_46 : decode cX6_tell 46 = .ok (.aload_n 0, 1) := by decide +kernel
theorem dX6_tell_47 : decode cX6_tell 47 = .ok (.getfield 21, 3) := by decide +kernel
theorem dX6_tell_50 : decode cX6_tell 50 = .ok (.istore 4, 2) := by decide +kernel
theorem dX6_tell_52 : decode cX6_tell 52 = .ok (.iload_n 2, 1) := by decide +kernel
theorem dX6_tell_53 : decode cX6_tell 53 = .ok (.ifCond .eq 8, 3) := by decide +kernel
theorem dX6_tell_56 : decode cX6_tell 56 = .ok (.iload 4, 2) := by decide +kernel
theorem dX6_tell_58 : decode cX6_tell 58 = .ok (.goto 4, 3) := by decide +kernel
theorem dX6_tell_61 : decode cX6_tell 61 = .ok (.iload_n 3, 1) := by decide +kernel
theorem dX6_tell_62 : decode cX6_tell 62 = .ok (.ireturn, 1) := by decide +kernel
theorem dX7_init_0 : decode cX7_init 0 = .ok (.aload_n 0, 1) := by decide +kernel
theorem dX7_init_1 : decode cX7_init 1 = .ok (.invokespecial 3, 3) := by decide +kernel
theorem dX7_init_4 : decode cX7_init 4 = .ok (.aload_n 0, 1) := by decide +kernel
theorem dX7_init_5 : decode cX7_init 5 = .ok (.iconst 3, 1) := by decide +kernel
theorem dX7_init_6 : decode cX7_init 6 = .ok (.newarray .int, 2) := by decide +kernel
theorem dX7_init_8 : decode cX7_init 8 = .ok (.putfield 9, 3) := by decide +kernel
theorem dX7_init_11 : decode cX7_init 11 = .ok (.aload_n 0, 1) := by decide +kernel
theorem dX7_init_12 : decode cX7_init 12 = .ok (.iconst 3, 1) := by decide +kernel
theorem dX7_init_13 : decode cX7_init 13 = .ok (.newarray .int, 2) := by decide +kernel
theorem dX7_init_15 : decode cX7_init 15 = .ok (.putfield 15, 3) := by decide +kernel
theorem dX7_init_18 : decode cX7_init 18 = .ok (.aload_n 0, 1) := by decide +kernel
theorem dX7_init_19 : decode cX7_init 19 = .ok (.iconst 3, 1) := by decide +kernel
theorem dX7_init_20 : decode cX7_init 20 = .ok (.newarray .int, 2) := by decide +kernel
theorem dX7_init_22 : decode cX7_init 22 = .ok (.putfield 18, 3) := by decide +kernel
theorem dX7_init_25 : decode cX7_init 25 = .ok (.aload_n 0, 1) := by decide +kernel
theorem dX7_init_26 : decode cX7_init 26 = .ok (.iconst 3, 1) := by decide +kernel
theorem dX7_init_27 : decode cX7_init 27 = .ok (.newarray .int, 2) := by decide +kernel
theorem dX7_init_29 : decode cX7_init 29 = .ok (.putfield 21, 3) := by decide +kernel
theorem dX7_init_32 : decode cX7_init 32 = .ok (.return_, 1) := by decide +kernel
theorem dX7_makeEmpty_0 : decode cX7_makeEmpty 0 = .ok (.aload_n 0, 1) := by decide +kernel
theorem dX7_makeEmpty_1 : decode cX7_makeEmpty 1 = .ok (.iconst 0, 1) := by decide +kernel
theorem dX7_makeEmpty_2 : decode cX7_makeEmpty 2 = .ok (.putfield 24, 3) := by decide +kernel
theorem dX7_makeEmpty_5 : decode cX7_makeEmpty 5 = .ok (.aload_n 0, 1) := by decide +kernel
theorem dX7_makeEmpty_6 : decode cX7_makeEmpty 6 = .ok (.getfield 9, 3) := by decide +kernel
theorem dX7_makeEmpty_9 : decode cX7_makeEmpty 9 = .ok (.iconst (-1), 1) := by decide +kernel
theorem dX7_makeEmpty_10 : decode cX7_makeEmpty 10 = .ok (.invokestatic 28, 3) := by decide +kernel
theorem dX7_makeEmpty_13 : decode cX7_makeEmpty 13 = .ok (.aload_n 0, 1) := by decide +kernel
theorem dX7_makeEmpty_14 : decode cX7_makeEmpty 14 = .ok (.getfield 15, 3) := by decide +kernel
theorem dX7_makeEmpty_17 : decode cX7_makeEmpty 17 = .ok (.iconst 0, 1) := by decide +kernel
theorem dX7_makeEmpty_18 : decode cX7_makeEmpty 18 = .ok (.invokestatic 28, 3) := by decide +kernel
theorem dX7_makeEmpty_21 : decode cX7_makeEmpty 21 = .ok (.aload_n 0, 1) := by decide +kernel
theorem dX7_makeEmpty_22 : decode cX7_makeEmpty 22 = .ok (.getfield 18, 3) := by decide +kernel
theorem dX7_makeEmpty_25 : decode cX7_makeEmpty 25 = .ok (.iconst 0, 1) := by decide +kernel
theorem dX7_makeEmpty_26 : decode cX7_makeEmpty 26 = .ok (.invokestatic 28, 3) := by decide +kernel
theorem dX7_makeEmpty_29 : decode cX7_makeEmpty 29 = .ok (.aload_n 0, 1) := by decide +kernel
theorem dX7_makeEmpty_30 : decode cX7_makeEmpty 30 = .ok (.getfield 21, 3) := by decide +kernel
theorem dX7_makeEmpty_33 : decode cX7_makeEmpty 33 = .ok (.iconst 0, 1) := by decide +kernel
theorem dX7_makeEmpty_34 : decode cX7_makeEmpty 34 = .ok (.invokestatic 28, 3) := by decide +kernel
theorem dX7_makeEmpty_37 : decode cX7_makeEmpty 37 = .ok (.return_, 1) := by decide +kernel
theorem dX7_takeOver_0 : decode cX7_takeOver 0 = .ok (.aload_n 1, 1) := by decide +kernel
theorem dX7_takeOver_1 : decode cX7_takeOver 1 = .ok (.getfield 9, 3) := by decide +kernel
theorem dX7_takeOver_4 : decode cX7_takeOver 4 = .ok (.aload_n 0, 1) := by decide +kernel
theorem dX7_takeOver_5 : decode cX7_takeOver 5 = .ok (.getfield 9, 3) := by decide +kernel
theorem dX7_takeOver_8 : decode cX7_takeOver 8 = .ok (.invokestatic 32, 3) := by decide +kernel
theorem dX7_takeOver_11 : decode cX7_takeOver 11 = .ok (.aload_n 1, 1) := by decide +kernel
theorem dX7_takeOver_12 : decode cX7_takeOver 12 = .ok (.getfield 15, 3) := by decide +kernel
theorem dX7_takeOver_15 : decode cX7_takeOver 15 = .ok (.aload_n 0, 1) := by decide +kernel
theorem dX7_takeOver_16 : decode cX7_takeOver 16 = .ok (.getfield 15, 3) := by decide +kernel
theorem dX7_takeOver_19 : decode cX7_takeOver 19 = .ok (.invokestatic 32, 3) := by decide +kernel
theorem dX7_takeOver_22 : decode cX7_takeOver 22 = .ok (.aload_n 1, 1) := by decide +kernel
theorem dX7_takeOver_23 : decode cX7_takeOver 23 = .ok (.getfield 18, 3) := by decide +kernel
theorem dX7_takeOver_26 : decode cX7_takeOver 26 = .ok (.aload_n 0, 1) := by decide +kernel
theorem dX7_takeOver_27 : decode cX7_takeOver 27 = .ok (.getfield 18, 3) := by decide +kernel
theorem dX7_takeOver_30 : decode cX7_takeOver 30 = .ok (.invokestatic 32, 3) := by decide +kernel
theorem dX7_takeOver_33 : decode cX7_takeOver 33 = .ok (.aload_n 1, 1) := by decide +kernel
theorem dX7_takeOver_34 : decode cX7_takeOver 34 = .ok (.getfield 21, 3) := by decide +kernel
theorem dX7_takeOver_37 : decode cX7_takeOver 37 = .ok (.aload_n 0, 1) := by decide +kernel
theorem dX7_takeOver_38 : decode cX7_takeOver 38 = .ok (.getfield 21, 3) := by decide +kernel
theorem dX7_takeOver_41 : decode cX7_takeOver 41 = .ok (.invokestatic 32, 3) := by decide +kernel
theorem dX7_takeOver_44 : decode cX7_takeOver 44 = .ok (.aload_n 0, 1) := by decide +kernel
theorem dX7_takeOver_45 : decode cX7_takeOver 45 = .ok (.aload_n 1, 1) := by decide +kernel
theorem dX7_takeOver_46 : decode cX7_takeOver 46 = .ok (.getfield 24, 3) := by decide +kernel
theorem dX7_takeOver_49 : decode cX7_takeOver 49 = .ok (.putfield 24, 3) := by decide +kernel
theorem dX7_takeOver_52 : decode cX7_takeOver 52 = .ok (.return_, 1) := by decide +kernel
theorem dX7_add_0 : decode cX7_add 0 = .ok (.aload_n 0, 1) := by decide +kernel
theorem dX7_add_1 : decode cX7_add 1 = .ok (.getfield 24, 3) := by decide +kernel
theorem dX7_add_4 : decode cX7_add 4 = .ok (.istore_n 3, 1) := by decide +kernel
theorem dX7_add_5 : decode cX7_add 5 = .ok (.aload_n 0, 1) := by decide +kernel
theorem dX7_add_6 : decode cX7_add 6 = .ok (.getfield 9, 3) := by decide +kernel
theorem dX7_add_9 : decode cX7_add 9 = .ok (.iload_n 3, 1) := by decide +kernel
theorem dX7_add_10 : decode cX7_add 10 = .ok (.iload_n 1, 1) := by decide +kernel
theorem dX7_add_11 : decode cX7_add 11 = .ok (.invokestatic 36, 3) := by decide +kernel
theorem dX7_add_14 : decode cX7_add 14 = .ok (.aload_n 0, 1) := by decide +kernel
theorem dX7_add_15 : decode cX7_add 15 = .ok (.getfield 15, 3) := by decide +kernel
theorem dX7_add_18 : decode cX7_add 18 = .ok (.iload_n 3, 1) := by decide +kernel
theorem dX7_add_19 : decode cX7_add 19 = .ok (.iload_n 2, 1) := by decide +kernel
theorem dX7_add_20 : decode cX7_add 20 = .ok (.invokestatic 36, 3) := by decide +kernel
theorem dX7_add_23 : decode cX7_add 23 = .ok (.aload_n 0, 1) := by decide +kernel
theorem dX7_add_24 : decode cX7_add 24 = .ok (.getfield 18, 3) := by decide +kernel
theorem dX7_add_27 : decode cX7_add 27 = .ok (.iload_n 3, 1) := by decide +kernel
theorem dX7_add_28 : decode cX7_add 28 = .ok (.iconst 0, 1) := by decide +kernel
theorem dX7_add_29 : decode cX7_add 29 = .ok (.invokestatic 36, 3) := by decide +kernel
theorem dX7_add_32 : decode cX7_add 32 = .ok (.aload_n 0, 1) := by decide +kernel
theorem dX7_add_33 : decode cX7_add 33 = .ok (.getfield 21, 3) := by decide +kernel
theorem dX7_add_36 : decode cX7_add 36 = .ok (.iload_n 3, 1) := by decide +kernel
theorem dX7_add_37 : decode cX7_add 37 = .ok (.iconst 0, 1) := by decide +kernel
theorem dX7_add_38 : decode cX7_add 38 = .ok (.invokestatic 36, 3) := by decide +kernel
theorem dX7_add_41 : decode cX7_add 41 = .ok (.aload_n 0, 1) := by decide +kernel
theorem dX7_add_42 : decode cX7_add 42 = .ok (.dup, 1) := by decide +kernel
theorem dX7_add_43 : decode cX7_add 43 = .ok (.getfield 24, 3) := by decide +kernel
theorem dX7_add_46 : decode cX7_add 46 = .ok (.iconst 1, 1) := by decide +kernel
theorem dX7_add_47 : decode cX7_add 47 = .ok (.iadd, 1) := by decide +kernel
theorem dX7_add_48 : decode cX7_add 48 = .ok (.putfield 24, 3) := by decide +kernel
theorem dX7_add_51 : decode cX7_add 51 = .ok (.iload_n 3, 1) := by decide +kernel
theorem dX7_add_52 : decode cX7_add 52 = .ok (.ireturn, 1) := by decide +kernel
theorem dX7_isUnderway_0 : decode cX7_isUnderway 0 = .ok (.iload_n 1, 1) := by decide +kernel
theorem dX7_isUnderway_1 : decode cX7_isUnderway 1 = .ok (.ifCond .lt 26, 3) := by decide +kernel
theorem dX7_isUnderway_4 : decode cX7_isUnderway 4 = .ok (.iload_n 1, 1) := by decide +kernel
theorem dX7_isUnderway_5 : decode cX7_isUnderway 5 = .ok (.aload_n 0, 1) := by decide +kernel
theorem dX7_isUnderway_6 : decode cX7_isUnderway 6 = .ok (.getfield 24, 3) := by decide +kernel
theorem dX7_isUnderway_9 : decode cX7_isUnderway 9 = .ok (.if_icmp .ge 18, 3) := by decide +kernel
theorem dX7_isUnderway_12 : decode cX7_isUnderway 12 = .ok (.aload_n 0, 1) := by decide +kernel
theorem dX7_isUnderway_13 : decode cX7_isUnderway 13 = .ok (.getfield 21, 3) := by decide +kernel
theorem dX7_isUnderway_16 : decode cX7_isUnderway 16 = .ok (.iload_n 1, 1) := by decide +kernel
theorem dX7_isUnderway_17 : decode cX7_isUnderway 17 = .ok (.invokestatic 40, 3) := by decide +kernel
theorem dX7_isUnderway_20 : decode cX7_isUnderway 20 = .ok (.ifCond .ne 7, 3) := by decide +kernel
theorem dX7_isUnderway_23 : decode cX7_isUnderway 23 = .ok (.iconst 1, 1) := by decide +kernel
theorem dX7_isUnderway_24 : decode cX7_isUnderway 24 = .ok (.goto 4, 3) := by decide +kernel
theorem dX7_isUnderway_27 : decode cX7_isUnderway 27 = .ok (.iconst 0, 1) := by decide +kernel
theorem dX7_isUnderway_28 : decode cX7_isUnderway 28 = .ok (.ireturn, 1) := by decide +kernel
theorem dX7_placeAt_0 : decode cX7_placeAt 0 = .ok (.aload_n 0, 1) := by decide +kernel
theorem dX7_placeAt_1 : decode cX7_placeAt 1 = .ok (.getfield 9, 3) := by decide +kernel
theorem dX7_placeAt_4 : decode cX7_placeAt 4 = .ok (.iload_n 1, 1) := by decide +kernel
theorem dX7_placeAt_5 : decode cX7_placeAt 5 = .ok (.invokestatic 40, 3) := by decide +kernel
theorem dX7_placeAt_8 : decode cX7_placeAt 8 = .ok (.ireturn, 1) := by decide +kernel
theorem dX7_drag_0 : decode cX7_drag 0 = .ok (.aload_n 0, 1) := by decide +kernel
theorem dX7_drag_1 : decode cX7_drag 1 = .ok (.getfield 18, 3) := by decide +kernel
theorem dX7_drag_4 : decode cX7_drag 4 = .ok (.iload_n 1, 1) := by decide +kernel
theorem dX7_drag_5 : decode cX7_drag 5 = .ok (.aload_n 0, 1) := by decide +kernel
theorem dX7_drag_6 : decode cX7_drag 6 = .ok (.getfield 18, 3) := by decide +kernel
theorem dX7_drag_9 : decode cX7_drag 9 = .ok (.iload_n 1, 1) := by decide +kernel
theorem dX7_drag_10 : decode cX7_drag 10 = .ok (.invokestatic 40, 3) := by decide +kernel
theorem dX7_drag_13 : decode cX7_drag 13 = .ok (.iconst 1, 1) := by decide +kernel
theorem dX7_drag_14 : decode cX7_drag 14 = .ok (.iadd, 1) := by decide +kernel
theorem dX7_drag_15 : decode cX7_drag 15 = .ok (.invokestatic 36, 3) := by decide +kernel
theorem dX7_drag_18 : decode cX7_drag 18 = .ok (.iload_n 2, 1) := by decide +kernel
theorem dX7_drag_19 : decode cX7_drag 19 = .ok (.ifCond .lt 15, 3) := by decide +kernel
theorem dX7_drag_22 : decode cX7_drag 22 = .ok (.aload_n 0, 1) := by decide +kernel
theorem dX7_drag_23 : decode cX7_drag 23 = .ok (.getfield 9, 3) := by decide +kernel
theorem dX7_drag_26 : decode cX7_drag 26 = .ok (.iload_n 1, 1) := by decide +kernel
theorem dX7_drag_27 : decode cX7_drag 27 = .ok (.iload_n 2, 1) := by decide +kernel
theorem dX7_drag_28 : decode cX7_drag 28 = .ok (.invokestatic 36, 3) := by decide +kernel
theorem dX7_drag_31 : decode cX7_drag 31 = .ok (.goto 12, 3) := by decide +kernel
theorem dX7_drag_34 : decode cX7_drag 34 = .ok (.aload_n 0, 1) := by decide +kernel
theorem dX7_drag_35 : decode cX7_drag 35 = .ok (.getfield 21, 3) := by decide +kernel
theorem dX7_drag_38 : decode cX7_drag 38 = .ok (.iload_n 1, 1) := by decide +kernel
theorem dX7_drag_39 : decode cX7_drag 39 = .ok (.iconst 1, 1) := by decide +kernel
theorem dX7_drag_40 : decode cX7_drag 40 = .ok (.invokestatic 36, 3) := by decide +kernel
theorem dX7_drag_43 : decode cX7_drag 43 = .ok (.return_, 1) := by decide +kernel
theorem dX7_countUnderway_0 : decode cX7_countUnderway 0 = .ok (.aload_n 0, 1) := by decide +kernel
theorem dX7_countUnderway_1 : decode cX7_countUnderway 1 = .ok (.getfield 24, 3) := by decide +kernel
theorem dX7_countUnderway_4 : decode cX7_countUnderway 4 = .ok (.aload_n 0, 1) := by decide +kernel
theorem dX7_countUnderway_5 : decode cX7_countUnderway 5 = .ok (.invokevirtual 44, 3) := by decide +kernel
theorem dX7_countUnderway_8 : decode cX7_countUnderway 8 = .ok (.isub, 1) := by decide +kernel
theorem dX7_countUnderway_9 : decode cX7_countUnderway 9 = .ok (.ireturn, 1) := by decide +kernel
theorem dX7_countArrived_0 : decode cX7_countArrived 0 = .ok (.iconst 0, 1) := by decide +kernel
theorem dX7_countArrived_1 : decode cX7_countArrived 1 = .ok (.istore_n 1, 1) := by decide +kernel
theorem dX7_countArrived_2 : decode cX7_countArrived 2 = .ok (.iconst 0, 1) := by decide +kernel
theorem dX7_countArrived_3 : decode cX7_countArrived 3 = .ok (.istore_n 2, 1) := by decide +kernel
theorem dX7_countArrived_4 : decode cX7_countArrived 4 = .ok (.iload_n 2, 1) := by decide +kernel
theorem dX7_countArrived_5 : decode cX7_countArrived 5 = .ok (.aload_n 0, 1) := by decide +kernel
theorem dX7_countArrived_6 : decode cX7_countArrived 6 = .ok (.getfield 24, 3) := by decide +kernel
theorem dX7_countArrived_9 : decode cX7_countArrived 9 = .ok (.if_icmp .ge 20, 3) := by decide +kernel
theorem dX7_countArrived_12 : decode cX7_countArrived 12 = .ok (.iload_n 1, 1) := by decide +kernel
theorem dX7_countArrived_13 : decode cX7_countArrived 13 = .ok (.aload_n 0, 1) := by decide +kernel
theorem dX7_countArrived_14 : decode cX7_countArrived 14 = .ok (.getfield 21, 3) := by decide +kernel
theorem dX7_countArrived_17 : decode cX7_countArrived 17 = .ok (.iload_n 2, 1) := by decide +kernel
theorem dX7_countArrived_18 : decode cX7_countArrived 18 = .ok (.invokestatic 40, 3) := by decide +kernel
theorem dX7_countArrived_21 : decode cX7_countArrived 21 = .ok (.iadd, 1) := by decide +kernel
theorem dX7_countArrived_22 : decode cX7_countArrived 22 = .ok (.istore_n 1, 1) := by decide +kernel
theorem dX7_countArrived_23 : decode cX7_countArrived 23 = .ok (.iinc 2 1, 3) := by decide +kernel
theorem dX7_countArrived_26 : decode cX7_countArrived 26 = .ok (.goto (-22), 3) := by decide +kernel
theorem dX7_countArrived_29 : decode cX7_countArrived 29 = .ok (.iload_n 1, 1) := by decide +kernel
theorem dX7_countArrived_30 : decode cX7_countArrived 30 = .ok (.ireturn, 1) := by decide +kernel
theorem dX7_arrivedLoads_0 : decode cX7_arrivedLoads 0 = .ok (.iconst 0, 1) := by decide +kernel
theorem dX7_arrivedLoads_1 : decode cX7_arrivedLoads 1 = .ok (.istore_n 1, 1) := by decide +kernel
theorem dX7_arrivedLoads_2 : decode cX7_arrivedLoads 2 = .ok (.iconst 0, 1) := by decide +kernel
theorem dX7_arrivedLoads_3 : decode cX7_arrivedLoads 3 = .ok (.istore_n 2, 1) := by decide +kernel
theorem dX7_arrivedLoads_4 : decode cX7_arrivedLoads 4 = .ok (.iload_n 2, 1) := by decide +kernel
theorem dX7_arrivedLoads_5 : decode cX7_arrivedLoads 5 = .ok (.aload_n 0, 1) := by decide +kernel
theorem dX7_arrivedLoads_6 : decode cX7_arrivedLoads 6 = .ok (.getfield 24, 3) := by decide +kernel
theorem dX7_arrivedLoads_9 : decode cX7_arrivedLoads 9 = .ok (.if_icmp .ge 36, 3) := by decide +kernel
theorem dX7_arrivedLoads_12 : decode cX7_arrivedLoads 12 = .ok (.iload_n 1, 1) := by decide +kernel
theorem dX7_arrivedLoads_13 : decode cX7_arrivedLoads 13 = .ok (.aload_n 0, 1) := by decide +kernel
theorem dX7_arrivedLoads_14 : decode cX7_arrivedLoads 14 = .ok (.getfield 21, 3) := by decide +kernel
theorem dX7_arrivedLoads_17 : decode cX7_arrivedLoads 17 = .ok (.iload_n 2, 1) := by decide +kernel
theorem dX7_arrivedLoads_18 : decode cX7_arrivedLoads 18 = .ok (.invokestatic 40, 3) := by decide +kernel
theorem dX7_arrivedLoads_21 : decode cX7_arrivedLoads 21 = .ok (.iconst 1, 1) := by decide +kernel
theorem dX7_arrivedLoads_22 : decode cX7_arrivedLoads 22 = .ok (.if_icmp .ne 14, 3) := by decide +kernel
theorem dX7_arrivedLoads_25 : decode cX7_arrivedLoads 25 = .ok (.aload_n 0, 1) := by decide +kernel
theorem dX7_arrivedLoads_26 : decode cX7_arrivedLoads 26 = .ok (.getfield 15, 3) := by decide +kernel
theorem dX7_arrivedLoads_29 : decode cX7_arrivedLoads 29 = .ok (.iload_n 2, 1) := by decide +kernel
theorem dX7_arrivedLoads_30 : decode cX7_arrivedLoads 30 = .ok (.invokestatic 40, 3) := by decide +kernel
theorem dX7_arrivedLoads_33 : decode cX7_arrivedLoads 33 = .ok (.goto 4, 3) := by decide +kernel
theorem dX7_arrivedLoads_36 : decode cX7_arrivedLoads 36 = .ok (.iconst 0, 1) := by decide +kernel
theorem dX7_arrivedLoads_37 : decode cX7_arrivedLoads 37 = .ok (.iadd, 1) := by decide +kernel
theorem dX7_arrivedLoads_38 : decode cX7_arrivedLoads 38 = .ok (.istore_n 1, 1) := by decide +kernel
theorem dX7_arrivedLoads_39 : decode cX7_arrivedLoads 39 = .ok (.iinc 2 1, 3) := by decide +kernel
theorem dX7_arrivedLoads_42 : decode cX7_arrivedLoads 42 = .ok (.goto (-38), 3) := by decide +kernel
theorem dX7_arrivedLoads_45 : decode cX7_arrivedLoads 45 = .ok (.iload_n 1, 1) := by decide +kernel
theorem dX7_arrivedLoads_46 : decode cX7_arrivedLoads 46 = .ok (.ireturn, 1) := by decide +kernel
theorem dX7_countAt_0 : decode cX7_countAt 0 = .ok (.iconst 0, 1) := by decide +kernel
theorem dX7_countAt_1 : decode cX7_countAt 1 = .ok (.istore_n 2, 1) := by decide +kernel
theorem dX7_countAt_2 : decode cX7_countAt 2 = .ok (.iconst 0, 1) := by decide +kernel
theorem dX7_countAt_3 : decode cX7_countAt 3 = .ok (.istore_n 3, 1) := by decide +kernel
theorem dX7_countAt_4 : decode cX7_countAt 4 = .ok (.iload_n 3, 1) := by decide +kernel
theorem dX7_countAt_5 : decode cX7_countAt 5 = .ok (.aload_n 0, 1) := by decide +kernel
theorem dX7_countAt_6 : decode cX7_countAt 6 = .ok (.getfield 24, 3) := by decide +kernel
theorem dX7_countAt_9 : decode cX7_countAt 9 = .ok (.if_icmp .ge 34, 3) := by decide +kernel
theorem dX7_countAt_12 : decode cX7_countAt 12 = .ok (.iload_n 2, 1) := by decide +kernel
theorem dX7_countAt_13 : decode cX7_countAt 13 = .ok (.aload_n 0, 1) := by decide +kernel
theorem dX7_countAt_14 : decode cX7_countAt 14 = .ok (.iload_n 3, 1) := by decide +kernel
theorem dX7_countAt_15 : decode cX7_countAt 15 = .ok (.invokevirtual 48, 3) := by decide +kernel
theorem dX7_countAt_18 : decode cX7_countAt 18 = .ok (.ifCond .eq 16, 3) := by decide +kernel
theorem dX7_countAt_21 : decode cX7_countAt 21 = .ok (.aload_n 0, 1) := by decide +kernel
theorem dX7_countAt_22 : decode cX7_countAt 22 = .ok (.iload_n 3, 1) := by decide +kernel
theorem dX7_countAt_23 : decode cX7_countAt 23 = .ok (.invokevirtual 52, 3) := by decide +kernel
theorem dX7_countAt_26 : decode cX7_countAt 26 = .ok (.iload_n 1, 1) := by decide +kernel
theorem dX7_countAt_27 : decode cX7_countAt 27 = .ok (.if_icmp .ne 7, 3) := by decide +kernel
theorem dX7_countAt_30 : decode cX7_countAt 30 = .ok (.iconst 1, 1) := by decide +kernel
theorem dX7_countAt_31 : decode cX7_countAt 31 = .ok (.goto 4, 3) := by decide +kernel
theorem dX7_countAt_34 : decode cX7_countAt 34 = .ok (.iconst 0, 1) := by decide +kernel
theorem dX7_countAt_35 : decode cX7_countAt 35 = .ok (.iadd, 1) := by decide +kernel
theorem dX7_countAt_36 : decode cX7_countAt 36 = .ok (.istore_n 2, 1) := by decide +kernel
theorem dX7_countAt_37 : decode cX7_countAt 37 = .ok (.iinc 3 1, 3) := by decide +kernel
theorem dX7_countAt_40 : decode cX7_countAt 40 = .ok (.goto (-36), 3) := by decide +kernel
theorem dX7_countAt_43 : decode cX7_countAt 43 = .ok (.iload_n 2, 1) := by decide +kernel
theorem dX7_countAt_44 : decode cX7_countAt 44 = .ok (.ireturn, 1) := by decide +kernel
theorem dX7_tell_0 : decode cX7_tell 0 = .ok (.iload_n 1, 1) := by decide +kernel
theorem dX7_tell_1 : decode cX7_tell 1 = .ok (.ifCond .lt 11, 3) := by decide +kernel
theorem dX7_tell_4 : decode cX7_tell 4 = .ok (.iload_n 1, 1) := by decide +kernel
theorem dX7_tell_5 : decode cX7_tell 5 = .ok (.aload_n 0, 1) := by decide +kernel
theorem dX7_tell_6 : decode cX7_tell 6 = .ok (.getfield 24, 3) := by decide +kernel
theorem dX7_tell_9 : decode cX7_tell 9 = .ok (.if_icmp .lt 5, 3) := by decide +kernel
theorem dX7_tell_12 : decode cX7_tell 12 = .ok (.iconst (-1), 1) := by decide +kernel
theorem dX7_tell_13 : decode cX7_tell 13 = .ok (.ireturn, 1) := by decide +kernel
theorem dX7_tell_14 : decode cX7_tell 14 = .ok (.iload_n 2, 1) := by decide +kernel
theorem dX7_tell_15 : decode cX7_tell 15 = .ok (.tableswitch 73 0 3 #[29, 40, 51, 62], 29) := by decide +kernel
theorem dX7_tell_44 : decode cX7_tell 44 = .ok (.aload_n 0, 1) := by decide +kernel
theorem dX7_tell_45 : decode cX7_tell 45 = .ok (.getfield 9, 3) := by decide +kernel
theorem dX7_tell_48 : decode cX7_tell 48 = .ok (.iload_n 1, 1) := by decide +kernel
theorem dX7_tell_49 : decode cX7_tell 49 = .ok (.invokestatic 40, 3) := by decide +kernel
theorem dX7_tell_52 : decode cX7_tell 52 = .ok (.goto 38, 3) := by decide +kernel
theorem dX7_tell_55 : decode cX7_tell 55 = .ok (.aload_n 0, 1) := by decide +kernel
theorem dX7_tell_56 : decode cX7_tell 56 = .ok (.getfield 15, 3) := by decide +kernel
theorem dX7_tell_59 : decode cX7_tell 59 = .ok (.iload_n 1, 1) := by decide +kernel
theorem dX7_tell_60 : decode cX7_tell 60 = .ok (.invokestatic 40, 3) := by decide +kernel
theorem dX7_tell_63 : decode cX7_tell 63 = .ok (.goto 27, 3) := by decide +kernel
theorem dX7_tell_66 : decode cX7_tell 66 = .ok (.aload_n 0, 1) := by decide +kernel
theorem dX7_tell_67 : decode cX7_tell 67 = .ok (.getfield 18, 3) := by decide +kernel
theorem dX7_tell_70 : decode cX7_tell 70 = .ok (.iload_n 1, 1) := by decide +kernel
theorem dX7_tell_71 : decode cX7_tell 71 = .ok (.invokestatic 40, 3) := by decide +kernel
theorem dX7_tell_74 : decode cX7_tell 74 = .ok (.goto 16, 3) := by decide +kernel
theorem dX7_tell_77 : decode cX7_tell 77 = .ok (.aload_n 0, 1) := by decide +kernel
theorem dX7_tell_78 : decode cX7_tell 78 = .ok (.getfield 21, 3) := by decide +kernel
theorem dX7_tell_81 : decode cX7_tell 81 = .ok (.iload_n 1, 1) := by decide +kernel
theorem dX7_tell_82 : decode cX7_tell 82 = .ok (.invokestatic 40, 3) := by decide +kernel
theorem dX7_tell_85 : decode cX7_tell 85 = .ok (.goto 5, 3) := by decide +kernel
theorem dX7_tell_88 : decode cX7_tell 88 = .ok (.bipush (-2), 2) := by decide +kernel
theorem dX7_tell_90 : decode cX7_tell 90 = .ok (.ireturn, 1) := by decide +kernel
theorem dX8_init_0 : decode cX8_init 0 = .ok (.aload_n 0, 1) := by decide +kernel
theorem dX8_init_1 : decode cX8_init 1 = .ok (.invokespecial 3, 3) := by decide +kernel
theorem dX8_init_4 : decode cX8_init 4 = .ok (.aload_n 0, 1) := by decide +kernel
theorem dX8_init_5 : decode cX8_init 5 = .ok (.bipush 16, 2) := by decide +kernel
theorem dX8_init_7 : decode cX8_init 7 = .ok (.newarray .int, 2) := by decide +kernel
theorem dX8_init_9 : decode cX8_init 9 = .ok (.putfield 9, 3) := by decide +kernel
theorem dX8_init_12 : decode cX8_init 12 = .ok (.aload_n 0, 1) := by decide +kernel
theorem dX8_init_13 : decode cX8_init 13 = .ok (.bipush 16, 2) := by decide +kernel
theorem dX8_init_15 : decode cX8_init 15 = .ok (.newarray .int, 2) := by decide +kernel
theorem dX8_init_17 : decode cX8_init 17 = .ok (.putfield 15, 3) := by decide +kernel
theorem dX8_init_20 : decode cX8_init 20 = .ok (.aload_n 0, 1) := by decide +kernel
theorem dX8_init_21 : decode cX8_init 21 = .ok (.bipush 16, 2) := by decide +kernel
theorem dX8_init_23 : decode cX8_init 23 = .ok (.newarray .int, 2) := by decide +kernel
theorem dX8_init_25 : decode cX8_init 25 = .ok (.putfield 18, 3) := by decide +kernel
theorem dX8_init_28 : decode cX8_init 28 = .ok (.return_, 1) := by decide +kernel
theorem dX8_makeEmpty_0 : decode cX8_makeEmpty 0 = .ok (.aload_n 0, 1) := by decide +kernel
theorem dX8_makeEmpty_1 : decode cX8_makeEmpty 1 = .ok (.iconst 0, 1) := by decide +kernel
theorem dX8_makeEmpty_2 : decode cX8_makeEmpty 2 = .ok (.putfield 21, 3) := by decide +kernel
theorem dX8_makeEmpty_5 : decode cX8_makeEmpty 5 = .ok (.aload_n 0, 1) := by decide +kernel
theorem dX8_makeEmpty_6 : decode cX8_makeEmpty 6 = .ok (.getfield 9, 3) := by decide +kernel
theorem dX8_makeEmpty_9 : decode cX8_makeEmpty 9 = .ok (.iconst (-1), 1) := by decide +kernel
theorem dX8_makeEmpty_10 : decode cX8_makeEmpty 10 = .ok (.invokestatic 25, 3) := by decide +kernel
theorem dX8_makeEmpty_13 : decode cX8_makeEmpty 13 = .ok (.aload_n 0, 1) := by decide +kernel
theorem dX8_makeEmpty_14 : decode cX8_makeEmpty 14 = .ok (.getfield 15, 3) := by decide +kernel
theorem dX8_makeEmpty_17 : decode cX8_makeEmpty 17 = .ok (.iconst (-1), 1) := by decide +kernel
theorem dX8_makeEmpty_18 : decode cX8_makeEmpty 18 = .ok (.invokestatic 25, 3) := by decide +kernel
theorem dX8_makeEmpty_21 : decode cX8_makeEmpty 21 = .ok (.aload_n 0, 1) := by decide +kernel
theorem dX8_makeEmpty_22 : decode cX8_makeEmpty 22 = .ok (.getfield 18, 3) := by decide +kernel
theorem dX8_makeEmpty_25 : decode cX8_makeEmpty 25 = .ok (.iconst (-1), 1) := by decide +kernel
theorem dX8_makeEmpty_26 : decode cX8_makeEmpty 26 = .ok (.invokestatic 25, 3) := by decide +kernel
theorem dX8_makeEmpty_29 : decode cX8_makeEmpty 29 = .ok (.return_, 1) := by decide +kernel
theorem dX8_takeOver_0 : decode cX8_takeOver 0 = .ok (.aload_n 1, 1) := by decide +kernel
theorem dX8_takeOver_1 : decode cX8_takeOver 1 = .ok (.getfield 9, 3) := by decide +kernel
theorem dX8_takeOver_4 : decode cX8_takeOver 4 = .ok (.aload_n 0, 1) := by decide +kernel
theorem dX8_takeOver_5 : decode cX8_takeOver 5 = .ok (.getfield 9, 3) := by decide +kernel
theorem dX8_takeOver_8 : decode cX8_takeOver 8 = .ok (.invokestatic 29, 3) := by decide +kernel
theorem dX8_takeOver_11 : decode cX8_takeOver 11 = .ok (.aload_n 1, 1) := by decide +kernel
theorem dX8_takeOver_12 : decode cX8_takeOver 12 = .ok (.getfield 15, 3) := by decide +kernel
theorem dX8_takeOver_15 : decode cX8_takeOver 15 = .ok (.aload_n 0, 1) := by decide +kernel
theorem dX8_takeOver_16 : decode cX8_takeOver 16 = .ok (.getfield 15, 3) := by decide +kernel
theorem dX8_takeOver_19 : decode cX8_takeOver 19 = .ok (.invokestatic 29, 3) := by decide +kernel
theorem dX8_takeOver_22 : decode cX8_takeOver 22 = .ok (.aload_n 1, 1) := by decide +kernel
theorem dX8_takeOver_23 : decode cX8_takeOver 23 = .ok (.getfield 18, 3) := by decide +kernel
theorem dX8_takeOver_26 : decode cX8_takeOver 26 = .ok (.aload_n 0, 1) := by decide +kernel
theorem dX8_takeOver_27 : decode cX8_takeOver 27 = .ok (.getfield 18, 3) := by decide +kernel
theorem dX8_takeOver_30 : decode cX8_takeOver 30 = .ok (.invokestatic 29, 3) := by decide +kernel
theorem dX8_takeOver_33 : decode cX8_takeOver 33 = .ok (.aload_n 0, 1) := by decide +kernel
theorem dX8_takeOver_34 : decode cX8_takeOver 34 = .ok (.aload_n 1, 1) := by decide +kernel
theorem dX8_takeOver_35 : decode cX8_takeOver 35 = .ok (.getfield 21, 3) := by decide +kernel
theorem dX8_takeOver_38 : decode cX8_takeOver 38 = .ok (.putfield 21, 3) := by decide +kernel
theorem dX8_takeOver_41 : decode cX8_takeOver 41 = .ok (.return_, 1) := by decide +kernel
theorem dX8_leftOf_0 : decode cX8_leftOf 0 = .ok (.aload_n 0, 1) := by decide +kernel
theorem dX8_leftOf_1 : decode cX8_leftOf 1 = .ok (.getfield 9, 3) := by decide +kernel
theorem dX8_leftOf_4 : decode cX8_leftOf 4 = .ok (.iload_n 1, 1) := by decide +kernel
theorem dX8_leftOf_5 : decode cX8_leftOf 5 = .ok (.invokestatic 33, 3) := by decide +kernel
theorem dX8_leftOf_8 : decode cX8_leftOf 8 = .ok (.ireturn, 1) := by decide +kernel
theorem dX8_rightOf_0 : decode cX8_rightOf 0 = .ok (.aload_n 0, 1) := by decide +kernel
theorem dX8_rightOf_1 : decode cX8_rightOf 1 = .ok (.getfield 15, 3) := by decide +kernel
theorem dX8_rightOf_4 : decode cX8_rightOf 4 = .ok (.iload_n 1, 1) := by decide +kernel
theorem dX8_rightOf_5 : decode cX8_rightOf 5 = .ok (.invokestatic 33, 3) := by decide +kernel
theorem dX8_rightOf_8 : decode cX8_rightOf 8 = .ok (.ireturn, 1) := by decide +kernel
theorem dX8_upperOf_0 : decode cX8_upperOf 0 = .ok (.aload_n 0, 1) := by decide +kernel
theorem dX8_upperOf_1 : decode cX8_upperOf 1 = .ok (.getfield 18, 3) := by decide +kernel
theorem dX8_upperOf_4 : decode cX8_upperOf 4 = .ok (.iload_n 1, 1) := by decide +kernel
theorem dX8_upperOf_5 : decode cX8_upperOf 5 = .ok (.invokestatic 33, 3) := by decide +kernel
theorem dX8_upperOf_8 : decode cX8_upperOf 8 = .ok (.ireturn, 1) := by decide +kernel
theorem dX8_headOf_0 : decode cX8_headOf 0 = .ok (.aload_n 0, 1) := by decide +kernel
theorem dX8_headOf_1 : decode cX8_headOf 1 = .ok (.getfield 18, 3) := by decide +kernel
theorem dX8_headOf_4 : decode cX8_headOf 4 = .ok (.iload_n 1, 1) := by decide +kernel
theorem dX8_headOf_5 : decode cX8_headOf 5 = .ok (.invokestatic 37, 3) := by decide +kernel
theorem dX8_headOf_8 : decode cX8_headOf 8 = .ok (.ireturn, 1) := by decide +kernel
theorem dX8_topOf_0 : decode cX8_topOf 0 = .ok (.aload_n 0, 1) := by decide +kernel
theorem dX8_topOf_1 : decode cX8_topOf 1 = .ok (.getfield 9, 3) := by decide +kernel
theorem dX8_topOf_4 : decode cX8_topOf 4 = .ok (.aload_n 0, 1) := by decide +kernel
theorem dX8_topOf_5 : decode cX8_topOf 5 = .ok (.iload_n 1, 1) := by decide +kernel
theorem dX8_topOf_6 : decode cX8_topOf 6 = .ok (.invokevirtual 40, 3) := by decide +kernel
theorem dX8_topOf_9 : decode cX8_topOf 9 = .ok (.invokestatic 37, 3) := by decide +kernel
theorem dX8_topOf_12 : decode cX8_topOf 12 = .ok (.ireturn, 1) := by decide +kernel
theorem dX8_ahead_0 : decode cX8_ahead 0 = .ok (.aload_n 0, 1) := by decide +kernel
theorem dX8_ahead_1 : decode cX8_ahead 1 = .ok (.aload_n 0, 1) := by decide +kernel
theorem dX8_ahead_2 : decode cX8_ahead 2 = .ok (.getfield 9, 3) := by decide +kernel
theorem dX8_ahead_5 : decode cX8_ahead 5 = .ok (.aload_n 0, 1) := by decide +kernel
theorem dX8_ahead_6 : decode cX8_ahead 6 = .ok (.getfield 15, 3) := by decide +kernel
theorem dX8_ahead_9 : decode cX8_ahead 9 = .ok (.iload_n 1, 1) := by decide +kernel
theorem dX8_ahead_10 : decode cX8_ahead 10 = .ok (.invokevirtual 44, 3) := by decide +kernel
theorem dX8_ahead_13 : decode cX8_ahead 13 = .ok (.ireturn, 1) := by decide +kernel
theorem dX8_behind_0 : decode cX8_behind 0 = .ok (.aload_n 0, 1) := by decide +kernel
theorem dX8_behind_1 : decode cX8_behind 1 = .ok (.aload_n 0, 1) := by decide +kernel
theorem dX8_behind_2 : decode cX8_behind 2 = .ok (.getfield 15, 3) := by decide +kernel
theorem dX8_behind_5 : decode cX8_behind 5 = .ok (.aload_n 0, 1) := by decide +kernel
theorem dX8_behind_6 : decode cX8_behind 6 = .ok (.getfield 9, 3) := by decide +kernel
theorem dX8_behind_9 : decode cX8_behind 9 = .ok (.iload_n 1, 1) := by decide +kernel
theorem dX8_behind_10 : decode cX8_behind 10 = .ok (.invokevirtual 44, 3) := by decide +kernel
theorem dX8_behind_13 : decode cX8_behind 13 = .ok (.ireturn, 1) := by decide +kernel
theorem dX8_neighbour_0 : decode cX8_neighbour 0 = .ok (.aload_n 1, 1) := by decide +kernel
theorem dX8_neighbour_1 : decode cX8_neighbour 1 = .ok (.iload_n 3, 1) := by decide +kernel
theorem dX8_neighbour_2 : decode cX8_neighbour 2 = .ok (.invokestatic 33, 3) := by decide +kernel
theorem dX8_neighbour_5 : decode cX8_neighbour 5 = .ok (.istore 4, 2) := by decide +kernel
theorem dX8_neighbour_7 : decode cX8_neighbour 7 = .ok (.iload 4, 2) := by decide +kernel
theorem dX8_neighbour_9 : decode cX8_neighbour 9 = .ok (.ifCond .lt 10, 3) := by decide +kernel
theorem dX8_neighbour_12 : decode cX8_neighbour 12 = .ok (.aload_n 2, 1) := by decide +kernel
theorem dX8_neighbour_13 : decode cX8_neighbour 13 = .ok (.iload 4, 2) := by decide +kernel
theorem dX8_neighbour_15 : decode cX8_neighbour 15 = .ok (.invokestatic 37, 3) := by decide +kernel
theorem dX8_neighbour_18 : decode cX8_neighbour 18 = .ok (.ireturn, 1) := by decide +kernel
theorem dX8_neighbour_19 : decode cX8_neighbour 19 = .ok (.iload_n 3, 1) := by decide +kernel
theorem dX8_neighbour_20 : decode cX8_neighbour 20 = .ok (.istore 5, 2) := by decide +kernel
theorem dX8_neighbour_22 : decode cX8_neighbour 22 = .ok (.aload_n 0, 1) := by decide +kernel
theorem dX8_neighbour_23 : decode cX8_neighbour 23 = .ok (.iload 5, 2) := by decide +kernel
theorem dX8_neighbour_25 : decode cX8_neighbour 25 = .ok (.invokevirtual 48, 3) := by decide +kernel
theorem dX8_neighbour_28 : decode cX8_neighbour 28 = .ok (.istore 6, 2) := by decide +kernel
theorem dX8_neighbour_30 : decode cX8_neighbour 30 = .ok (.iconst 0, 1) := by decide +kernel
theorem dX8_neighbour_31 : decode cX8_neighbour 31 = .ok (.istore 7, 2) := by decide +kernel
theorem dX8_neighbour_33 : decode cX8_neighbour 33 = .ok (.iload 7, 2) := by decide +kernel
theorem dX8_neighbour_35 : decode cX8_neighbour 35 = .ok (.bipush 16, 2) := by decide +kernel
theorem dX8_neighbour_37 : decode cX8_neighbour 37 = .ok (.if_icmp .ge 37, 3) := by decide +kernel
theorem dX8_neighbour_40 : decode cX8_neighbour 40 = .ok (.iload 6, 2) := by decide +kernel
theorem dX8_neighbour_42 : decode cX8_neighbour 42 = .ok (.ifCond .lt 32, 3) := by decide +kernel
theorem dX8_neighbour_45 : decode cX8_neighbour 45 = .ok (.aload_n 1, 1) := by decide +kernel
theorem dX8_neighbour_46 : decode cX8_neighbour 46 = .ok (.iload 6, 2) := by decide +kernel
theorem dX8_neighbour_48 : decode cX8_neighbour 48 = .ok (.invokestatic 33, 3) := by decide +kernel
theorem dX8_neighbour_51 : decode cX8_neighbour 51 = .ok (.iload 5, 2) := by decide +kernel
theorem dX8_neighbour_53 : decode cX8_neighbour 53 = .ok (.if_icmp .ne 21, 3) := by decide +kernel
theorem dX8_neighbour_56 : decode cX8_neighbour 56 = .ok (.iload 6, 2) := by decide +kernel
theorem dX8_neighbour_58 : decode cX8_neighbour 58 = .ok (.istore 5, 2) := by decide +kernel
theorem dX8_neighbour_60 : decode cX8_neighbour 60 = .ok (.aload_n 0, 1) := by decide +kernel
theorem dX8_neighbour_61 : decode cX8_neighbour 61 = .ok (.iload 5, 2) := by decide +kernel
theorem dX8_neighbour_63 : decode cX8_neighbour 63 = .ok (.invokevirtual 48, 3) := by decide +kernel
theorem dX8_neighbour_66 : decode cX8_neighbour 66 = .ok (.istore 6, 2) := by decide +kernel
theorem dX8_neighbour_68 : decode cX8_neighbour 68 = .ok (.iinc 7 1, 3) := by decide +kernel
theorem dX8_neighbour_71 : decode cX8_neighbour 71 = .ok (.goto (-38), 3) := by decide +kernel
theorem dX8_neighbour_74 : decode cX8_neighbour 74 = .ok (.iload 6, 2) := by decide +kernel
theorem dX8_neighbour_76 : decode cX8_neighbour 76 = .ok (.ireturn, 1) := by decide +kernel
theorem dX8_countAbove_0 : decode cX8_countAbove 0 = .ok (.aload_n 0, 1) := by decide +kernel
theorem dX8_countAbove_1 : decode cX8_countAbove 1 = .ok (.getfield 18, 3) := by decide +kernel
theorem dX8_countAbove_4 : decode cX8_countAbove 4 = .ok (.iload_n 1, 1) := by decide +kernel
theorem dX8_countAbove_5 : decode cX8_countAbove 5 = .ok (.invokestatic 51, 3) := by decide +kernel
theorem dX8_countAbove_8 : decode cX8_countAbove 8 = .ok (.ireturn, 1) := by decide +kernel
theorem dX8_isAtOrBelow_0 : decode cX8_isAtOrBelow 0 = .ok (.aload_n 0, 1) := by decide +kernel
theorem dX8_isAtOrBelow_1 : decode cX8_isAtOrBelow 1 = .ok (.getfield 18, 3) := by decide +kernel
theorem dX8_isAtOrBelow_4 : decode cX8_isAtOrBelow 4 = .ok (.iload_n 1, 1) := by decide +kernel
theorem dX8_isAtOrBelow_5 : decode cX8_isAtOrBelow 5 = .ok (.iload_n 2, 1) := by decide +kernel
theorem dX8_isAtOrBelow_6 : decode cX8_isAtOrBelow 6 = .ok (.invokestatic 54, 3) := by decide +kernel
theorem dX8_isAtOrBelow_9 : decode cX8_isAtOrBelow 9 = .ok (.ireturn, 1) := by decide +kernel
theorem dX8_countBelow_0 : decode cX8_countBelow 0 = .ok (.iconst 0, 1) := by decide +kernel
theorem dX8_countBelow_1 : decode cX8_countBelow 1 = .ok (.istore_n 2, 1) := by decide +kernel
theorem dX8_countBelow_2 : decode cX8_countBelow 2 = .ok (.iconst 0, 1) := by decide +kernel
theorem dX8_countBelow_3 : decode cX8_countBelow 3 = .ok (.istore_n 3, 1) := by decide +kernel
theorem dX8_countBelow_4 : decode cX8_countBelow 4 = .ok (.iload_n 3, 1) := by decide +kernel
theorem dX8_countBelow_5 : decode cX8_countBelow 5 = .ok (.bipush 16, 2) := by decide +kernel
theorem dX8_countBelow_7 : decode cX8_countBelow 7 = .ok (.if_icmp .ge 26, 3) := by decide +kernel
theorem dX8_countBelow_10 : decode cX8_countBelow 10 = .ok (.iload_n 2, 1) := by decide +kernel
theorem dX8_countBelow_11 : decode cX8_countBelow 11 = .ok (.aload_n 0, 1) := by decide +kernel
theorem dX8_countBelow_12 : decode cX8_countBelow 12 = .ok (.iload_n 3, 1) := by decide +kernel
theorem dX8_countBelow_13 : decode cX8_countBelow 13 = .ok (.iload_n 1, 1) := by decide +kernel
theorem dX8_countBelow_14 : decode cX8_countBelow 14 = .ok (.invokevirtual 58, 3) := by decide +kernel
theorem dX8_countBelow_17 : decode cX8_countBelow 17 = .ok (.ifCond .eq 7, 3) := by decide +kernel
theorem dX8_countBelow_20 : decode cX8_countBelow 20 = .ok (.iconst 1, 1) := by decide +kernel
theorem dX8_countBelow_21 : decode cX8_countBelow 21 = .ok (.goto 4, 3) := by decide +kernel
theorem dX8_countBelow_24 : decode cX8_countBelow 24 = .ok (.iconst 0, 1) := by decide +kernel
theorem dX8_countBelow_25 : decode cX8_countBelow 25 = .ok (.iadd, 1) := by decide +kernel
theorem dX8_countBelow_26 : decode cX8_countBelow 26 = .ok (.istore_n 2, 1) := by decide +kernel
theorem dX8_countBelow_27 : decode cX8_countBelow 27 = .ok (.iinc 3 1, 3) := by decide +kernel
theorem dX8_countBelow_30 : decode cX8_countBelow 30 = .ok (.goto (-26), 3) := by decide +kernel
theorem dX8_countBelow_33 : decode cX8_countBelow 33 = .ok (.iload_n 2, 1) := by decide +kernel
theorem dX8_countBelow_34 : decode cX8_countBelow 34 = .ok (.ireturn, 1) := by decide +kernel
theorem dX8_countAhead_0 : decode cX8_countAhead 0 = .ok (.iconst 0, 1) := by decide +kernel
theorem dX8_countAhead_1 : decode cX8_countAhead 1 = .ok (.istore_n 2, 1) := by decide +kernel
theorem dX8_countAhead_2 : decode cX8_countAhead 2 = .ok (.aload_n 0, 1) := by decide +kernel
theorem dX8_countAhead_3 : decode cX8_countAhead 3 = .ok (.iload_n 1, 1) := by decide +kernel
theorem dX8_countAhead_4 : decode cX8_countAhead 4 = .ok (.invokevirtual 62, 3) := by decide +kernel
theorem dX8_countAhead_7 : decode cX8_countAhead 7 = .ok (.istore_n 3, 1) := by decide +kernel
theorem dX8_countAhead_8 : decode cX8_countAhead 8 = .ok (.iload_n 2, 1) := by decide +kernel
theorem dX8_countAhead_9 : decode cX8_countAhead 9 = .ok (.bipush 16, 2) := by decide +kernel
theorem dX8_countAhead_11 : decode cX8_countAhead 11 = .ok (.if_icmp .ge 19, 3) := by decide +kernel
theorem dX8_countAhead_14 : decode cX8_countAhead 14 = .ok (.iload_n 3, 1) := by decide +kernel
theorem dX8_countAhead_15 : decode cX8_countAhead 15 = .ok (.ifCond .lt 15, 3) := by decide +kernel
theorem dX8_countAhead_18 : decode cX8_countAhead 18 = .ok (.iinc 2 1, 3) := by decide +kernel
theorem dX8_countAhead_21 : decode cX8_countAhead 21 = .ok (.aload_n 0, 1) := by decide +kernel
theorem dX8_countAhead_22 : decode cX8_countAhead 22 = .ok (.iload_n 3, 1) := by decide +kernel
theorem dX8_countAhead_23 : decode cX8_countAhead 23 = .ok (.invokevirtual 62, 3) := by decide +kernel
theorem dX8_countAhead_26 : decode cX8_countAhead 26 = .ok (.istore_n 3, 1) := by decide +kernel
theorem dX8_countAhead_27 : decode cX8_countAhead 27 = .ok (.goto (-19), 3) := by decide +kernel
theorem dX8_countAhead_30 : decode cX8_countAhead 30 = .ok (.iload_n 2, 1) := by decide +kernel
theorem dX8_countAhead_31 : decode cX8_countAhead 31 = .ok (.ireturn, 1) := by decide +kernel
theorem dX8_blockAt_0 : decode cX8_blockAt 0 = .ok (.iload_n 2, 1) := by decide +kernel
theorem dX8_blockAt_1 : decode cX8_blockAt 1 = .ok (.ifCond .lt 9, 3) := by decide +kernel
theorem dX8_blockAt_4 : decode cX8_blockAt 4 = .ok (.iload_n 2, 1) := by decide +kernel
theorem dX8_blockAt_5 : decode cX8_blockAt 5 = .ok (.bipush 16, 2) := by decide +kernel
theorem dX8_blockAt_7 : decode cX8_blockAt 7 = .ok (.if_icmp .lt 5, 3) := by decide +kernel
theorem dX8_blockAt_10 : decode cX8_blockAt 10 = .ok (.iconst (-1), 1) := by decide +kernel
theorem dX8_blockAt_11 : decode cX8_blockAt 11 = .ok (.ireturn, 1) := by decide +kernel
theorem dX8_blockAt_12 : decode cX8_blockAt 12 = .ok (.aload_n 0, 1) := by decide +kernel
theorem dX8_blockAt_13 : decode cX8_blockAt 13 = .ok (.iload_n 1, 1) := by decide +kernel
theorem dX8_blockAt_14 : decode cX8_blockAt 14 = .ok (.invokevirtual 65, 3) := by decide +kernel
theorem dX8_blockAt_17 : decode cX8_blockAt 17 = .ok (.istore_n 3, 1) := by decide +kernel
theorem dX8_blockAt_18 : decode cX8_blockAt 18 = .ok (.iconst 0, 1) := by decide +kernel
theorem dX8_blockAt_19 : decode cX8_blockAt 19 = .ok (.istore 4, 2) := by decide +kernel
theorem dX8_blockAt_21 : decode cX8_blockAt 21 = .ok (.iload 4, 2) := by decide +kernel
theorem dX8_blockAt_23 : decode cX8_blockAt 23 = .ok (.iload_n 2, 1) := by decide +kernel
theorem dX8_blockAt_24 : decode cX8_blockAt 24 = .ok (.if_icmp .ge 19, 3) := by decide +kernel
theorem dX8_blockAt_27 : decode cX8_blockAt 27 = .ok (.iload_n 3, 1) := by decide +kernel
theorem dX8_blockAt_28 : decode cX8_blockAt 28 = .ok (.ifCond .lt 15, 3) := by decide +kernel
theorem dX8_blockAt_31 : decode cX8_blockAt 31 = .ok (.aload_n 0, 1) := by decide +kernel
theorem dX8_blockAt_32 : decode cX8_blockAt 32 = .ok (.iload_n 3, 1) := by decide +kernel
theorem dX8_blockAt_33 : decode cX8_blockAt 33 = .ok (.invokevirtual 68, 3) := by decide +kernel
theorem dX8_blockAt_36 : decode cX8_blockAt 36 = .ok (.istore_n 3, 1) := by decide +kernel
theorem dX8_blockAt_37 : decode cX8_blockAt 37 = .ok (.iinc 4 1, 3) := by decide +kernel
theorem dX8_blockAt_40 : decode cX8_blockAt 40 = .ok (.goto (-19), 3) := by decide +kernel
theorem dX8_blockAt_43 : decode cX8_blockAt 43 = .ok (.iload_n 3, 1) := by decide +kernel
theorem dX8_blockAt_44 : decode cX8_blockAt 44 = .ok (.ireturn, 1) := by decide +kernel
theorem dX8_turn_0 : decode cX8_turn 0 = .ok (.aload_n 0, 1) := by decide +kernel
theorem dX8_turn_1 : decode cX8_turn 1 = .ok (.iload_n 1, 1) := by decide +kernel
theorem dX8_turn_2 : decode cX8_turn 2 = .ok (.invokevirtual 48, 3) := by decide +kernel
theorem dX8_turn_5 : decode cX8_turn 5 = .ok (.istore_n 2, 1) := by decide +kernel
theorem dX8_turn_6 : decode cX8_turn 6 = .ok (.iload_n 2, 1) := by decide +kernel
theorem dX8_turn_7 : decode cX8_turn 7 = .ok (.ifCond .ge 4, 3) := by decide +kernel
theorem dX8_turn_10 : decode cX8_turn 10 = .ok (.return_, 1) := by decide +kernel
theorem dX8_turn_11 : decode cX8_turn 11 = .ok (.aload_n 0, 1) := by decide +kernel
theorem dX8_turn_12 : decode cX8_turn 12 = .ok (.iload_n 2, 1) := by decide +kernel
theorem dX8_turn_13 : decode cX8_turn 13 = .ok (.invokevirtual 48, 3) := by decide +kernel
theorem dX8_turn_16 : decode cX8_turn 16 = .ok (.istore_n 3, 1) := by decide +kernel
theorem dX8_turn_17 : decode cX8_turn 17 = .ok (.aload_n 0, 1) := by decide +kernel
theorem dX8_turn_18 : decode cX8_turn 18 = .ok (.iload_n 2, 1) := by decide +kernel
theorem dX8_turn_19 : decode cX8_turn 19 = .ok (.invokevirtual 71, 3) := by decide +kernel
theorem dX8_turn_22 : decode cX8_turn 22 = .ok (.iload_n 1, 1) := by decide +kernel
theorem dX8_turn_23 : decode cX8_turn 23 = .ok (.if_icmp .ne 7, 3) := by decide +kernel
theorem dX8_turn_26 : decode cX8_turn 26 = .ok (.iconst 1, 1) := by decide +kernel
theorem dX8_turn_27 : decode cX8_turn 27 = .ok (.goto 4, 3) := by decide +kernel
theorem dX8_turn_30 : decode cX8_turn 30 = .ok (.iconst 0, 1) := by decide +kernel
theorem dX8_turn_31 : decode cX8_turn 31 = .ok (.istore 4, 2) := by decide +kernel
theorem dX8_turn_33 : decode cX8_turn 33 = .ok (.iload 4, 2) := by decide +kernel
theorem dX8_turn_35 : decode cX8_turn 35 = .ok (.ifCond .eq 10, 3) := by decide +kernel
theorem dX8_turn_38 : decode cX8_turn 38 = .ok (.aload_n 0, 1) := by decide +kernel
theorem dX8_turn_39 : decode cX8_turn 39 = .ok (.getfield 9, 3) := by decide +kernel
theorem dX8_turn_42 : decode cX8_turn 42 = .ok (.goto 7, 3) := by decide +kernel
theorem dX8_turn_45 : decode cX8_turn 45 = .ok (.aload_n 0, 1) := by decide +kernel
theorem dX8_turn_46 : decode cX8_turn 46 = .ok (.getfield 15, 3) := by decide +kernel
theorem dX8_turn_49 : decode cX8_turn 49 = .ok (.astore 5, 2) := by decide +kernel
theorem dX8_turn_51 : decode cX8_turn 51 = .ok (.iload 4, 2) := by decide +kernel
theorem dX8_turn_53 : decode cX8_turn 53 = .ok (.ifCond .eq 10, 3) := by decide +kernel
theorem dX8_turn_56 : decode cX8_turn 56 = .ok (.aload_n 0, 1) := by decide +kernel
theorem dX8_turn_57 : decode cX8_turn 57 = .ok (.getfield 15, 3) := by decide +kernel
theorem dX8_turn_60 : decode cX8_turn 60 = .ok (.goto 7, 3) := by decide +kernel
theorem dX8_turn_63 : decode cX8_turn 63 = .ok (.aload_n 0, 1) := by decide +kernel
theorem dX8_turn_64 : decode cX8_turn 64 = .ok (.getfield 9, 3) := by decide +kernel
theorem dX8_turn_67 : decode cX8_turn 67 = .ok (.astore 6, 2) := by decide +kernel
theorem dX8_turn_69 : decode cX8_turn 69 = .ok (.aload_n 0, 1) := by decide +kernel
theorem dX8_turn_70 : decode cX8_turn 70 = .ok (.aload 5, 2) := by decide +kernel
theorem dX8_turn_72 : decode cX8_turn 72 = .ok (.iload_n 2, 1) := by decide +kernel
theorem dX8_turn_73 : decode cX8_turn 73 = .ok (.aload 6, 2) := by decide +kernel
theorem dX8_turn_75 : decode cX8_turn 75 = .ok (.iload_n 1, 1) := by decide +kernel
theorem dX8_turn_76 : decode cX8_turn 76 = .ok (.invokestatic 33, 3) := by decide +kernel
theorem dX8_turn_79 : decode cX8_turn 79 = .ok (.invokevirtual 74, 3) := by decide +kernel
theorem dX8_turn_82 : decode cX8_turn 82 = .ok (.aload_n 0, 1) := by decide +kernel
theorem dX8_turn_83 : decode cX8_turn 83 = .ok (.aload 6, 2) := by decide +kernel
theorem dX8_turn_85 : decode cX8_turn 85 = .ok (.iload_n 1, 1) := by decide +kernel
theorem dX8_turn_86 : decode cX8_turn 86 = .ok (.iload_n 2, 1) := by decide +kernel
theorem dX8_turn_87 : decode cX8_turn 87 = .ok (.invokevirtual 74, 3) := by decide +kernel
theorem dX8_turn_90 : decode cX8_turn 90 = .ok (.aload_n 0, 1) := by decide +kernel
theorem dX8_turn_91 : decode cX8_turn 91 = .ok (.aload_n 0, 1) := by decide +kernel
theorem dX8_turn_92 : decode cX8_turn 92 = .ok (.iload_n 3, 1) := by decide +kernel
theorem dX8_turn_93 : decode cX8_turn 93 = .ok (.invokevirtual 71, 3) := by decide +kernel
theorem dX8_turn_96 : decode cX8_turn 96 = .ok (.iload_n 2, 1) := by decide +kernel
theorem dX8_turn_97 : decode cX8_turn 97 = .ok (.if_icmp .ne 10, 3) := by decide +kernel
theorem dX8_turn_100 : decode cX8_turn 100 = .ok (.aload_n 0, 1) := by decide +kernel
theorem dX8_turn_101 : decode cX8_turn 101 = .ok (.getfield 9, 3) := by decide +kernel
theorem dX8_turn_104 : decode cX8_turn 104 = .ok (.goto 7, 3) := by decide +kernel
theorem dX8_turn_107 : decode cX8_turn 107 = .ok (.aload_n 0, 1) := by decide +kernel
theorem dX8_turn_108 : decode cX8_turn 108 = .ok (.getfield 15, 3) := by decide +kernel
theorem dX8_turn_111 : decode cX8_turn 111 = .ok (.iload_n 3, 1) := by decide +kernel
theorem dX8_turn_112 : decode cX8_turn 112 = .ok (.iload_n 1, 1) := by decide +kernel
theorem dX8_turn_113 : decode cX8_turn 113 = .ok (.invokevirtual 74, 3) := by decide +kernel
theorem dX8_turn_116 : decode cX8_turn 116 = .ok (.aload_n 0, 1) := by decide +kernel
theorem dX8_turn_117 : decode cX8_turn 117 = .ok (.dup, 1) := by decide +kernel
theorem dX8_turn_118 : decode cX8_turn 118 = .ok (.getfield 21, 3) := by decide +kernel
theorem dX8_turn_121 : decode cX8_turn 121 = .ok (.iconst 1, 1) := by decide +kernel
theorem dX8_turn_122 : decode cX8_turn 122 = .ok (.iadd, 1) := by decide +kernel
theorem dX8_turn_123 : decode cX8_turn 123 = .ok (.putfield 21, 3) := by decide +kernel
theorem dX8_turn_126 : decode cX8_turn 126 = .ok (.return_, 1) := by decide +kernel
theorem dX8_link_0 : decode cX8_link 0 = .ok (.aload_n 1, 1) := by decide +kernel
theorem dX8_link_1 : decode cX8_link 1 = .ok (.iload_n 2, 1) := by decide +kernel
theorem dX8_link_2 : decode cX8_link 2 = .ok (.iload_n 3, 1) := by decide +kernel
theorem dX8_link_3 : decode cX8_link 3 = .ok (.invokestatic 78, 3) := by decide +kernel
theorem dX8_link_6 : decode cX8_link 6 = .ok (.aload_n 0, 1) := by decide +kernel
theorem dX8_link_7 : decode cX8_link 7 = .ok (.getfield 18, 3) := by decide +kernel
theorem dX8_link_10 : decode cX8_link 10 = .ok (.iload_n 3, 1) := by decide +kernel
theorem dX8_link_11 : decode cX8_link 11 = .ok (.iload_n 2, 1) := by decide +kernel
theorem dX8_link_12 : decode cX8_link 12 = .ok (.invokestatic 78, 3) := by decide +kernel
theorem dX8_link_15 : decode cX8_link 15 = .ok (.return_, 1) := by decide +kernel
theorem dX8_splay_0 : decode cX8_splay 0 = .ok (.iconst 0, 1) := by decide +kernel
theorem dX8_splay_1 : decode cX8_splay 1 = .ok (.istore_n 2, 1) := by decide +kernel
theorem dX8_splay_2 : decode cX8_splay 2 = .ok (.iload_n 2, 1) := by decide +kernel
theorem dX8_splay_3 : decode cX8_splay 3 = .ok (.bipush 16, 2) := by decide +kernel
theorem dX8_splay_5 : decode cX8_splay 5 = .ok (.if_icmp .ge 93, 3) := by decide +kernel
theorem dX8_splay_8 : decode cX8_splay 8 = .ok (.aload_n 0, 1) := by decide +kernel
theorem dX8_splay_9 : decode cX8_splay 9 = .ok (.iload_n 1, 1) := by decide +kernel
theorem dX8_splay_10 : decode cX8_splay 10 = .ok (.invokevirtual 48, 3) := by decide +kernel
theorem dX8_splay_13 : decode cX8_splay 13 = .ok (.ifCond .lt 85, 3) := by decide +kernel
theorem dX8_splay_16 : decode cX8_splay 16 = .ok (.aload_n 0, 1) := by decide +kernel
theorem dX8_splay_17 : decode cX8_splay 17 = .ok (.iload_n 1, 1) := by decide +kernel
theorem dX8_splay_18 : decode cX8_splay 18 = .ok (.invokevirtual 48, 3) := by decide +kernel
theorem dX8_splay_21 : decode cX8_splay 21 = .ok (.istore_n 3, 1) := by decide +kernel
theorem dX8_splay_22 : decode cX8_splay 22 = .ok (.aload_n 0, 1) := by decide +kernel
theorem dX8_splay_23 : decode cX8_splay 23 = .ok (.iload_n 3, 1) := by decide +kernel
theorem dX8_splay_24 : decode cX8_splay 24 = .ok (.invokevirtual 48, 3) := by decide +kernel
theorem dX8_splay_27 : decode cX8_splay 27 = .ok (.istore 4, 2) := by decide +kernel
theorem dX8_splay_29 : decode cX8_splay 29 = .ok (.iload 4, 2) := by decide +kernel
theorem dX8_splay_31 : decode cX8_splay 31 = .ok (.ifCond .lt 56, 3) := by decide +kernel
theorem dX8_splay_34 : decode cX8_splay 34 = .ok (.aload_n 0, 1) := by decide +kernel
theorem dX8_splay_35 : decode cX8_splay 35 = .ok (.iload_n 3, 1) := by decide +kernel
theorem dX8_splay_36 : decode cX8_splay 36 = .ok (.invokevirtual 71, 3) := by decide +kernel
theorem dX8_splay_39 : decode cX8_splay 39 = .ok (.iload_n 1, 1) := by decide +kernel
theorem dX8_splay_40 : decode cX8_splay 40 = .ok (.if_icmp .ne 7, 3) := by decide +kernel
theorem dX8_splay_43 : decode cX8_splay 43 = .ok (.iconst 1, 1) := by decide +kernel
theorem dX8_splay_44 : decode cX8_splay 44 = .ok (.goto 4, 3) := by decide +kernel
theorem dX8_splay_47 : decode cX8_splay 47 = .ok (.iconst 0, 1) := by decide +kernel
theorem dX8_splay_48 : decode cX8_splay 48 = .ok (.aload_n 0, 1) := by decide +kernel
theorem dX8_splay_49 : decode cX8_splay 49 = .ok (.iload 4, 2) := by decide +kernel
theorem dX8_splay_51 : decode cX8_splay 51 = .ok (.invokevirtual 71, 3) := by decide +kernel
theorem dX8_splay_54 : decode cX8_splay 54 = .ok (.iload_n 3, 1) := by decide +kernel
theorem dX8_splay_55 : decode cX8_splay 55 = .ok (.if_icmp .ne 7, 3) := by decide +kernel
theorem dX8_splay_58 : decode cX8_splay 58 = .ok (.iconst 1, 1) := by decide +kernel
theorem dX8_splay_59 : decode cX8_splay 59 = .ok (.goto 4, 3) := by decide +kernel
theorem dX8_splay_62 : decode cX8_splay 62 = .ok (.iconst 0, 1) := by decide +kernel
theorem dX8_splay_63 : decode cX8_splay 63 = .ok (.if_icmp .ne 7, 3) := by decide +kernel
theorem dX8_splay_66 : decode cX8_splay 66 = .ok (.iconst 1, 1) := by decide +kernel
theorem dX8_splay_67 : decode cX8_splay 67 = .ok (.goto 4, 3) := by decide +kernel
theorem dX8_splay_70 : decode cX8_splay 70 = .ok (.iconst 0, 1) := by decide +kernel
theorem dX8_splay_71 : decode cX8_splay 71 = .ok (.istore 5, 2) := by decide +kernel
theorem dX8_splay_73 : decode cX8_splay 73 = .ok (.aload_n 0, 1) := by decide +kernel
theorem dX8_splay_74 : decode cX8_splay 74 = .ok (.iload 5, 2) := by decide +kernel
theorem dX8_splay_76 : decode cX8_splay 76 = .ok (.ifCond .eq 7, 3) := by decide +kernel
theorem dX8_splay_79 : decode cX8_splay 79 = .ok (.iload_n 3, 1) := by decide +kernel
theorem dX8_splay_80 : decode cX8_splay 80 = .ok (.goto 4, 3) := by decide +kernel
theorem dX8_splay_83 : decode cX8_splay 83 = .ok (.iload_n 1, 1) := by decide +kernel
theorem dX8_splay_84 : decode cX8_splay 84 = .ok (.invokevirtual 81, 3) := by decide +kernel
theorem dX8_splay_87 : decode cX8_splay 87 = .ok (.aload_n 0, 1) := by decide +kernel
theorem dX8_splay_88 : decode cX8_splay 88 = .ok (.iload_n 1, 1) := by decide +kernel
theorem dX8_splay_89 : decode cX8_splay 89 = .ok (.invokevirtual 81, 3) := by decide +kernel
theorem dX8_splay_92 : decode cX8_splay 92 = .ok (.iinc 2 1, 3) := by decide +kernel
theorem dX8_splay_95 : decode cX8_splay 95 = .ok (.goto (-93), 3) := by decide +kernel
theorem dX8_splay_98 : decode cX8_splay 98 = .ok (.return_, 1) := by decide +kernel
theorem dX8_takeLeftOff_0 : decode cX8_takeLeftOff 0 = .ok (.aload_n 0, 1) := by decide +kernel
theorem dX8_takeLeftOff_1 : decode cX8_takeLeftOff 1 = .ok (.getfield 18, 3) := by decide +kernel
theorem dX8_takeLeftOff_4 : decode cX8_takeLeftOff 4 = .ok (.aload_n 0, 1) := by decide +kernel
theorem dX8_takeLeftOff_5 : decode cX8_takeLeftOff 5 = .ok (.iload_n 1, 1) := by decide +kernel
theorem dX8_takeLeftOff_6 : decode cX8_takeLeftOff 6 = .ok (.invokevirtual 71, 3) := by decide +kernel
theorem dX8_takeLeftOff_9 : decode cX8_takeLeftOff 9 = .ok (.iconst (-1), 1) := by decide +kernel
theorem dX8_takeLeftOff_10 : decode cX8_takeLeftOff 10 = .ok (.invokestatic 78, 3) := by decide +kernel
theorem dX8_takeLeftOff_13 : decode cX8_takeLeftOff 13 = .ok (.aload_n 0, 1) := by decide +kernel
theorem dX8_takeLeftOff_14 : decode cX8_takeLeftOff 14 = .ok (.getfield 9, 3) := by decide +kernel
theorem dX8_takeLeftOff_17 : decode cX8_takeLeftOff 17 = .ok (.iload_n 1, 1) := by decide +kernel
theorem dX8_takeLeftOff_18 : decode cX8_takeLeftOff 18 = .ok (.iconst (-1), 1) := by decide +kernel
theorem dX8_takeLeftOff_19 : decode cX8_takeLeftOff 19 = .ok (.invokestatic 78, 3) := by decide +kernel
theorem dX8_takeLeftOff_22 : decode cX8_takeLeftOff 22 = .ok (.return_, 1) := by decide +kernel
theorem dX8_takeRightOff_0 : decode cX8_takeRightOff 0 = .ok (.aload_n 0, 1) := by decide +kernel
theorem dX8_takeRightOff_1 : decode cX8_takeRightOff 1 = .ok (.getfield 18, 3) := by decide +kernel
theorem dX8_takeRightOff_4 : decode cX8_takeRightOff 4 = .ok (.aload_n 0, 1) := by decide +kernel
theorem dX8_takeRightOff_5 : decode cX8_takeRightOff 5 = .ok (.iload_n 1, 1) := by decide +kernel
theorem dX8_takeRightOff_6 : decode cX8_takeRightOff 6 = .ok (.invokevirtual 85, 3) := by decide +kernel
theorem dX8_takeRightOff_9 : decode cX8_takeRightOff 9 = .ok (.iconst (-1), 1) := by decide +kernel
theorem dX8_takeRightOff_10 : decode cX8_takeRightOff 10 = .ok (.invokestatic 78, 3) := by decide +kernel
theorem dX8_takeRightOff_13 : decode cX8_takeRightOff 13 = .ok (.aload_n 0, 1) := by decide +kernel
theorem dX8_takeRightOff_14 : decode cX8_takeRightOff 14 = .ok (.getfield 15, 3) := by decide +kernel
theorem dX8_takeRightOff_17 : decode cX8_takeRightOff 17 = .ok (.iload_n 1, 1) := by decide +kernel
theorem dX8_takeRightOff_18 : decode cX8_takeRightOff 18 = .ok (.iconst (-1), 1) := by decide +kernel
theorem dX8_takeRightOff_19 : decode cX8_takeRightOff 19 = .ok (.invokestatic 78, 3) := by decide +kernel
theorem dX8_takeRightOff_22 : decode cX8_takeRightOff 22 = .ok (.return_, 1) := by decide +kernel
theorem dX8_joinRight_0 : decode cX8_joinRight 0 = .ok (.aload_n 0, 1) := by decide +kernel
theorem dX8_joinRight_1 : decode cX8_joinRight 1 = .ok (.aload_n 0, 1) := by decide +kernel
theorem dX8_joinRight_2 : decode cX8_joinRight 2 = .ok (.getfield 15, 3) := by decide +kernel
theorem dX8_joinRight_5 : decode cX8_joinRight 5 = .ok (.iload_n 1, 1) := by decide +kernel
theorem dX8_joinRight_6 : decode cX8_joinRight 6 = .ok (.iload_n 2, 1) := by decide +kernel
theorem dX8_joinRight_7 : decode cX8_joinRight 7 = .ok (.invokevirtual 74, 3) := by decide +kernel
theorem dX8_joinRight_10 : decode cX8_joinRight 10 = .ok (.return_, 1) := by decide +kernel
theorem dX10_init_0 : decode cX10_init 0 = .ok (.aload_n 0, 1) := by decide +kernel
theorem dX10_init_1 : decode cX10_init 1 = .ok (.invokespecial 1, 3) := by decide +kernel
theorem dX10_init_4 : decode cX10_init 4 = .ok (.aload_n 0, 1) := by decide +kernel
theorem dX10_init_5 : decode cX10_init 5 = .ok (.new 7, 3) := by decide +kernel
theorem dX10_init_8 : decode cX10_init 8 = .ok (.dup, 1) := by decide +kernel
theorem dX10_init_9 : decode cX10_init 9 = .ok (.invokespecial 9, 3) := by decide +kernel
theorem dX10_init_12 : decode cX10_init 12 = .ok (.putfield 10, 3) := by decide +kernel
theorem dX10_init_15 : decode cX10_init 15 = .ok (.aload_n 0, 1) := by decide +kernel
theorem dX10_init_16 : decode cX10_init 16 = .ok (.new 7, 3) := by decide +kernel
theorem dX10_init_19 : decode cX10_init 19 = .ok (.dup, 1) := by decide +kernel
theorem dX10_init_20 : decode cX10_init 20 = .ok (.invokespecial 9, 3) := by decide +kernel
theorem dX10_init_23 : decode cX10_init 23 = .ok (.putfield 16, 3) := by decide +kernel
theorem dX10_init_26 : decode cX10_init 26 = .ok (.aload_n 0, 1) := by decide +kernel
theorem dX10_init_27 : decode cX10_init 27 = .ok (.new 7, 3) := by decide +kernel
theorem dX10_init_30 : decode cX10_init 30 = .ok (.dup, 1) := by decide +kernel
theorem dX10_init_31 : decode cX10_init 31 = .ok (.invokespecial 9, 3) := by decide +kernel
theorem dX10_init_34 : decode cX10_init 34 = .ok (.putfield 19, 3) := by decide +kernel
theorem dX10_init_37 : decode cX10_init 37 = .ok (.aload_n 0, 1) := by decide +kernel
theorem dX10_init_38 : decode cX10_init 38 = .ok (.new 22, 3) := by decide +kernel
theorem dX10_init_41 : decode cX10_init 41 = .ok (.dup, 1) := by decide +kernel
theorem dX10_init_42 : decode cX10_init 42 = .ok (.invokespecial 24, 3) := by decide +kernel
theorem dX10_init_45 : decode cX10_init 45 = .ok (.putfield 25, 3) := by decide +kernel
theorem dX10_init_48 : decode cX10_init 48 = .ok (.aload_n 0, 1) := by decide +kernel
theorem dX10_init_49 : decode cX10_init 49 = .ok (.new 29, 3) := by decide +kernel
theorem dX10_init_52 : decode cX10_init 52 = .ok (.dup, 1) := by decide +kernel
theorem dX10_init_53 : decode cX10_init 53 = .ok (.invokespecial 31, 3) := by decide +kernel
theorem dX10_init_56 : decode cX10_init 56 = .ok (.putfield 32, 3) := by decide +kernel
theorem dX10_init_59 : decode cX10_init 59 = .ok (.aload_n 0, 1) := by decide +kernel
theorem dX10_init_60 : decode cX10_init 60 = .ok (.new 36, 3) := by decide +kernel
theorem dX10_init_63 : decode cX10_init 63 = .ok (.dup, 1) := by decide +kernel
theorem dX10_init_64 : decode cX10_init 64 = .ok (.invokespecial 38, 3) := by decide +kernel
theorem dX10_init_67 : decode cX10_init 67 = .ok (.putfield 39, 3) := by decide +kernel
theorem dX10_init_70 : decode cX10_init 70 = .ok (.aload_n 0, 1) := by decide +kernel
theorem dX10_init_71 : decode cX10_init 71 = .ok (.new 43, 3) := by decide +kernel
theorem dX10_init_74 : decode cX10_init 74 = .ok (.dup, 1) := by decide +kernel
theorem dX10_init_75 : decode cX10_init 75 = .ok (.invokespecial 45, 3) := by decide +kernel
theorem dX10_init_78 : decode cX10_init 78 = .ok (.putfield 46, 3) := by decide +kernel
theorem dX10_init_81 : decode cX10_init 81 = .ok (.aload_n 0, 1) := by decide +kernel
theorem dX10_init_82 : decode cX10_init 82 = .ok (.bipush (-4), 2) := by decide +kernel
theorem dX10_init_84 : decode cX10_init 84 = .ok (.putfield 50, 3) := by decide +kernel
theorem dX10_init_87 : decode cX10_init 87 = .ok (.aload_n 0, 1) := by decide +kernel
theorem dX10_init_88 : decode cX10_init 88 = .ok (.iconst 0, 1) := by decide +kernel
theorem dX10_init_89 : decode cX10_init 89 = .ok (.putfield 54, 3) := by decide +kernel
theorem dX10_init_92 : decode cX10_init 92 = .ok (.return_, 1) := by decide +kernel
theorem dX10_append_0 : decode cX10_append 0 = .ok (.aload_n 0, 1) := by decide +kernel
theorem dX10_append_1 : decode cX10_append 1 = .ok (.getfield 32, 3) := by decide +kernel
theorem dX10_append_4 : decode cX10_append 4 = .ok (.iload_n 1, 1) := by decide +kernel
theorem dX10_append_5 : decode cX10_append 5 = .ok (.invokevirtual 73, 3) := by decide +kernel
theorem dX10_append_8 : decode cX10_append 8 = .ok (.ireturn, 1) := by decide +kernel
theorem dX10_block_0 : decode cX10_block 0 = .ok (.aload_n 0, 1) := by decide +kernel
theorem dX10_block_1 : decode cX10_block 1 = .ok (.getfield 25, 3) := by decide +kernel
theorem dX10_block_4 : decode cX10_block 4 = .ok (.aload_n 0, 1) := by decide +kernel
theorem dX10_block_5 : decode cX10_block 5 = .ok (.getfield 10, 3) := by decide +kernel
theorem dX10_block_8 : decode cX10_block 8 = .ok (.invokevirtual 77, 3) := by decide +kernel
theorem dX10_block_11 : decode cX10_block 11 = .ok (.aload_n 0, 1) := by decide +kernel
theorem dX10_block_12 : decode cX10_block 12 = .ok (.aload_n 0, 1) := by decide +kernel
theorem dX10_block_13 : decode cX10_block 13 = .ok (.getfield 10, 3) := by decide +kernel
theorem dX10_block_16 : decode cX10_block 16 = .ok (.iload_n 1, 1) := by decide +kernel
theorem dX10_block_17 : decode cX10_block 17 = .ok (.aload_n 0, 1) := by decide +kernel
theorem dX10_block_18 : decode cX10_block 18 = .ok (.getfield 46, 3) := by decide +kernel
theorem dX10_block_21 : decode cX10_block 21 = .ok (.invokevirtual 81, 3) := by decide +kernel
theorem dX10_block_24 : decode cX10_block 24 = .ok (.invokevirtual 85, 3) := by decide +kernel
theorem dX10_block_27 : decode cX10_block 27 = .ok (.ireturn, 1) := by decide +kernel
theorem dX10_hang_0 : decode cX10_hang 0 = .ok (.aload_n 0, 1) := by decide +kernel
theorem dX10_hang_1 : decode cX10_hang 1 = .ok (.getfield 25, 3) := by decide +kernel
theorem dX10_hang_4 : decode cX10_hang 4 = .ok (.aload_n 0, 1) := by decide +kernel
theorem dX10_hang_5 : decode cX10_hang 5 = .ok (.getfield 10, 3) := by decide +kernel
theorem dX10_hang_8 : decode cX10_hang 8 = .ok (.invokevirtual 77, 3) := by decide +kernel
theorem dX10_hang_11 : decode cX10_hang 11 = .ok (.aload_n 0, 1) := by decide +kernel
theorem dX10_hang_12 : decode cX10_hang 12 = .ok (.aload_n 0, 1) := by decide +kernel
theorem dX10_hang_13 : decode cX10_hang 13 = .ok (.getfield 10, 3) := by decide +kernel
theorem dX10_hang_16 : decode cX10_hang 16 = .ok (.iload_n 1, 1) := by decide +kernel
theorem dX10_hang_17 : decode cX10_hang 17 = .ok (.iload_n 2, 1) := by decide +kernel
theorem dX10_hang_18 : decode cX10_hang 18 = .ok (.aload_n 0, 1) := by decide +kernel
theorem dX10_hang_19 : decode cX10_hang 19 = .ok (.getfield 46, 3) := by decide +kernel
theorem dX10_hang_22 : decode cX10_hang 22 = .ok (.invokevirtual 89, 3) := by decide +kernel
theorem dX10_hang_25 : decode cX10_hang 25 = .ok (.invokevirtual 85, 3) := by decide +kernel
theorem dX10_hang_28 : decode cX10_hang 28 = .ok (.ireturn, 1) := by decide +kernel
theorem dX10_cut_0 : decode cX10_cut 0 = .ok (.aload_n 0, 1) := by decide +kernel
theorem dX10_cut_1 : decode cX10_cut 1 = .ok (.getfield 25, 3) := by decide +kernel
theorem dX10_cut_4 : decode cX10_cut 4 = .ok (.aload_n 0, 1) := by decide +kernel
theorem dX10_cut_5 : decode cX10_cut 5 = .ok (.getfield 10, 3) := by decide +kernel
theorem dX10_cut_8 : decode cX10_cut 8 = .ok (.invokevirtual 77, 3) := by decide +kernel
theorem dX10_cut_11 : decode cX10_cut 11 = .ok (.aload_n 0, 1) := by decide +kernel
theorem dX10_cut_12 : decode cX10_cut 12 = .ok (.aload_n 0, 1) := by decide +kernel
theorem dX10_cut_13 : decode cX10_cut 13 = .ok (.getfield 10, 3) := by decide +kernel
theorem dX10_cut_16 : decode cX10_cut 16 = .ok (.iload_n 1, 1) := by decide +kernel
theorem dX10_cut_17 : decode cX10_cut 17 = .ok (.aload_n 0, 1) := by decide +kernel
theorem dX10_cut_18 : decode cX10_cut 18 = .ok (.getfield 46, 3) := by decide +kernel
theorem dX10_cut_21 : decode cX10_cut 21 = .ok (.invokevirtual 93, 3) := by decide +kernel
theorem dX10_cut_24 : decode cX10_cut 24 = .ok (.invokevirtual 85, 3) := by decide +kernel
theorem dX10_cut_27 : decode cX10_cut 27 = .ok (.ireturn, 1) := by decide +kernel
theorem dX10_walk_0 : decode cX10_walk 0 = .ok (.aload_n 0, 1) := by decide +kernel
theorem dX10_walk_1 : decode cX10_walk 1 = .ok (.getfield 25, 3) := by decide +kernel
theorem dX10_walk_4 : decode cX10_walk 4 = .ok (.aload_n 0, 1) := by decide +kernel
theorem dX10_walk_5 : decode cX10_walk 5 = .ok (.getfield 10, 3) := by decide +kernel
theorem dX10_walk_8 : decode cX10_walk 8 = .ok (.invokevirtual 77, 3) := by decide +kernel
theorem dX10_walk_11 : decode cX10_walk 11 = .ok (.aload_n 0, 1) := by decide +kernel
theorem dX10_walk_12 : decode cX10_walk 12 = .ok (.aload_n 0, 1) := by decide +kernel
theorem dX10_walk_13 : decode cX10_walk 13 = .ok (.getfield 10, 3) := by decide +kernel
theorem dX10_walk_16 : decode cX10_walk 16 = .ok (.iload_n 1, 1) := by decide +kernel
theorem dX10_walk_17 : decode cX10_walk 17 = .ok (.invokevirtual 96, 3) := by decide +kernel
theorem dX10_walk_20 : decode cX10_walk 20 = .ok (.invokevirtual 85, 3) := by decide +kernel
theorem dX10_walk_23 : decode cX10_walk 23 = .ok (.ireturn, 1) := by decide +kernel
theorem dX10_up_0 : decode cX10_up 0 = .ok (.aload_n 0, 1) := by decide +kernel
theorem dX10_up_1 : decode cX10_up 1 = .ok (.getfield 25, 3) := by decide +kernel
theorem dX10_up_4 : decode cX10_up 4 = .ok (.aload_n 0, 1) := by decide +kernel
theorem dX10_up_5 : decode cX10_up 5 = .ok (.getfield 10, 3) := by decide +kernel
theorem dX10_up_8 : decode cX10_up 8 = .ok (.invokevirtual 77, 3) := by decide +kernel
theorem dX10_up_11 : decode cX10_up 11 = .ok (.aload_n 0, 1) := by decide +kernel
theorem dX10_up_12 : decode cX10_up 12 = .ok (.aload_n 0, 1) := by decide +kernel
theorem dX10_up_13 : decode cX10_up 13 = .ok (.getfield 10, 3) := by decide +kernel
theorem dX10_up_16 : decode cX10_up 16 = .ok (.iload_n 1, 1) := by decide +kernel
theorem dX10_up_17 : decode cX10_up 17 = .ok (.invokevirtual 99, 3) := by decide +kernel
theorem dX10_up_20 : decode cX10_up 20 = .ok (.invokevirtual 85, 3) := by decide +kernel
theorem dX10_up_23 : decode cX10_up 23 = .ok (.ireturn, 1) := by decide +kernel
theorem dX10_weigh_0 : decode cX10_weigh 0 = .ok (.aload_n 0, 1) := by decide +kernel
theorem dX10_weigh_1 : decode cX10_weigh 1 = .ok (.getfield 25, 3) := by decide +kernel
theorem dX10_weigh_4 : decode cX10_weigh 4 = .ok (.aload_n 0, 1) := by decide +kernel
theorem dX10_weigh_5 : decode cX10_weigh 5 = .ok (.getfield 10, 3) := by decide +kernel
theorem dX10_weigh_8 : decode cX10_weigh 8 = .ok (.invokevirtual 77, 3) := by decide +kernel
theorem dX10_weigh_11 : decode cX10_weigh 11 = .ok (.aload_n 0, 1) := by decide +kernel
theorem dX10_weigh_12 : decode cX10_weigh 12 = .ok (.aload_n 0, 1) := by decide +kernel
theorem dX10_weigh_13 : decode cX10_weigh 13 = .ok (.getfield 10, 3) := by decide +kernel
theorem dX10_weigh_16 : decode cX10_weigh 16 = .ok (.iload_n 1, 1) := by decide +kernel
theorem dX10_weigh_17 : decode cX10_weigh 17 = .ok (.iload_n 2, 1) := by decide +kernel
theorem dX10_weigh_18 : decode cX10_weigh 18 = .ok (.aload_n 0, 1) := by decide +kernel
theorem dX10_weigh_19 : decode cX10_weigh 19 = .ok (.getfield 46, 3) := by decide +kernel
theorem dX10_weigh_22 : decode cX10_weigh 22 = .ok (.invokevirtual 102, 3) := by decide +kernel
theorem dX10_weigh_25 : decode cX10_weigh 25 = .ok (.invokevirtual 85, 3) := by decide +kernel
theorem dX10_weigh_28 : decode cX10_weigh 28 = .ok (.ireturn, 1) := by decide +kernel
theorem dX10_sledge_0 : decode cX10_sledge 0 = .ok (.aload_n 0, 1) := by decide +kernel
theorem dX10_sledge_1 : decode cX10_sledge 1 = .ok (.getfield 25, 3) := by decide +kernel
theorem dX10_sledge_4 : decode cX10_sledge 4 = .ok (.aload_n 0, 1) := by decide +kernel
theorem dX10_sledge_5 : decode cX10_sledge 5 = .ok (.getfield 10, 3) := by decide +kernel
theorem dX10_sledge_8 : decode cX10_sledge 8 = .ok (.invokevirtual 77, 3) := by decide +kernel
theorem dX10_sledge_11 : decode cX10_sledge 11 = .ok (.aload_n 0, 1) := by decide +kernel
theorem dX10_sledge_12 : decode cX10_sledge 12 = .ok (.aload_n 0, 1) := by decide +kernel
theorem dX10_sledge_13 : decode cX10_sledge 13 = .ok (.getfield 10, 3) := by decide +kernel
theorem dX10_sledge_16 : decode cX10_sledge 16 = .ok (.iload_n 1, 1) := by decide +kernel
theorem dX10_sledge_17 : decode cX10_sledge 17 = .ok (.aload_n 0, 1) := by decide +kernel
theorem dX10_sledge_18 : decode cX10_sledge 18 = .ok (.getfield 46, 3) := by decide +kernel
theorem dX10_sledge_21 : decode cX10_sledge 21 = .ok (.invokevirtual 105, 3) := by decide +kernel
theorem dX10_sledge_24 : decode cX10_sledge 24 = .ok (.invokevirtual 85, 3) := by decide +kernel
theorem dX10_sledge_27 : decode cX10_sledge 27 = .ok (.ireturn, 1) := by decide +kernel
theorem dX10_pull_0 : decode cX10_pull 0 = .ok (.aload_n 0, 1) := by decide +kernel
theorem dX10_pull_1 : decode cX10_pull 1 = .ok (.getfield 25, 3) := by decide +kernel
theorem dX10_pull_4 : decode cX10_pull 4 = .ok (.aload_n 0, 1) := by decide +kernel
theorem dX10_pull_5 : decode cX10_pull 5 = .ok (.getfield 10, 3) := by decide +kernel
theorem dX10_pull_8 : decode cX10_pull 8 = .ok (.invokevirtual 77, 3) := by decide +kernel
theorem dX10_pull_11 : decode cX10_pull 11 = .ok (.aload_n 0, 1) := by decide +kernel
theorem dX10_pull_12 : decode cX10_pull 12 = .ok (.aload_n 0, 1) := by decide +kernel
theorem dX10_pull_13 : decode cX10_pull 13 = .ok (.getfield 10, 3) := by decide +kernel
theorem dX10_pull_16 : decode cX10_pull 16 = .ok (.aload_n 0, 1) := by decide +kernel
theorem dX10_pull_17 : decode cX10_pull 17 = .ok (.getfield 46, 3) := by decide +kernel
theorem dX10_pull_20 : decode cX10_pull 20 = .ok (.invokevirtual 108, 3) := by decide +kernel
theorem dX10_pull_23 : decode cX10_pull 23 = .ok (.invokevirtual 85, 3) := by decide +kernel
theorem dX10_pull_26 : decode cX10_pull 26 = .ok (.ireturn, 1) := by decide +kernel
theorem dX10_read_0 : decode cX10_read 0 = .ok (.aload_n 0, 1) := by decide +kernel
theorem dX10_read_1 : decode cX10_read 1 = .ok (.getfield 32, 3) := by decide +kernel
theorem dX10_read_4 : decode cX10_read 4 = .ok (.invokevirtual 112, 3) := by decide +kernel
theorem dX10_read_7 : decode cX10_read 7 = .ok (.istore_n 1, 1) := by decide +kernel
theorem dX10_read_8 : decode cX10_read 8 = .ok (.aload_n 0, 1) := by decide +kernel
theorem dX10_read_9 : decode cX10_read 9 = .ok (.getfield 32, 3) := by decide +kernel
theorem dX10_read_12 : decode cX10_read 12 = .ok (.invokevirtual 116, 3) := by decide +kernel
theorem dX10_read_15 : decode cX10_read 15 = .ok (.iload_n 1, 1) := by decide +kernel
theorem dX10_read_16 : decode cX10_read 16 = .ok (.ifCond .ne 17, 3) := by decide +kernel
theorem dX10_read_19 : decode cX10_read 19 = .ok (.aload_n 0, 1) := by decide +kernel
theorem dX10_read_20 : decode cX10_read 20 = .ok (.aload_n 0, 1) := by decide +kernel
theorem dX10_read_21 : decode cX10_read 21 = .ok (.getfield 32, 3) := by decide +kernel
theorem dX10_read_24 : decode cX10_read 24 = .ok (.getfield 117, 3) := by decide +kernel
theorem dX10_read_27 : decode cX10_read 27 = .ok (.putfield 50, 3) := by decide +kernel
theorem dX10_read_30 : decode cX10_read 30 = .ok (.bipush (-2), 2) := by decide +kernel
theorem dX10_read_32 : decode cX10_read 32 = .ok (.ireturn, 1) := by decide +kernel
theorem dX10_read_33 : decode cX10_read 33 = .ok (.aload_n 0, 1) := by decide +kernel
theorem dX10_read_34 : decode cX10_read 34 = .ok (.getfield 25, 3) := by decide +kernel
theorem dX10_read_37 : decode cX10_read 37 = .ok (.aload_n 0, 1) := by decide +kernel
theorem dX10_read_38 : decode cX10_read 38 = .ok (.getfield 10, 3) := by decide +kernel
theorem dX10_read_41 : decode cX10_read 41 = .ok (.invokevirtual 77, 3) := by decide +kernel
theorem dX10_read_44 : decode cX10_read 44 = .ok (.iconst 0, 1) := by decide +kernel
theorem dX10_read_45 : decode cX10_read 45 = .ok (.istore_n 2, 1) := by decide +kernel
theorem dX10_read_46 : decode cX10_read 46 = .ok (.iload_n 2, 1) := by decide +kernel
theorem dX10_read_47 : decode cX10_read 47 = .ok (.aload_n 0, 1) := by decide +kernel
theorem dX10_read_48 : decode cX10_read 48 = .ok (.getfield 32, 3) := by decide +kernel
theorem dX10_read_51 : decode cX10_read 51 = .ok (.getfield 120, 3) := by decide +kernel
theorem dX10_read_54 : decode cX10_read 54 = .ok (.if_icmp .ge 60, 3) := by decide +kernel
theorem dX10_read_57 : decode cX10_read 57 = .ok (.aload_n 0, 1) := by decide +kernel
theorem dX10_read_58 : decode cX10_read 58 = .ok (.iload_n 2, 1) := by decide +kernel
theorem dX10_read_59 : decode cX10_read 59 = .ok (.invokevirtual 123, 3) := by decide +kernel
theorem dX10_read_62 : decode cX10_read 62 = .ok (.istore_n 3, 1) := by decide +kernel
theorem dX10_read_63 : decode cX10_read 63 = .ok (.iload_n 3, 1) := by decide +kernel
theorem dX10_read_64 : decode cX10_read 64 = .ok (.ifCond .ge 44, 3) := by decide +kernel
theorem dX10_read_67 : decode cX10_read 67 = .ok (.aload_n 0, 1) := by decide +kernel
theorem dX10_read_68 : decode cX10_read 68 = .ok (.getfield 25, 3) := by decide +kernel
theorem dX10_read_71 : decode cX10_read 71 = .ok (.aload_n 0, 1) := by decide +kernel
theorem dX10_read_72 : decode cX10_read 72 = .ok (.getfield 10, 3) := by decide +kernel
theorem dX10_read_75 : decode cX10_read 75 = .ok (.invokevirtual 126, 3) := by decide +kernel
theorem dX10_read_78 : decode cX10_read 78 = .ok (.iload_n 3, 1) := by decide +kernel
theorem dX10_read_79 : decode cX10_read 79 = .ok (.bipush (-3), 2) := by decide +kernel
theorem dX10_read_81 : decode cX10_read 81 = .ok (.if_icmp .ne 16, 3) := by decide +kernel
theorem dX10_read_84 : decode cX10_read 84 = .ok (.aload_n 0, 1) := by decide +kernel
theorem dX10_read_85 : decode cX10_read 85 = .ok (.getfield 46, 3) := by decide +kernel
theorem dX10_read_88 : decode cX10_read 88 = .ok (.bipush 7, 2) := by decide +kernel
theorem dX10_read_90 : decode cX10_read 90 = .ok (.iload_n 2, 1) := by decide +kernel
theorem dX10_read_91 : decode cX10_read 91 = .ok (.invokevirtual 129, 3) := by decide +kernel
theorem dX10_read_94 : decode cX10_read 94 = .ok (.goto 13, 3) := by decide +kernel
theorem dX10_read_97 : decode cX10_read 97 = .ok (.aload_n 0, 1) := by decide +kernel
theorem dX10_read_98 : decode cX10_read 98 = .ok (.getfield 46, 3) := by decide +kernel
theorem dX10_read_101 : decode cX10_read 101 = .ok (.bipush 8, 2) := by decide +kernel
theorem dX10_read_103 : decode cX10_read 103 = .ok (.iload_n 2, 1) := by decide +kernel
theorem dX10_read_104 : decode cX10_read 104 = .ok (.invokevirtual 133, 3) := by decide +kernel
theorem dX10_read_107 : decode cX10_read 107 = .ok (.ireturn, 1) := by decide +kernel
theorem dX10_read_108 : decode cX10_read 108 = .ok (.iinc 2 1, 3) := by decide +kernel
theorem dX10_read_111 : decode cX10_read 111 = .ok (.goto (-65), 3) := by decide +kernel
theorem dX10_read_114 : decode cX10_read 114 = .ok (.aload_n 0, 1) := by decide +kernel
theorem dX10_read_115 : decode cX10_read 115 = .ok (.getfield 25, 3) := by decide +kernel
theorem dX10_read_118 : decode cX10_read 118 = .ok (.invokevirtual 136, 3) := by decide +kernel
theorem dX10_read_121 : decode cX10_read 121 = .ok (.aload_n 0, 1) := by decide +kernel
theorem dX10_read_122 : decode cX10_read 122 = .ok (.getfield 32, 3) := by decide +kernel
theorem dX10_read_125 : decode cX10_read 125 = .ok (.getfield 120, 3) := by decide +kernel
theorem dX10_read_128 : decode cX10_read 128 = .ok (.ireturn, 1) := by decide +kernel
theorem dX10_fault_0 : decode cX10_fault 0 = .ok (.aload_n 0, 1) := by decide +kernel
theorem dX10_fault_1 : decode cX10_fault 1 = .ok (.getfield 50, 3) := by decide +kernel
theorem dX10_fault_4 : decode cX10_fault 4 = .ok (.ireturn, 1) := by decide +kernel
theorem dX10_reason_0 : decode cX10_reason 0 = .ok (.aload_n 0, 1) := by decide +kernel
theorem dX10_reason_1 : decode cX10_reason 1 = .ok (.getfield 46, 3) := by decide +kernel
theorem dX10_reason_4 : decode cX10_reason 4 = .ok (.iload_n 1, 1) := by decide +kernel
theorem dX10_reason_5 : decode cX10_reason 5 = .ok (.iload_n 2, 1) := by decide +kernel
theorem dX10_reason_6 : decode cX10_reason 6 = .ok (.invokevirtual 139, 3) := by decide +kernel
theorem dX10_reason_9 : decode cX10_reason 9 = .ok (.ireturn, 1) := by decide +kernel
theorem dX10_blockOf_0 : decode cX10_blockOf 0 = .ok (.aload_n 0, 1) := by decide +kernel
theorem dX10_blockOf_1 : decode cX10_blockOf 1 = .ok (.getfield 10, 3) := by decide +kernel
theorem dX10_blockOf_4 : decode cX10_blockOf 4 = .ok (.getfield 58, 3) := by decide +kernel
theorem dX10_blockOf_7 : decode cX10_blockOf 7 = .ok (.iload_n 1, 1) := by decide +kernel
theorem dX10_blockOf_8 : decode cX10_blockOf 8 = .ok (.invokevirtual 143, 3) := by decide +kernel
theorem dX10_blockOf_11 : decode cX10_blockOf 11 = .ok (.ifCond .ne 5, 3) := by decide +kernel
theorem dX10_blockOf_14 : decode cX10_blockOf 14 = .ok (.iconst (-1), 1) := by decide +kernel
theorem dX10_blockOf_15 : decode cX10_blockOf 15 = .ok (.ireturn, 1) := by decide +kernel
theorem dX10_blockOf_16 : decode cX10_blockOf 16 = .ok (.iload_n 2, 1) := by decide +kernel
theorem dX10_blockOf_17 : decode cX10_blockOf 17 = .ok (.tableswitch 144 0 6 #[43, 57, 74, 88, 102, 116, 130], 43) := by decide +kernel
theorem dX10_blockOf_60 : decode cX10_blockOf 60 = .ok (.aload_n 0, 1) := by decide +kernel
theorem dX10_blockOf_61 : decode cX10_blockOf 61 = .ok (.getfield 10, 3) := by decide +kernel
theorem dX10_blockOf_64 : decode cX10_blockOf 64 = .ok (.getfield 58, 3) := by decide +kernel
theorem dX10_blockOf_67 : decode cX10_blockOf 67 = .ok (.iload_n 1, 1) := by decide +kernel
theorem dX10_blockOf_68 : decode cX10_blockOf 68 = .ok (.invokevirtual 147, 3) := by decide +kernel
theorem dX10_blockOf_71 : decode cX10_blockOf 71 = .ok (.goto 92, 3) := by decide +kernel
theorem dX10_blockOf_74 : decode cX10_blockOf 74 = .ok (.aload_n 0, 1) := by decide +kernel
theorem dX10_blockOf_75 : decode cX10_blockOf 75 = .ok (.getfield 10, 3) := by decide +kernel
theorem dX10_blockOf_78 : decode cX10_blockOf 78 = .ok (.getfield 58, 3) := by decide +kernel
theorem dX10_blockOf_81 : decode cX10_blockOf 81 = .ok (.iload_n 1, 1) := by decide +kernel
theorem dX10_blockOf_82 : decode cX10_blockOf 82 = .ok (.invokevirtual 150, 3) := by decide +kernel
theorem dX10_blockOf_85 : decode cX10_blockOf 85 = .ok (.invokestatic 153, 3) := by decide +kernel
theorem dX10_blockOf_88 : decode cX10_blockOf 88 = .ok (.goto 75, 3) := by decide +kernel
theorem dX10_blockOf_91 : decode cX10_blockOf 91 = .ok (.aload_n 0, 1) := by decide +kernel
theorem dX10_blockOf_92 : decode cX10_blockOf 92 = .ok (.getfield 10, 3) := by decide +kernel
theorem dX10_blockOf_95 : decode cX10_blockOf 95 = .ok (.getfield 58, 3) := by decide +kernel
theorem dX10_blockOf_98 : decode cX10_blockOf 98 = .ok (.iload_n 1, 1) := by decide +kernel
theorem dX10_blockOf_99 : decode cX10_blockOf 99 = .ok (.invokevirtual 156, 3) := by decide +kernel
theorem dX10_blockOf_102 : decode cX10_blockOf 102 = .ok (.goto 61, 3) := by decide +kernel
theorem dX10_blockOf_105 : decode cX10_blockOf 105 = .ok (.aload_n 0, 1) := by decide +kernel
theorem dX10_blockOf_106 : decode cX10_blockOf 106 = .ok (.getfield 10, 3) := by decide +kernel
theorem dX10_blockOf_109 : decode cX10_blockOf 109 = .ok (.getfield 58, 3) := by decide +kernel
theorem dX10_blockOf_112 : decode cX10_blockOf 112 = .ok (.iload_n 1, 1) := by decide +kernel
theorem dX10_blockOf_113 : decode cX10_blockOf 113 = .ok (.invokevirtual 159, 3) := by decide +kernel
theorem dX10_blockOf_116 : decode cX10_blockOf 116 = .ok (.goto 47, 3) := by decide +kernel
theorem dX10_blockOf_119 : decode cX10_blockOf 119 = .ok (.aload_n 0, 1) := by decide +kernel
theorem dX10_blockOf_120 : decode cX10_blockOf 120 = .ok (.getfield 10, 3) := by decide +kernel
theorem dX10_blockOf_123 : decode cX10_blockOf 123 = .ok (.getfield 58, 3) := by decide +kernel
theorem dX10_blockOf_126 : decode cX10_blockOf 126 = .ok (.iload_n 1, 1) := by decide +kernel
theorem dX10_blockOf_127 : decode cX10_blockOf 127 = .ok (.invokevirtual 162, 3) := by decide +kernel
theorem dX10_blockOf_130 : decode cX10_blockOf 130 = .ok (.goto 33, 3) := by decide +kernel
theorem dX10_blockOf_133 : decode cX10_blockOf 133 = .ok (.aload_n 0, 1) := by decide +kernel
theorem dX10_blockOf_134 : decode cX10_blockOf 134 = .ok (.getfield 10, 3) := by decide +kernel
theorem dX10_blockOf_137 : decode cX10_blockOf 137 = .ok (.getfield 58, 3) := by decide +kernel
theorem dX10_blockOf_140 : decode cX10_blockOf 140 = .ok (.iload_n 1, 1) := by decide +kernel
theorem dX10_blockOf_141 : decode cX10_blockOf 141 = .ok (.invokevirtual 165, 3) := by decide +kernel
theorem dX10_blockOf_144 : decode cX10_blockOf 144 = .ok (.goto 19, 3) := by decide +kernel
theorem dX10_blockOf_147 : decode cX10_blockOf 147 = .ok (.aload_n 0, 1) := by decide +kernel
theorem dX10_blockOf_148 : decode cX10_blockOf 148 = .ok (.getfield 10, 3) := by decide +kernel
theorem dX10_blockOf_151 : decode cX10_blockOf 151 = .ok (.getfield 168, 3) := by decide +kernel
theorem dX10_blockOf_154 : decode cX10_blockOf 154 = .ok (.iload_n 1, 1) := by decide +kernel
theorem dX10_blockOf_155 : decode cX10_blockOf 155 = .ok (.invokevirtual 172, 3) := by decide +kernel
theorem dX10_blockOf_158 : decode cX10_blockOf 158 = .ok (.goto 5, 3) := by decide +kernel
theorem dX10_blockOf_161 : decode cX10_blockOf 161 = .ok (.bipush (-2), 2) := by decide +kernel
theorem dX10_blockOf_163 : decode cX10_blockOf 163 = .ok (.ireturn, 1) := by decide +kernel
theorem dX10_treeOf_0 : decode cX10_treeOf 0 = .ok (.aload_n 0, 1) := by decide +kernel
theorem dX10_treeOf_1 : decode cX10_treeOf 1 = .ok (.getfield 10, 3) := by decide +kernel
theorem dX10_treeOf_4 : decode cX10_treeOf 4 = .ok (.getfield 58, 3) := by decide +kernel
theorem dX10_treeOf_7 : decode cX10_treeOf 7 = .ok (.iload_n 1, 1) := by decide +kernel
theorem dX10_treeOf_8 : decode cX10_treeOf 8 = .ok (.invokevirtual 143, 3) := by decide +kernel
theorem dX10_treeOf_11 : decode cX10_treeOf 11 = .ok (.ifCond .ne 5, 3) := by decide +kernel
theorem dX10_treeOf_14 : decode cX10_treeOf 14 = .ok (.iconst (-1), 1) := by decide +kernel
theorem dX10_treeOf_15 : decode cX10_treeOf 15 = .ok (.ireturn, 1) := by decide +kernel
theorem dX10_treeOf_16 : decode cX10_treeOf 16 = .ok (.iload_n 2, 1) := by decide +kernel
theorem dX10_treeOf_17 : decode cX10_treeOf 17 = .ok (.tableswitch 150 0 6 #[43, 60, 77, 94, 111, 125, 139], 43) := by decide +kernel
theorem dX10_treeOf_60 : decode cX10_treeOf 60 = .ok (.aload_n 0, 1) := by decide +kernel
theorem dX10_treeOf_61 : decode cX10_treeOf 61 = .ok (.getfield 10, 3) := by decide +kernel
theorem dX10_treeOf_64 : decode cX10_treeOf 64 = .ok (.getfield 177, 3) := by decide +kernel
theorem dX10_treeOf_67 : decode cX10_treeOf 67 = .ok (.iload_n 1, 1) := by decide +kernel
theorem dX10_treeOf_68 : decode cX10_treeOf 68 = .ok (.invokevirtual 181, 3) := by decide +kernel
theorem dX10_treeOf_71 : decode cX10_treeOf 71 = .ok (.invokestatic 153, 3) := by decide +kernel
theorem dX10_treeOf_74 : decode cX10_treeOf 74 = .ok (.goto 95, 3) := by decide +kernel
theorem dX10_treeOf_77 : decode cX10_treeOf 77 = .ok (.aload_n 0, 1) := by decide +kernel
theorem dX10_treeOf_78 : decode cX10_treeOf 78 = .ok (.getfield 10, 3) := by decide +kernel
theorem dX10_treeOf_81 : decode cX10_treeOf 81 = .ok (.getfield 177, 3) := by decide +kernel
theorem dX10_treeOf_84 : decode cX10_treeOf 84 = .ok (.iload_n 1, 1) := by decide +kernel
theorem dX10_treeOf_85 : decode cX10_treeOf 85 = .ok (.invokevirtual 186, 3) := by decide +kernel
theorem dX10_treeOf_88 : decode cX10_treeOf 88 = .ok (.invokestatic 153, 3) := by decide +kernel
theorem dX10_treeOf_91 : decode cX10_treeOf 91 = .ok (.goto 78, 3) := by decide +kernel
theorem dX10_treeOf_94 : decode cX10_treeOf 94 = .ok (.aload_n 0, 1) := by decide +kernel
theorem dX10_treeOf_95 : decode cX10_treeOf 95 = .ok (.getfield 10, 3) := by decide +kernel
theorem dX10_treeOf_98 : decode cX10_treeOf 98 = .ok (.getfield 177, 3) := by decide +kernel
theorem dX10_treeOf_101 : decode cX10_treeOf 101 = .ok (.iload_n 1, 1) := by decide +kernel
theorem dX10_treeOf_102 : decode cX10_treeOf 102 = .ok (.invokevirtual 189, 3) := by decide +kernel
theorem dX10_treeOf_105 : decode cX10_treeOf 105 = .ok (.invokestatic 153, 3) := by decide +kernel
theorem dX10_treeOf_108 : decode cX10_treeOf 108 = .ok (.goto 61, 3) := by decide +kernel
theorem dX10_treeOf_111 : decode cX10_treeOf 111 = .ok (.aload_n 0, 1) := by decide +kernel
theorem dX10_treeOf_112 : decode cX10_treeOf 112 = .ok (.getfield 10, 3) := by decide +kernel
theorem dX10_treeOf_115 : decode cX10_treeOf 115 = .ok (.getfield 177, 3) := by decide +kernel
theorem dX10_treeOf_118 : decode cX10_treeOf 118 = .ok (.iload_n 1, 1) := by decide +kernel
theorem dX10_treeOf_119 : decode cX10_treeOf 119 = .ok (.invokevirtual 192, 3) := by decide +kernel
theorem dX10_treeOf_122 : decode cX10_treeOf 122 = .ok (.invokestatic 153, 3) := by decide +kernel
theorem dX10_treeOf_125 : decode cX10_treeOf 125 = .ok (.goto 44, 3) := by decide +kernel
theorem dX10_treeOf_128 : decode cX10_treeOf 128 = .ok (.aload_n 0, 1) := by decide +kernel
theorem dX10_treeOf_129 : decode cX10_treeOf 129 = .ok (.getfield 10, 3) := by decide +kernel
theorem dX10_treeOf_132 : decode cX10_treeOf 132 = .ok (.getfield 177, 3) := by decide +kernel
theorem dX10_treeOf_135 : decode cX10_treeOf 135 = .ok (.iload_n 1, 1) := by decide +kernel
theorem dX10_treeOf_136 : decode cX10_treeOf 136 = .ok (.invokevirtual 195, 3) := by decide +kernel
theorem dX10_treeOf_139 : decode cX10_treeOf 139 = .ok (.goto 30, 3) := by decide +kernel
theorem dX10_treeOf_142 : decode cX10_treeOf 142 = .ok (.aload_n 0, 1) := by decide +kernel
theorem dX10_treeOf_143 : decode cX10_treeOf 143 = .ok (.getfield 10, 3) := by decide +kernel
theorem dX10_treeOf_146 : decode cX10_treeOf 146 = .ok (.getfield 177, 3) := by decide +kernel
theorem dX10_treeOf_149 : decode cX10_treeOf 149 = .ok (.iload_n 1, 1) := by decide +kernel
theorem dX10_treeOf_150 : decode cX10_treeOf 150 = .ok (.invokevirtual 198, 3) := by decide +kernel
theorem dX10_treeOf_153 : decode cX10_treeOf 153 = .ok (.goto 16, 3) := by decide +kernel
theorem dX10_treeOf_156 : decode cX10_treeOf 156 = .ok (.aload_n 0, 1) := by decide +kernel
theorem dX10_treeOf_157 : decode cX10_treeOf 157 = .ok (.getfield 10, 3) := by decide +kernel
theorem dX10_treeOf_160 : decode cX10_treeOf 160 = .ok (.iload_n 1, 1) := by decide +kernel
theorem dX10_treeOf_161 : decode cX10_treeOf 161 = .ok (.invokevirtual 201, 3) := by decide +kernel
theorem dX10_treeOf_164 : decode cX10_treeOf 164 = .ok (.goto 5, 3) := by decide +kernel
theorem dX10_treeOf_167 : decode cX10_treeOf 167 = .ok (.bipush (-2), 2) := by decide +kernel
theorem dX10_treeOf_169 : decode cX10_treeOf 169 = .ok (.ireturn, 1) := by decide +kernel
theorem dX10_ropeOf_0 : decode cX10_ropeOf 0 = .ok (.aload_n 0, 1) := by decide +kernel
theorem dX10_ropeOf_1 : decode cX10_ropeOf 1 = .ok (.getfield 10, 3) := by decide +kernel
theorem dX10_ropeOf_4 : decode cX10_ropeOf 4 = .ok (.getfield 58, 3) := by decide +kernel
theorem dX10_ropeOf_7 : decode cX10_ropeOf 7 = .ok (.iload_n 1, 1) := by decide +kernel
theorem dX10_ropeOf_8 : decode cX10_ropeOf 8 = .ok (.invokevirtual 143, 3) := by decide +kernel
theorem dX10_ropeOf_11 : decode cX10_ropeOf 11 = .ok (.ifCond .eq 18, 3) := by decide +kernel
theorem dX10_ropeOf_14 : decode cX10_ropeOf 14 = .ok (.aload_n 0, 1) := by decide +kernel
theorem dX10_ropeOf_15 : decode cX10_ropeOf 15 = .ok (.getfield 10, 3) := by decide +kernel
theorem dX10_ropeOf_18 : decode cX10_ropeOf 18 = .ok (.getfield 177, 3) := by decide +kernel
theorem dX10_ropeOf_21 : decode cX10_ropeOf 21 = .ok (.iload_n 1, 1) := by decide +kernel
theorem dX10_ropeOf_22 : decode cX10_ropeOf 22 = .ok (.iload_n 2, 1) := by decide +kernel
theorem dX10_ropeOf_23 : decode cX10_ropeOf 23 = .ok (.invokevirtual 204, 3) := by decide +kernel
theorem dX10_ropeOf_26 : decode cX10_ropeOf 26 = .ok (.goto 4, 3) := by decide +kernel
theorem dX10_ropeOf_29 : decode cX10_ropeOf 29 = .ok (.iconst (-1), 1) := by decide +kernel
theorem dX10_ropeOf_30 : decode cX10_ropeOf 30 = .ok (.ireturn, 1) := by decide +kernel
theorem dX10_placeOf_0 : decode cX10_placeOf 0 = .ok (.aload_n 0, 1) := by decide +kernel
theorem dX10_placeOf_1 : decode cX10_placeOf 1 = .ok (.getfield 10, 3) := by decide +kernel
theorem dX10_placeOf_4 : decode cX10_placeOf 4 = .ok (.getfield 58, 3) := by decide +kernel
theorem dX10_placeOf_7 : decode cX10_placeOf 7 = .ok (.iload_n 1, 1) := by decide +kernel
theorem dX10_placeOf_8 : decode cX10_placeOf 8 = .ok (.invokevirtual 143, 3) := by decide +kernel
theorem dX10_placeOf_11 : decode cX10_placeOf 11 = .ok (.ifCond .eq 17, 3) := by decide +kernel
theorem dX10_placeOf_14 : decode cX10_placeOf 14 = .ok (.aload_n 0, 1) := by decide +kernel
theorem dX10_placeOf_15 : decode cX10_placeOf 15 = .ok (.getfield 10, 3) := by decide +kernel
theorem dX10_placeOf_18 : decode cX10_placeOf 18 = .ok (.getfield 177, 3) := by decide +kernel
theorem dX10_placeOf_21 : decode cX10_placeOf 21 = .ok (.iload_n 1, 1) := by decide +kernel
theorem dX10_placeOf_22 : decode cX10_placeOf 22 = .ok (.invokevirtual 207, 3) := by decide +kernel
theorem dX10_placeOf_25 : decode cX10_placeOf 25 = .ok (.goto 4, 3) := by decide +kernel
theorem dX10_placeOf_28 : decode cX10_placeOf 28 = .ok (.iconst (-1), 1) := by decide +kernel
theorem dX10_placeOf_29 : decode cX10_placeOf 29 = .ok (.ireturn, 1) := by decide +kernel
theorem dX10_ropes_0 : decode cX10_ropes 0 = .ok (.aload_n 0, 1) := by decide +kernel
theorem dX10_ropes_1 : decode cX10_ropes 1 = .ok (.getfield 10, 3) := by decide +kernel
theorem dX10_ropes_4 : decode cX10_ropes 4 = .ok (.invokevirtual 210, 3) := by decide +kernel
theorem dX10_ropes_7 : decode cX10_ropes 7 = .ok (.ireturn, 1) := by decide +kernel
theorem dX10_ropesAbove_0 : decode cX10_ropesAbove 0 = .ok (.aload_n 0, 1) := by decide +kernel
theorem dX10_ropesAbove_1 : decode cX10_ropesAbove 1 = .ok (.getfield 10, 3) := by decide +kernel
theorem dX10_ropesAbove_4 : decode cX10_ropesAbove 4 = .ok (.getfield 58, 3) := by decide +kernel
theorem dX10_ropesAbove_7 : decode cX10_ropesAbove 7 = .ok (.iload_n 1, 1) := by decide +kernel
theorem dX10_ropesAbove_8 : decode cX10_ropesAbove 8 = .ok (.invokevirtual 143, 3) := by decide +kernel
theorem dX10_ropesAbove_11 : decode cX10_ropesAbove 11 = .ok (.ifCond .eq 14, 3) := by decide +kernel
theorem dX10_ropesAbove_14 : decode cX10_ropesAbove 14 = .ok (.aload_n 0, 1) := by decide +kernel
theorem dX10_ropesAbove_15 : decode cX10_ropesAbove 15 = .ok (.getfield 10, 3) := by decide +kernel
theorem dX10_ropesAbove_18 : decode cX10_ropesAbove 18 = .ok (.iload_n 1, 1) := by decide +kernel
theorem dX10_ropesAbove_19 : decode cX10_ropesAbove 19 = .ok (.invokevirtual 214, 3) := by decide +kernel
theorem dX10_ropesAbove_22 : decode cX10_ropesAbove 22 = .ok (.goto 4, 3) := by decide +kernel
theorem dX10_ropesAbove_25 : decode cX10_ropesAbove 25 = .ok (.iconst (-1), 1) := by decide +kernel
theorem dX10_ropesAbove_26 : decode cX10_ropesAbove 26 = .ok (.ireturn, 1) := by decide +kernel
theorem dX10_turnsFor_0 : decode cX10_turnsFor 0 = .ok (.aload_n 0, 1) := by decide +kernel
theorem dX10_turnsFor_1 : decode cX10_turnsFor 1 = .ok (.getfield 10, 3) := by decide +kernel
theorem dX10_turnsFor_4 : decode cX10_turnsFor 4 = .ok (.getfield 58, 3) := by decide +kernel
theorem dX10_turnsFor_7 : decode cX10_turnsFor 7 = .ok (.iload_n 1, 1) := by decide +kernel
theorem dX10_turnsFor_8 : decode cX10_turnsFor 8 = .ok (.invokevirtual 143, 3) := by decide +kernel
theorem dX10_turnsFor_11 : decode cX10_turnsFor 11 = .ok (.ifCond .ne 5, 3) := by decide +kernel
theorem dX10_turnsFor_14 : decode cX10_turnsFor 14 = .ok (.iconst (-1), 1) := by decide +kernel
theorem dX10_turnsFor_15 : decode cX10_turnsFor 15 = .ok (.ireturn, 1) := by decide +kernel
theorem dX10_turnsFor_16 : decode cX10_turnsFor 16 = .ok (.aload_n 0, 1) := by decide +kernel
theorem dX10_turnsFor_17 : decode cX10_turnsFor 17 = .ok (.getfield 19, 3) := by decide +kernel
theorem dX10_turnsFor_20 : decode cX10_turnsFor 20 = .ok (.aload_n 0, 1) := by decide +kernel
theorem dX10_turnsFor_21 : decode cX10_turnsFor 21 = .ok (.getfield 10, 3) := by decide +kernel
theorem dX10_turnsFor_24 : decode cX10_turnsFor 24 = .ok (.invokevirtual 217, 3) := by decide +kernel
theorem dX10_turnsFor_27 : decode cX10_turnsFor 27 = .ok (.aload_n 0, 1) := by decide +kernel
theorem dX10_turnsFor_28 : decode cX10_turnsFor 28 = .ok (.getfield 19, 3) := by decide +kernel
theorem dX10_turnsFor_31 : decode cX10_turnsFor 31 = .ok (.iload_n 1, 1) := by decide +kernel
theorem dX10_turnsFor_32 : decode cX10_turnsFor 32 = .ok (.invokevirtual 220, 3) := by decide +kernel
theorem dX10_turnsFor_35 : decode cX10_turnsFor 35 = .ok (.aload_n 0, 1) := by decide +kernel
theorem dX10_turnsFor_36 : decode cX10_turnsFor 36 = .ok (.getfield 19, 3) := by decide +kernel
theorem dX10_turnsFor_39 : decode cX10_turnsFor 39 = .ok (.getfield 177, 3) := by decide +kernel
theorem dX10_turnsFor_42 : decode cX10_turnsFor 42 = .ok (.getfield 224, 3) := by decide +kernel
theorem dX10_turnsFor_45 : decode cX10_turnsFor 45 = .ok (.aload_n 0, 1) := by decide +kernel
theorem dX10_turnsFor_46 : decode cX10_turnsFor 46 = .ok (.getfield 10, 3) := by decide +kernel
theorem dX10_turnsFor_49 : decode cX10_turnsFor 49 = .ok (.getfield 177, 3) := by decide +kernel
theorem dX10_turnsFor_52 : decode cX10_turnsFor 52 = .ok (.getfield 224, 3) := by decide +kernel
theorem dX10_turnsFor_55 : decode cX10_turnsFor 55 = .ok (.isub, 1) := by decide +kernel
theorem dX10_turnsFor_56 : decode cX10_turnsFor 56 = .ok (.ireturn, 1) := by decide +kernel
theorem dX10_sum_0 : decode cX10_sum 0 = .ok (.aload_n 0, 1) := by decide +kernel
theorem dX10_sum_1 : decode cX10_sum 1 = .ok (.getfield 10, 3) := by decide +kernel
theorem dX10_sum_4 : decode cX10_sum 4 = .ok (.getfield 58, 3) := by decide +kernel
theorem dX10_sum_7 : decode cX10_sum 7 = .ok (.iload_n 1, 1) := by decide +kernel
theorem dX10_sum_8 : decode cX10_sum 8 = .ok (.invokevirtual 143, 3) := by decide +kernel
theorem dX10_sum_11 : decode cX10_sum 11 = .ok (.ifCond .eq 14, 3) := by decide +kernel
theorem dX10_sum_14 : decode cX10_sum 14 = .ok (.aload_n 0, 1) := by decide +kernel
theorem dX10_sum_15 : decode cX10_sum 15 = .ok (.getfield 10, 3) := by decide +kernel
theorem dX10_sum_18 : decode cX10_sum 18 = .ok (.iload_n 1, 1) := by decide +kernel
theorem dX10_sum_19 : decode cX10_sum 19 = .ok (.invokevirtual 227, 3) := by decide +kernel
theorem dX10_sum_22 : decode cX10_sum 22 = .ok (.goto 4, 3) := by decide +kernel
theorem dX10_sum_25 : decode cX10_sum 25 = .ok (.iconst (-1), 1) := by decide +kernel
theorem dX10_sum_26 : decode cX10_sum 26 = .ok (.ireturn, 1) := by decide +kernel
theorem dX10_sumAgain_0 : decode cX10_sumAgain 0 = .ok (.aload_n 0, 1) := by decide +kernel
theorem dX10_sumAgain_1 : decode cX10_sumAgain 1 = .ok (.getfield 10, 3) := by decide +kernel
theorem dX10_sumAgain_4 : decode cX10_sumAgain 4 = .ok (.getfield 58, 3) := by decide +kernel
theorem dX10_sumAgain_7 : decode cX10_sumAgain 7 = .ok (.iload_n 1, 1) := by decide +kernel
theorem dX10_sumAgain_8 : decode cX10_sumAgain 8 = .ok (.invokevirtual 143, 3) := by decide +kernel
theorem dX10_sumAgain_11 : decode cX10_sumAgain 11 = .ok (.ifCond .eq 17, 3) := by decide +kernel
theorem dX10_sumAgain_14 : decode cX10_sumAgain 14 = .ok (.aload_n 0, 1) := by decide +kernel
theorem dX10_sumAgain_15 : decode cX10_sumAgain 15 = .ok (.getfield 10, 3) := by decide +kernel
theorem dX10_sumAgain_18 : decode cX10_sumAgain 18 = .ok (.getfield 58, 3) := by decide +kernel
theorem dX10_sumAgain_21 : decode cX10_sumAgain 21 = .ok (.iload_n 1, 1) := by decide +kernel
theorem dX10_sumAgain_22 : decode cX10_sumAgain 22 = .ok (.invokevirtual 230, 3) := by decide +kernel
theorem dX10_sumAgain_25 : decode cX10_sumAgain 25 = .ok (.goto 4, 3) := by decide +kernel
theorem dX10_sumAgain_28 : decode cX10_sumAgain 28 = .ok (.iconst (-1), 1) := by decide +kernel
theorem dX10_sumAgain_29 : decode cX10_sumAgain 29 = .ok (.ireturn, 1) := by decide +kernel
theorem dX10_root_0 : decode cX10_root 0 = .ok (.aload_n 0, 1) := by decide +kernel
theorem dX10_root_1 : decode cX10_root 1 = .ok (.getfield 10, 3) := by decide +kernel
theorem dX10_root_4 : decode cX10_root 4 = .ok (.getfield 58, 3) := by decide +kernel
theorem dX10_root_7 : decode cX10_root 7 = .ok (.iload_n 1, 1) := by decide +kernel
theorem dX10_root_8 : decode cX10_root 8 = .ok (.invokevirtual 143, 3) := by decide +kernel
theorem dX10_root_11 : decode cX10_root 11 = .ok (.ifCond .eq 14, 3) := by decide +kernel
theorem dX10_root_14 : decode cX10_root 14 = .ok (.aload_n 0, 1) := by decide +kernel
theorem dX10_root_15 : decode cX10_root 15 = .ok (.getfield 10, 3) := by decide +kernel
theorem dX10_root_18 : decode cX10_root 18 = .ok (.iload_n 1, 1) := by decide +kernel
theorem dX10_root_19 : decode cX10_root 19 = .ok (.invokevirtual 233, 3) := by decide +kernel
theorem dX10_root_22 : decode cX10_root 22 = .ok (.goto 4, 3) := by decide +kernel
theorem dX10_root_25 : decode cX10_root 25 = .ok (.iconst (-1), 1) := by decide +kernel
theorem dX10_root_26 : decode cX10_root 26 = .ok (.ireturn, 1) := by decide +kernel
theorem dX10_rootAgain_0 : decode cX10_rootAgain 0 = .ok (.aload_n 0, 1) := by decide +kernel
theorem dX10_rootAgain_1 : decode cX10_rootAgain 1 = .ok (.getfield 10, 3) := by decide +kernel
theorem dX10_rootAgain_4 : decode cX10_rootAgain 4 = .ok (.getfield 58, 3) := by decide +kernel
theorem dX10_rootAgain_7 : decode cX10_rootAgain 7 = .ok (.iload_n 1, 1) := by decide +kernel
theorem dX10_rootAgain_8 : decode cX10_rootAgain 8 = .ok (.invokevirtual 143, 3) := by decide +kernel
theorem dX10_rootAgain_11 : decode cX10_rootAgain 11 = .ok (.ifCond .eq 17, 3) := by decide +kernel
theorem dX10_rootAgain_14 : decode cX10_rootAgain 14 = .ok (.aload_n 0, 1) := by decide +kernel
theorem dX10_rootAgain_15 : decode cX10_rootAgain 15 = .ok (.getfield 10, 3) := by decide +kernel
theorem dX10_rootAgain_18 : decode cX10_rootAgain 18 = .ok (.getfield 58, 3) := by decide +kernel
theorem dX10_rootAgain_21 : decode cX10_rootAgain 21 = .ok (.iload_n 1, 1) := by decide +kernel
theorem dX10_rootAgain_22 : decode cX10_rootAgain 22 = .ok (.invokevirtual 236, 3) := by decide +kernel
theorem dX10_rootAgain_25 : decode cX10_rootAgain 25 = .ok (.goto 4, 3) := by decide +kernel
theorem dX10_rootAgain_28 : decode cX10_rootAgain 28 = .ok (.iconst (-1), 1) := by decide +kernel
theorem dX10_rootAgain_29 : decode cX10_rootAgain 29 = .ok (.ireturn, 1) := by decide +kernel
theorem dX10_joint_0 : decode cX10_joint 0 = .ok (.aload_n 0, 1) := by decide +kernel
theorem dX10_joint_1 : decode cX10_joint 1 = .ok (.getfield 10, 3) := by decide +kernel
theorem dX10_joint_4 : decode cX10_joint 4 = .ok (.getfield 58, 3) := by decide +kernel
theorem dX10_joint_7 : decode cX10_joint 7 = .ok (.iload_n 1, 1) := by decide +kernel
theorem dX10_joint_8 : decode cX10_joint 8 = .ok (.invokevirtual 143, 3) := by decide +kernel
theorem dX10_joint_11 : decode cX10_joint 11 = .ok (.ifCond .eq 21, 3) := by decide +kernel
theorem dX10_joint_14 : decode cX10_joint 14 = .ok (.aload_n 0, 1) := by decide +kernel
theorem dX10_joint_15 : decode cX10_joint 15 = .ok (.getfield 10, 3) := by decide +kernel
theorem dX10_joint_18 : decode cX10_joint 18 = .ok (.getfield 58, 3) := by decide +kernel
theorem dX10_joint_21 : decode cX10_joint 21 = .ok (.iload_n 2, 1) := by decide +kernel
theorem dX10_joint_22 : decode cX10_joint 22 = .ok (.invokevirtual 143, 3) := by decide +kernel
theorem dX10_joint_25 : decode cX10_joint 25 = .ok (.ifCond .eq 7, 3) := by decide +kernel
theorem dX10_joint_28 : decode cX10_joint 28 = .ok (.iconst 1, 1) := by decide +kernel
theorem dX10_joint_29 : decode cX10_joint 29 = .ok (.goto 4, 3) := by decide +kernel
theorem dX10_joint_32 : decode cX10_joint 32 = .ok (.iconst 0, 1) := by decide +kernel
theorem dX10_joint_33 : decode cX10_joint 33 = .ok (.istore_n 3, 1) := by decide +kernel
theorem dX10_joint_34 : decode cX10_joint 34 = .ok (.iload_n 3, 1) := by decide +kernel
theorem dX10_joint_35 : decode cX10_joint 35 = .ok (.ifCond .eq 15, 3) := by decide +kernel
theorem dX10_joint_38 : decode cX10_joint 38 = .ok (.aload_n 0, 1) := by decide +kernel
theorem dX10_joint_39 : decode cX10_joint 39 = .ok (.getfield 10, 3) := by decide +kernel
theorem dX10_joint_42 : decode cX10_joint 42 = .ok (.iload_n 1, 1) := by decide +kernel
theorem dX10_joint_43 : decode cX10_joint 43 = .ok (.iload_n 2, 1) := by decide +kernel
theorem dX10_joint_44 : decode cX10_joint 44 = .ok (.invokevirtual 239, 3) := by decide +kernel
theorem dX10_joint_47 : decode cX10_joint 47 = .ok (.goto 4, 3) := by decide +kernel
theorem dX10_joint_50 : decode cX10_joint 50 = .ok (.iconst (-1), 1) := by decide +kernel
theorem dX10_joint_51 : decode cX10_joint 51 = .ok (.ireturn, 1) := by decide +kernel
theorem dX10_jointAgain_0 : decode cX10_jointAgain 0 = .ok (.aload_n 0, 1) := by decide +kernel
theorem dX10_jointAgain_1 : decode cX10_jointAgain 1 = .ok (.getfield 10, 3) := by decide +kernel
theorem dX10_jointAgain_4 : decode cX10_jointAgain 4 = .ok (.getfield 58, 3) := by decide +kernel
theorem dX10_jointAgain_7 : decode cX10_jointAgain 7 = .ok (.iload_n 1, 1) := by decide +kernel
theorem dX10_jointAgain_8 : decode cX10_jointAgain 8 = .ok (.invokevirtual 143, 3) := by decide +kernel
theorem dX10_jointAgain_11 : decode cX10_jointAgain 11 = .ok (.ifCond .eq 21, 3) := by decide +kernel
theorem dX10_jointAgain_14 : decode cX10_jointAgain 14 = .ok (.aload_n 0, 1) := by decide +kernel
theorem dX10_jointAgain_15 : decode cX10_jointAgain 15 = .ok (.getfield 10, 3) := by decide +kernel
theorem dX10_jointAgain_18 : decode cX10_jointAgain 18 = .ok (.getfield 58, 3) := by decide +kernel
theorem dX10_jointAgain_21 : decode cX10_jointAgain 21 = .ok (.iload_n 2, 1) := by decide +kernel
theorem dX10_jointAgain_22 : decode cX10_jointAgain 22 = .ok (.invokevirtual 143, 3) := by decide +kernel
theorem dX10_jointAgain_25 : decode cX10_jointAgain 25 = .ok (.ifCond .eq 7, 3) := by decide +kernel
theorem dX10_jointAgain_28 : decode cX10_jointAgain 28 = .ok (.iconst 1, 1) := by decide +kernel
theorem dX10_jointAgain_29 : decode cX10_jointAgain 29 = .ok (.goto 4, 3) := by decide +kernel
theorem dX10_jointAgain_32 : decode cX10_jointAgain 32 = .ok (.iconst 0, 1) := by decide +kernel
theorem dX10_jointAgain_33 : decode cX10_jointAgain 33 = .ok (.istore_n 3, 1) := by decide +kernel
theorem dX10_jointAgain_34 : decode cX10_jointAgain 34 = .ok (.iload_n 3, 1) := by decide +kernel
theorem dX10_jointAgain_35 : decode cX10_jointAgain 35 = .ok (.ifCond .eq 18, 3) := by decide +kernel
theorem dX10_jointAgain_38 : decode cX10_jointAgain 38 = .ok (.aload_n 0, 1) := by decide +kernel
theorem dX10_jointAgain_39 : decode cX10_jointAgain 39 = .ok (.getfield 10, 3) := by decide +kernel
theorem dX10_jointAgain_42 : decode cX10_jointAgain 42 = .ok (.getfield 58, 3) := by decide +kernel
theorem dX10_jointAgain_45 : decode cX10_jointAgain 45 = .ok (.iload_n 1, 1) := by decide +kernel
theorem dX10_jointAgain_46 : decode cX10_jointAgain 46 = .ok (.iload_n 2, 1) := by decide +kernel
theorem dX10_jointAgain_47 : decode cX10_jointAgain 47 = .ok (.invokevirtual 242, 3) := by decide +kernel
theorem dX10_jointAgain_50 : decode cX10_jointAgain 50 = .ok (.goto 4, 3) := by decide +kernel
theorem dX10_jointAgain_53 : decode cX10_jointAgain 53 = .ok (.iconst (-1), 1) := by decide +kernel
theorem dX10_jointAgain_54 : decode cX10_jointAgain 54 = .ok (.ireturn, 1) := by decide +kernel
theorem dX10_sledgeOf_0 : decode cX10_sledgeOf 0 = .ok (.aload_n 0, 1) := by decide +kernel
theorem dX10_sledgeOf_1 : decode cX10_sledgeOf 1 = .ok (.getfield 10, 3) := by decide +kernel
theorem dX10_sledgeOf_4 : decode cX10_sledgeOf 4 = .ok (.getfield 168, 3) := by decide +kernel
theorem dX10_sledgeOf_7 : decode cX10_sledgeOf 7 = .ok (.iload_n 1, 1) := by decide +kernel
theorem dX10_sledgeOf_8 : decode cX10_sledgeOf 8 = .ok (.iload_n 2, 1) := by decide +kernel
theorem dX10_sledgeOf_9 : decode cX10_sledgeOf 9 = .ok (.invokevirtual 245, 3) := by decide +kernel
theorem dX10_sledgeOf_12 : decode cX10_sledgeOf 12 = .ok (.ireturn, 1) := by decide +kernel
theorem dX10_ranked_0 : decode cX10_ranked 0 = .ok (.aload_n 0, 1) := by decide +kernel
theorem dX10_ranked_1 : decode cX10_ranked 1 = .ok (.getfield 10, 3) := by decide +kernel
theorem dX10_ranked_4 : decode cX10_ranked 4 = .ok (.getfield 58, 3) := by decide +kernel
theorem dX10_ranked_7 : decode cX10_ranked 7 = .ok (.iload_n 1, 1) := by decide +kernel
theorem dX10_ranked_8 : decode cX10_ranked 8 = .ok (.invokevirtual 247, 3) := by decide +kernel
theorem dX10_ranked_11 : decode cX10_ranked 11 = .ok (.ireturn, 1) := by decide +kernel
theorem dX10_tellTree_0 : decode cX10_tellTree 0 = .ok (.aload_n 0, 1) := by decide +kernel
theorem dX10_tellTree_1 : decode cX10_tellTree 1 = .ok (.getfield 10, 3) := by decide +kernel
theorem dX10_tellTree_4 : decode cX10_tellTree 4 = .ok (.getfield 58, 3) := by decide +kernel
theorem dX10_tellTree_7 : decode cX10_tellTree 7 = .ok (.iload_n 1, 1) := by decide +kernel
theorem dX10_tellTree_8 : decode cX10_tellTree 8 = .ok (.invokevirtual 143, 3) := by decide +kernel
theorem dX10_tellTree_11 : decode cX10_tellTree 11 = .ok (.ifCond .ne 5, 3) := by decide +kernel
theorem dX10_tellTree_14 : decode cX10_tellTree 14 = .ok (.iconst (-1), 1) := by decide +kernel
theorem dX10_tellTree_15 : decode cX10_tellTree 15 = .ok (.ireturn, 1) := by decide +kernel
theorem dX10_tellTree_16 : decode cX10_tellTree 16 = .ok (.aload_n 0, 1) := by decide +kernel
theorem dX10_tellTree_17 : decode cX10_tellTree 17 = .ok (.getfield 39, 3) := by decide +kernel
theorem dX10_tellTree_20 : decode cX10_tellTree 20 = .ok (.invokevirtual 250, 3) := by decide +kernel
theorem dX10_tellTree_23 : decode cX10_tellTree 23 = .ok (.aload_n 0, 1) := by decide +kernel
theorem dX10_tellTree_24 : decode cX10_tellTree 24 = .ok (.getfield 39, 3) := by decide +kernel
theorem dX10_tellTree_27 : decode cX10_tellTree 27 = .ok (.aload_n 0, 1) := by decide +kernel
theorem dX10_tellTree_28 : decode cX10_tellTree 28 = .ok (.getfield 10, 3) := by decide +kernel
theorem dX10_tellTree_31 : decode cX10_tellTree 31 = .ok (.getfield 177, 3) := by decide +kernel
theorem dX10_tellTree_34 : decode cX10_tellTree 34 = .ok (.aload_n 0, 1) := by decide +kernel
theorem dX10_tellTree_35 : decode cX10_tellTree 35 = .ok (.getfield 10, 3) := by decide +kernel
theorem dX10_tellTree_38 : decode cX10_tellTree 38 = .ok (.getfield 177, 3) := by decide +kernel
theorem dX10_tellTree_41 : decode cX10_tellTree 41 = .ok (.iload_n 1, 1) := by decide +kernel
theorem dX10_tellTree_42 : decode cX10_tellTree 42 = .ok (.invokevirtual 192, 3) := by decide +kernel
theorem dX10_tellTree_45 : decode cX10_tellTree 45 = .ok (.iconst 0, 1) := by decide +kernel
theorem dX10_tellTree_46 : decode cX10_tellTree 46 = .ok (.invokestatic 251, 3) := by decide +kernel
theorem dX10_tellTree_49 : decode cX10_tellTree 49 = .ok (.aload_n 0, 1) := by decide +kernel
theorem dX10_tellTree_50 : decode cX10_tellTree 50 = .ok (.getfield 39, 3) := by decide +kernel
theorem dX10_tellTree_53 : decode cX10_tellTree 53 = .ok (.getfield 255, 3) := by decide +kernel
theorem dX10_tellTree_56 : decode cX10_tellTree 56 = .ok (.ireturn, 1) := by decide +kernel
theorem dX10_tellRopes_0 : decode cX10_tellRopes 0 = .ok (.aload_n 0, 1) := by decide +kernel
theorem dX10_tellRopes_1 : decode cX10_tellRopes 1 = .ok (.getfield 39, 3) := by decide +kernel
theorem dX10_tellRopes_4 : decode cX10_tellRopes 4 = .ok (.invokevirtual 250, 3) := by decide +kernel
theorem dX10_tellRopes_7 : decode cX10_tellRopes 7 = .ok (.iconst 0, 1) := by decide +kernel
theorem dX10_tellRopes_8 : decode cX10_tellRopes 8 = .ok (.istore_n 1, 1) := by decide +kernel
theorem dX10_tellRopes_9 : decode cX10_tellRopes 9 = .ok (.iload_n 1, 1) := by decide +kernel
theorem dX10_tellRopes_10 : decode cX10_tellRopes 10 = .ok (.aload_n 0, 1) := by decide +kernel
theorem dX10_tellRopes_11 : decode cX10_tellRopes 11 = .ok (.getfield 10, 3) := by decide +kernel
theorem dX10_tellRopes_14 : decode cX10_tellRopes 14 = .ok (.getfield 58, 3) := by decide +kernel
theorem dX10_tellRopes_17 : decode cX10_tellRopes 17 = .ok (.getfield 62, 3) := by decide +kernel
theorem dX10_tellRopes_20 : decode cX10_tellRopes 20 = .ok (.if_icmp .ge 48, 3) := by decide +kernel
theorem dX10_tellRopes_23 : decode cX10_tellRopes 23 = .ok (.aload_n 0, 1) := by decide +kernel
theorem dX10_tellRopes_24 : decode cX10_tellRopes 24 = .ok (.getfield 10, 3) := by decide +kernel
theorem dX10_tellRopes_27 : decode cX10_tellRopes 27 = .ok (.getfield 177, 3) := by decide +kernel
theorem dX10_tellRopes_30 : decode cX10_tellRopes 30 = .ok (.iload_n 1, 1) := by decide +kernel
theorem dX10_tellRopes_31 : decode cX10_tellRopes 31 = .ok (.invokevirtual 258, 3) := by decide +kernel
theorem dX10_tellRopes_34 : decode cX10_tellRopes 34 = .ok (.iload_n 1, 1) := by decide +kernel
theorem dX10_tellRopes_35 : decode cX10_tellRopes 35 = .ok (.if_icmp .ne 27, 3) := by decide +kernel
theorem dX10_tellRopes_38 : decode cX10_tellRopes 38 = .ok (.aload_n 0, 1) := by decide +kernel
theorem dX10_tellRopes_39 : decode cX10_tellRopes 39 = .ok (.getfield 39, 3) := by decide +kernel
theorem dX10_tellRopes_42 : decode cX10_tellRopes 42 = .ok (.getfield 255, 3) := by decide +kernel
theorem dX10_tellRopes_45 : decode cX10_tellRopes 45 = .ok (.ifCond .le 12, 3) := by decide +kernel
theorem dX10_tellRopes_48 : decode cX10_tellRopes 48 = .ok (.aload_n 0, 1) := by decide +kernel
theorem dX10_tellRopes_49 : decode cX10_tellRopes 49 = .ok (.getfield 39, 3) := by decide +kernel
theorem dX10_tellRopes_52 : decode cX10_tellRopes 52 = .ok (.bipush 32, 2) := by decide +kernel
theorem dX10_tellRopes_54 : decode cX10_tellRopes 54 = .ok (.invokevirtual 261, 3) := by decide +kernel
theorem dX10_tellRopes_57 : decode cX10_tellRopes 57 = .ok (.aload_n 0, 1) := by decide +kernel
theorem dX10_tellRopes_58 : decode cX10_tellRopes 58 = .ok (.iload_n 1, 1) := by decide +kernel
theorem dX10_tellRopes_59 : decode cX10_tellRopes 59 = .ok (.invokevirtual 265, 3) := by decide +kernel
theorem dX10_tellRopes_62 : decode cX10_tellRopes 62 = .ok (.iinc 1 1, 3) := by decide +kernel
theorem dX10_tellRopes_65 : decode cX10_tellRopes 65 = .ok (.goto (-56), 3) := by decide +kernel
theorem dX10_tellRopes_68 : decode cX10_tellRopes 68 = .ok (.aload_n 0, 1) := by decide +kernel
theorem dX10_tellRopes_69 : decode cX10_tellRopes 69 = .ok (.getfield 39, 3) := by decide +kernel
theorem dX10_tellRopes_72 : decode cX10_tellRopes 72 = .ok (.getfield 255, 3) := by decide +kernel
theorem dX10_tellRopes_75 : decode cX10_tellRopes 75 = .ok (.ireturn, 1) := by decide +kernel
theorem dX10_written_0 : decode cX10_written 0 = .ok (.aload_n 0, 1) := by decide +kernel
theorem dX10_written_1 : decode cX10_written 1 = .ok (.getfield 39, 3) := by decide +kernel
theorem dX10_written_4 : decode cX10_written 4 = .ok (.iload_n 1, 1) := by decide +kernel
theorem dX10_written_5 : decode cX10_written 5 = .ok (.invokevirtual 268, 3) := by decide +kernel
theorem dX10_written_8 : decode cX10_written 8 = .ok (.ireturn, 1) := by decide +kernel
theorem dX10_isWell_0 : decode cX10_isWell 0 = .ok (.aload_n 0, 1) := by decide +kernel
theorem dX10_isWell_1 : decode cX10_isWell 1 = .ok (.getfield 10, 3) := by decide +kernel
theorem dX10_isWell_4 : decode cX10_isWell 4 = .ok (.invokevirtual 271, 3) := by decide +kernel
theorem dX10_isWell_7 : decode cX10_isWell 7 = .ok (.ifCond .eq 17, 3) := by decide +kernel
theorem dX10_isWell_10 : decode cX10_isWell 10 = .ok (.aload_n 0, 1) := by decide +kernel
theorem dX10_isWell_11 : decode cX10_isWell 11 = .ok (.getfield 10, 3) := by decide +kernel
theorem dX10_isWell_14 : decode cX10_isWell 14 = .ok (.invokevirtual 274, 3) := by decide +kernel
theorem dX10_isWell_17 : decode cX10_isWell 17 = .ok (.ifCond .eq 7, 3) := by decide +kernel
theorem dX10_isWell_20 : decode cX10_isWell 20 = .ok (.iconst 1, 1) := by decide +kernel
theorem dX10_isWell_21 : decode cX10_isWell 21 = .ok (.goto 4, 3) := by decide +kernel
theorem dX10_isWell_24 : decode cX10_isWell 24 = .ok (.iconst 0, 1) := by decide +kernel
theorem dX10_isWell_25 : decode cX10_isWell 25 = .ok (.ireturn, 1) := by decide +kernel
theorem dX10_meanDepth_0 : decode cX10_meanDepth 0 = .ok (.aload_n 0, 1) := by decide +kernel
theorem dX10_meanDepth_1 : decode cX10_meanDepth 1 = .ok (.getfield 10, 3) := by decide +kernel
theorem dX10_meanDepth_4 : decode cX10_meanDepth 4 = .ok (.getfield 58, 3) := by decide +kernel
theorem dX10_meanDepth_7 : decode cX10_meanDepth 7 = .ok (.getfield 62, 3) := by decide +kernel
theorem dX10_meanDepth_10 : decode cX10_meanDepth 10 = .ok (.istore_n 1, 1) := by decide +kernel
theorem dX10_meanDepth_11 : decode cX10_meanDepth 11 = .ok (.iload_n 1, 1) := by decide +kernel
theorem dX10_meanDepth_12 : decode cX10_meanDepth 12 = .ok (.ifCond .gt 7, 3) := by decide +kernel
theorem dX10_meanDepth_15 : decode cX10_meanDepth 15 = .ok (.fconst 0, 1) := by decide +kernel
theorem dX10_meanDepth_16 : decode cX10_meanDepth 16 = .ok (.goto 17, 3) := by decide +kernel
theorem dX10_meanDepth_19 : decode cX10_meanDepth 19 = .ok (.aload_n 0, 1) := by decide +kernel
theorem dX10_meanDepth_20 : decode cX10_meanDepth 20 = .ok (.getfield 10, 3) := by decide +kernel
theorem dX10_meanDepth_23 : decode cX10_meanDepth 23 = .ok (.getfield 58, 3) := by decide +kernel
theorem dX10_meanDepth_26 : decode cX10_meanDepth 26 = .ok (.invokevirtual 277, 3) := by decide +kernel
theorem dX10_meanDepth_29 : decode cX10_meanDepth 29 = .ok (.i2f, 1) := by decide +kernel
theorem dX10_meanDepth_30 : decode cX10_meanDepth 30 = .ok (.iload_n 1, 1) := by decide +kernel
theorem dX10_meanDepth_31 : decode cX10_meanDepth 31 = .ok (.i2f, 1) := by decide +kernel
theorem dX10_meanDepth_32 : decode cX10_meanDepth 32 = .ok (.fdiv, 1) := by decide +kernel
theorem dX10_meanDepth_33 : decode cX10_meanDepth 33 = .ok (.freturn, 1) := by decide +kernel
theorem dX10_rootShare_0 : decode cX10_rootShare 0 = .ok (.aload_n 0, 1) := by decide +kernel
theorem dX10_rootShare_1 : decode cX10_rootShare 1 = .ok (.getfield 10, 3) := by decide +kernel
theorem dX10_rootShare_4 : decode cX10_rootShare 4 = .ok (.getfield 58, 3) := by decide +kernel
theorem dX10_rootShare_7 : decode cX10_rootShare 7 = .ok (.getfield 62, 3) := by decide +kernel
theorem dX10_rootShare_10 : decode cX10_rootShare 10 = .ok (.istore_n 1, 1) := by decide +kernel
theorem dX10_rootShare_11 : decode cX10_rootShare 11 = .ok (.iload_n 1, 1) := by decide +kernel
theorem dX10_rootShare_12 : decode cX10_rootShare 12 = .ok (.ifCond .gt 7, 3) := by decide +kernel
theorem dX10_rootShare_15 : decode cX10_rootShare 15 = .ok (.dconst 0, 1) := by decide +kernel
theorem dX10_rootShare_16 : decode cX10_rootShare 16 = .ok (.goto 17, 3) := by decide +kernel
theorem dX10_rootShare_19 : decode cX10_rootShare 19 = .ok (.aload_n 0, 1) := by decide +kernel
theorem dX10_rootShare_20 : decode cX10_rootShare 20 = .ok (.getfield 10, 3) := by decide +kernel
theorem dX10_rootShare_23 : decode cX10_rootShare 23 = .ok (.getfield 58, 3) := by decide +kernel
theorem dX10_rootShare_26 : decode cX10_rootShare 26 = .ok (.invokevirtual 280, 3) := by decide +kernel
theorem dX10_rootShare_29 : decode cX10_rootShare 29 = .ok (.i2d, 1) := by decide +kernel
theorem dX10_rootShare_30 : decode cX10_rootShare 30 = .ok (.iload_n 1, 1) := by decide +kernel
theorem dX10_rootShare_31 : decode cX10_rootShare 31 = .ok (.i2d, 1) := by decide +kernel
theorem dX10_rootShare_32 : decode cX10_rootShare 32 = .ok (.ddiv, 1) := by decide +kernel
theorem dX10_rootShare_33 : decode cX10_rootShare 33 = .ok (.dreturn, 1) := by decide +kernel
theorem dX10_account_0 : decode cX10_account 0 = .ok (.iload_n 1, 1) := by decide +kernel
theorem dX10_account_1 : decode cX10_account 1 = .ok (.tableswitch 218 0 12 #[67, 80, 93, 103, 116, 126, 139, 149, 159, 172, 185, 198, 208], 67) := by decide +kernel
theorem dX10_account_68 : decode cX10_account 68 = .ok (.aload_n 0, 1) := by decide +kernel
theorem dX10_account_69 : decode cX10_account 69 = .ok (.getfield 10, 3) := by decide +kernel
theorem dX10_account_72 : decode cX10_account 72 = .ok (.getfield 58, 3) := by decide +kernel
theorem dX10_account_75 : decode cX10_account 75 = .ok (.getfield 62, 3) := by decide +kernel
theorem dX10_account_78 : decode cX10_account 78 = .ok (.goto 143, 3) := by decide +kernel
theorem dX10_account_81 : decode cX10_account 81 = .ok (.aload_n 0, 1) := by decide +kernel
theorem dX10_account_82 : decode cX10_account 82 = .ok (.getfield 10, 3) := by decide +kernel
theorem dX10_account_85 : decode cX10_account 85 = .ok (.getfield 58, 3) := by decide +kernel
theorem dX10_account_88 : decode cX10_account 88 = .ok (.invokevirtual 280, 3) := by decide +kernel
theorem dX10_account_91 : decode cX10_account 91 = .ok (.goto 130, 3) := by decide +kernel
theorem dX10_account_94 : decode cX10_account 94 = .ok (.aload_n 0, 1) := by decide +kernel
theorem dX10_account_95 : decode cX10_account 95 = .ok (.getfield 10, 3) := by decide +kernel
theorem dX10_account_98 : decode cX10_account 98 = .ok (.invokevirtual 210, 3) := by decide +kernel
theorem dX10_account_101 : decode cX10_account 101 = .ok (.goto 120, 3) := by decide +kernel
theorem dX10_account_104 : decode cX10_account 104 = .ok (.aload_n 0, 1) := by decide +kernel
theorem dX10_account_105 : decode cX10_account 105 = .ok (.getfield 10, 3) := by decide +kernel
theorem dX10_account_108 : decode cX10_account 108 = .ok (.getfield 58, 3) := by decide +kernel
theorem dX10_account_111 : decode cX10_account 111 = .ok (.invokevirtual 283, 3) := by decide +kernel
theorem dX10_account_114 : decode cX10_account 114 = .ok (.goto 107, 3) := by decide +kernel
theorem dX10_account_117 : decode cX10_account 117 = .ok (.aload_n 0, 1) := by decide +kernel
theorem dX10_account_118 : decode cX10_account 118 = .ok (.getfield 10, 3) := by decide +kernel
theorem dX10_account_121 : decode cX10_account 121 = .ok (.getfield 286, 3) := by decide +kernel
theorem dX10_account_124 : decode cX10_account 124 = .ok (.goto 97, 3) := by decide +kernel
theorem dX10_account_127 : decode cX10_account 127 = .ok (.aload_n 0, 1) := by decide +kernel
theorem dX10_account_128 : decode cX10_account 128 = .ok (.getfield 10, 3) := by decide +kernel
theorem dX10_account_131 : decode cX10_account 131 = .ok (.getfield 177, 3) := by decide +kernel
theorem dX10_account_134 : decode cX10_account 134 = .ok (.getfield 224, 3) := by decide +kernel
theorem dX10_account_137 : decode cX10_account 137 = .ok (.goto 84, 3) := by decide +kernel
theorem dX10_account_140 : decode cX10_account 140 = .ok (.aload_n 0, 1) := by decide +kernel
theorem dX10_account_141 : decode cX10_account 141 = .ok (.getfield 10, 3) := by decide +kernel
theorem dX10_account_144 : decode cX10_account 144 = .ok (.getfield 289, 3) := by decide +kernel
theorem dX10_account_147 : decode cX10_account 147 = .ok (.goto 74, 3) := by decide +kernel
theorem dX10_account_150 : decode cX10_account 150 = .ok (.aload_n 0, 1) := by decide +kernel
theorem dX10_account_151 : decode cX10_account 151 = .ok (.getfield 10, 3) := by decide +kernel
theorem dX10_account_154 : decode cX10_account 154 = .ok (.getfield 292, 3) := by decide +kernel
theorem dX10_account_157 : decode cX10_account 157 = .ok (.goto 64, 3) := by decide +kernel
theorem dX10_account_160 : decode cX10_account 160 = .ok (.aload_n 0, 1) := by decide +kernel
theorem dX10_account_161 : decode cX10_account 161 = .ok (.getfield 10, 3) := by decide +kernel
theorem dX10_account_164 : decode cX10_account 164 = .ok (.getfield 168, 3) := by decide +kernel
theorem dX10_account_167 : decode cX10_account 167 = .ok (.invokevirtual 295, 3) := by decide +kernel
theorem dX10_account_170 : decode cX10_account 170 = .ok (.goto 51, 3) := by decide +kernel
theorem dX10_account_173 : decode cX10_account 173 = .ok (.aload_n 0, 1) := by decide +kernel
theorem dX10_account_174 : decode cX10_account 174 = .ok (.getfield 10, 3) := by decide +kernel
theorem dX10_account_177 : decode cX10_account 177 = .ok (.getfield 168, 3) := by decide +kernel
theorem dX10_account_180 : decode cX10_account 180 = .ok (.invokevirtual 298, 3) := by decide +kernel
theorem dX10_account_183 : decode cX10_account 183 = .ok (.goto 38, 3) := by decide +kernel
theorem dX10_account_186 : decode cX10_account 186 = .ok (.aload_n 0, 1) := by decide +kernel
theorem dX10_account_187 : decode cX10_account 187 = .ok (.getfield 10, 3) := by decide +kernel
theorem dX10_account_190 : decode cX10_account 190 = .ok (.getfield 168, 3) := by decide +kernel
theorem dX10_account_193 : decode cX10_account 193 = .ok (.invokevirtual 301, 3) := by decide +kernel
theorem dX10_account_196 : decode cX10_account 196 = .ok (.goto 25, 3) := by decide +kernel
theorem dX10_account_199 : decode cX10_account 199 = .ok (.aload_n 0, 1) := by decide +kernel
theorem dX10_account_200 : decode cX10_account 200 = .ok (.getfield 32, 3) := by decide +kernel
theorem dX10_account_203 : decode cX10_account 203 = .ok (.getfield 304, 3) := by decide +kernel
theorem dX10_account_206 : decode cX10_account 206 = .ok (.goto 15, 3) := by decide +kernel
theorem dX10_account_209 : decode cX10_account 209 = .ok (.aload_n 0, 1) := by decide +kernel
theorem dX10_account_210 : decode cX10_account 210 = .ok (.getfield 25, 3) := by decide +kernel
theorem dX10_account_213 : decode cX10_account 213 = .ok (.getfield 305, 3) := by decide +kernel
theorem dX10_account_216 : decode cX10_account 216 = .ok (.goto 5, 3) := by decide +kernel
theorem dX10_account_219 : decode cX10_account 219 = .ok (.bipush (-2), 2) := by decide +kernel
theorem dX10_account_221 : decode cX10_account 221 = .ok (.ireturn, 1) := by decide +kernel
theorem dX10_undo_0 : decode cX10_undo 0 = .ok (.aload_n 0, 1) := by decide +kernel
theorem dX10_undo_1 : decode cX10_undo 1 = .ok (.getfield 25, 3) := by decide +kernel
theorem dX10_undo_4 : decode cX10_undo 4 = .ok (.aload_n 0, 1) := by decide +kernel
theorem dX10_undo_5 : decode cX10_undo 5 = .ok (.getfield 10, 3) := by decide +kernel
theorem dX10_undo_8 : decode cX10_undo 8 = .ok (.invokevirtual 306, 3) := by decide +kernel
theorem dX10_undo_11 : decode cX10_undo 11 = .ok (.ifCond .eq 13, 3) := by decide +kernel
theorem dX10_undo_14 : decode cX10_undo 14 = .ok (.aload_n 0, 1) := by decide +kernel
theorem dX10_undo_15 : decode cX10_undo 15 = .ok (.getfield 25, 3) := by decide +kernel
theorem dX10_undo_18 : decode cX10_undo 18 = .ok (.getfield 305, 3) := by decide +kernel
theorem dX10_undo_21 : decode cX10_undo 21 = .ok (.goto 5, 3) := by decide +kernel
theorem dX10_undo_24 : decode cX10_undo 24 = .ok (.bipush (-4), 2) := by decide +kernel
theorem dX10_undo_26 : decode cX10_undo 26 = .ok (.ireturn, 1) := by decide +kernel
theorem dX10_save_0 : decode cX10_save 0 = .ok (.aload_n 0, 1) := by decide +kernel
theorem dX10_save_1 : decode cX10_save 1 = .ok (.getfield 16, 3) := by decide +kernel
theorem dX10_save_4 : decode cX10_save 4 = .ok (.aload_n 0, 1) := by decide +kernel
theorem dX10_save_5 : decode cX10_save 5 = .ok (.getfield 10, 3) := by decide +kernel
theorem dX10_save_8 : decode cX10_save 8 = .ok (.invokevirtual 217, 3) := by decide +kernel
theorem dX10_save_11 : decode cX10_save 11 = .ok (.aload_n 0, 1) := by decide +kernel
theorem dX10_save_12 : decode cX10_save 12 = .ok (.iconst 1, 1) := by decide +kernel
theorem dX10_save_13 : decode cX10_save 13 = .ok (.putfield 54, 3) := by decide +kernel
theorem dX10_save_16 : decode cX10_save 16 = .ok (.aload_n 0, 1) := by decide +kernel
theorem dX10_save_17 : decode cX10_save 17 = .ok (.getfield 10, 3) := by decide +kernel
theorem dX10_save_20 : decode cX10_save 20 = .ok (.getfield 58, 3) := by decide +kernel
theorem dX10_save_23 : decode cX10_save 23 = .ok (.getfield 62, 3) := by decide +kernel
theorem dX10_save_26 : decode cX10_save 26 = .ok (.ireturn, 1) := by decide +kernel
theorem dX10_restore_0 : decode cX10_restore 0 = .ok (.aload_n 0, 1) := by decide +kernel
theorem dX10_restore_1 : decode cX10_restore 1 = .ok (.getfield 54, 3) := by decide +kernel
theorem dX10_restore_4 : decode cX10_restore 4 = .ok (.ifCond .ne 6, 3) := by decide +kernel
theorem dX10_restore_7 : decode cX10_restore 7 = .ok (.bipush (-4), 2) := by decide +kernel
theorem dX10_restore_9 : decode cX10_restore 9 = .ok (.ireturn, 1) := by decide +kernel
theorem dX10_restore_10 : decode cX10_restore 10 = .ok (.aload_n 0, 1) := by decide +kernel
theorem dX10_restore_11 : decode cX10_restore 11 = .ok (.getfield 10, 3) := by decide +kernel
theorem dX10_restore_14 : decode cX10_restore 14 = .ok (.aload_n 0, 1) := by decide +kernel
theorem dX10_restore_15 : decode cX10_restore 15 = .ok (.getfield 16, 3) := by decide +kernel
theorem dX10_restore_18 : decode cX10_restore 18 = .ok (.invokevirtual 217, 3) := by decide +kernel
theorem dX10_restore_21 : decode cX10_restore 21 = .ok (.aload_n 0, 1) := by decide +kernel
theorem dX10_restore_22 : decode cX10_restore 22 = .ok (.getfield 25, 3) := by decide +kernel
theorem dX10_restore_25 : decode cX10_restore 25 = .ok (.invokevirtual 70, 3) := by decide +kernel
theorem dX10_restore_28 : decode cX10_restore 28 = .ok (.aload_n 0, 1) := by decide +kernel
theorem dX10_restore_29 : decode cX10_restore 29 = .ok (.getfield 10, 3) := by decide +kernel
theorem dX10_restore_32 : decode cX10_restore 32 = .ok (.getfield 58, 3) := by decide +kernel
theorem dX10_restore_35 : decode cX10_restore 35 = .ok (.getfield 62, 3) := by decide +kernel
theorem dX10_restore_38 : decode cX10_restore 38 = .ok (.ireturn, 1) := by decide +kernel
theorem dX10_settled_0 : decode cX10_settled 0 = .ok (.iload_n 1, 1) := by decide +kernel
theorem dX10_settled_1 : decode cX10_settled 1 = .ok (.ifCond .lt 10, 3) := by decide +kernel
theorem dX10_settled_4 : decode cX10_settled 4 = .ok (.aload_n 0, 1) := by decide +kernel
theorem dX10_settled_5 : decode cX10_settled 5 = .ok (.getfield 25, 3) := by decide +kernel
theorem dX10_settled_8 : decode cX10_settled 8 = .ok (.invokevirtual 136, 3) := by decide +kernel
theorem dX10_settled_11 : decode cX10_settled 11 = .ok (.iload_n 1, 1) := by decide +kernel
theorem dX10_settled_12 : decode cX10_settled 12 = .ok (.ireturn, 1) := by decide +kernel
theorem dX10_carryOut_0 : decode cX10_carryOut 0 = .ok (.aload_n 0, 1) := by decide +kernel
theorem dX10_carryOut_1 : decode cX10_carryOut 1 = .ok (.getfield 32, 3) := by decide +kernel
theorem dX10_carryOut_4 : decode cX10_carryOut 4 = .ok (.iload_n 1, 1) := by decide +kernel
theorem dX10_carryOut_5 : decode cX10_carryOut 5 = .ok (.invokevirtual 310, 3) := by decide +kernel
theorem dX10_carryOut_8 : decode cX10_carryOut 8 = .ok (.astore_n 2, 1) := by decide +kernel
theorem dX10_carryOut_9 : decode cX10_carryOut 9 = .ok (.aload_n 2, 1) := by decide +kernel
theorem dX10_carryOut_10 : decode cX10_carryOut 10 = .ok (.ifnonnull 5, 3) := by decide +kernel
theorem dX10_carryOut_13 : decode cX10_carryOut 13 = .ok (.iconst (-1), 1) := by decide +kernel
theorem dX10_carryOut_14 : decode cX10_carryOut 14 = .ok (.ireturn, 1) := by decide +kernel
theorem dX10_carryOut_15 : decode cX10_carryOut 15 = .ok (.aload_n 0, 1) := by decide +kernel
theorem dX10_carryOut_16 : decode cX10_carryOut 16 = .ok (.getfield 32, 3) := by decide +kernel
theorem dX10_carryOut_19 : decode cX10_carryOut 19 = .ok (.getfield 314, 3) := by decide +kernel
theorem dX10_carryOut_22 : decode cX10_carryOut 22 = .ok (.iload_n 1, 1) := by decide +kernel
theorem dX10_carryOut_23 : decode cX10_carryOut 23 = .ok (.invokestatic 318, 3) := by decide +kernel
theorem dX10_carryOut_26 : decode cX10_carryOut 26 = .ok (.istore_n 3, 1) := by decide +kernel
theorem dX10_carryOut_27 : decode cX10_carryOut 27 = .ok (.aload_n 0, 1) := by decide +kernel
theorem dX10_carryOut_28 : decode cX10_carryOut 28 = .ok (.getfield 32, 3) := by decide +kernel
theorem dX10_carryOut_31 : decode cX10_carryOut 31 = .ok (.getfield 322, 3) := by decide +kernel
theorem dX10_carryOut_34 : decode cX10_carryOut 34 = .ok (.iload_n 1, 1) := by decide +kernel
theorem dX10_carryOut_35 : decode cX10_carryOut 35 = .ok (.invokestatic 318, 3) := by decide +kernel
theorem dX10_carryOut_38 : decode cX10_carryOut 38 = .ok (.istore 4, 2) := by decide +kernel
theorem dX10_carryOut_40 : decode cX10_carryOut 40 = .ok (.getstatic 325, 3) := by decide +kernel
theorem dX10_carryOut_43 : decode cX10_carryOut 43 = .ok (.aload_n 2, 1) := by decide +kernel
theorem dX10_carryOut_44 : decode cX10_carryOut 44 = .ok (.invokevirtual 330, 3) := by decide +kernel
theorem dX10_carryOut_47 : decode cX10_carryOut 47 = .ok (.iaload, 1) := by decide +kernel
theorem dX10_carryOut_48 : decode cX10_carryOut 48 = .ok (.tableswitch 163 1 8 #[48, 63, 80, 95, 106, 117, 134, 149], 48) := by decide +kernel
theorem dX10_carryOut_96 : decode cX10_carryOut 96 = .ok (.aload_n 0, 1) := by decide +kernel
theorem dX10_carryOut_97 : decode cX10_carryOut 97 = .ok (.getfield 10, 3) := by decide +kernel
theorem dX10_carryOut_100 : decode cX10_carryOut 100 = .ok (.iload_n 3, 1) := by decide +kernel
theorem dX10_carryOut_101 : decode cX10_carryOut 101 = .ok (.aload_n 0, 1) := by decide +kernel
theorem dX10_carryOut_102 : decode cX10_carryOut 102 = .ok (.getfield 46, 3) := by decide +kernel
theorem dX10_carryOut_105 : decode cX10_carryOut 105 = .ok (.invokevirtual 81, 3) := by decide +kernel
theorem dX10_carryOut_108 : decode cX10_carryOut 108 = .ok (.goto 104, 3) := by decide +kernel
theorem dX10_carryOut_111 : decode cX10_carryOut 111 = .ok (.aload_n 0, 1) := by decide +kernel
theorem dX10_carryOut_112 : decode cX10_carryOut 112 = .ok (.getfield 10, 3) := by decide +kernel
theorem dX10_carryOut_115 : decode cX10_carryOut 115 = .ok (.iload_n 3, 1) := by decide +kernel
theorem dX10_carryOut_116 : decode cX10_carryOut 116 = .ok (.iload 4, 2) := by decide +kernel
theorem dX10_carryOut_118 : decode cX10_carryOut 118 = .ok (.aload_n 0, 1) := by decide +kernel
theorem dX10_carryOut_119 : decode cX10_carryOut 119 = .ok (.getfield 46, 3) := by decide +kernel
theorem dX10_carryOut_122 : decode cX10_carryOut 122 = .ok (.invokevirtual 89, 3) := by decide +kernel
theorem dX10_carryOut_125 : decode cX10_carryOut 125 = .ok (.goto 87, 3) := by decide +kernel
theorem dX10_carryOut_128 : decode cX10_carryOut 128 = .ok (.aload_n 0, 1) := by decide +kernel
theorem dX10_carryOut_129 : decode cX10_carryOut 129 = .ok (.getfield 10, 3) := by decide +kernel
theorem dX10_carryOut_132 : decode cX10_carryOut 132 = .ok (.iload_n 3, 1) := by decide +kernel
theorem dX10_carryOut_133 : decode cX10_carryOut 133 = .ok (.aload_n 0, 1) := by decide +kernel
theorem dX10_carryOut_134 : decode cX10_carryOut 134 = .ok (.getfield 46, 3) := by decide +kernel
theorem dX10_carryOut_137 : decode cX10_carryOut 137 = .ok (.invokevirtual 93, 3) := by decide +kernel
theorem dX10_carryOut_140 : decode cX10_carryOut 140 = .ok (.goto 72, 3) := by decide +kernel
theorem dX10_carryOut_143 : decode cX10_carryOut 143 = .ok (.aload_n 0, 1) := by decide +kernel
theorem dX10_carryOut_144 : decode cX10_carryOut 144 = .ok (.getfield 10, 3) := by decide +kernel
theorem dX10_carryOut_147 : decode cX10_carryOut 147 = .ok (.iload_n 3, 1) := by decide +kernel
theorem dX10_carryOut_148 : decode cX10_carryOut 148 = .ok (.invokevirtual 96, 3) := by decide +kernel
theorem dX10_carryOut_151 : decode cX10_carryOut 151 = .ok (.goto 61, 3) := by decide +kernel
theorem dX10_carryOut_154 : decode cX10_carryOut 154 = .ok (.aload_n 0, 1) := by decide +kernel
theorem dX10_carryOut_155 : decode cX10_carryOut 155 = .ok (.getfield 10, 3) := by decide +kernel
theorem dX10_carryOut_158 : decode cX10_carryOut 158 = .ok (.iload_n 3, 1) := by decide +kernel
theorem dX10_carryOut_159 : decode cX10_carryOut 159 = .ok (.invokevirtual 99, 3) := by decide +kernel
theorem dX10_carryOut_162 : decode cX10_carryOut 162 = .ok (.goto 50, 3) := by decide +kernel
theorem dX10_carryOut_165 : decode cX10_carryOut 165 = .ok (.aload_n 0, 1) := by decide +kernel
theorem dX10_carryOut_166 : decode cX10_carryOut 166 = .ok (.getfield 10, 3) := by decide +kernel
theorem dX10_carryOut_169 : decode cX10_carryOut 169 = .ok (.iload_n 3, 1) := by decide +kernel
theorem dX10_carryOut_170 : decode cX10_carryOut 170 = .ok (.iload 4, 2) := by decide +kernel
theorem dX10_carryOut_172 : decode cX10_carryOut 172 = .ok (.aload_n 0, 1) := by decide +kernel
theorem dX10_carryOut_173 : decode cX10_carryOut 173 = .ok (.getfield 46, 3) := by decide +kernel
theorem dX10_carryOut_176 : decode cX10_carryOut 176 = .ok (.invokevirtual 102, 3) := by decide +kernel
theorem dX10_carryOut_179 : decode cX10_carryOut 179 = .ok (.goto 33, 3) := by decide +kernel
theorem dX10_carryOut_182 : decode cX10_carryOut 182 = .ok (.aload_n 0, 1) := by decide +kernel
theorem dX10_carryOut_183 : decode cX10_carryOut 183 = .ok (.getfield 10, 3) := by decide +kernel
theorem dX10_carryOut_186 : decode cX10_carryOut 186 = .ok (.iload_n 3, 1) := by decide +kernel
theorem dX10_carryOut_187 : decode cX10_carryOut 187 = .ok (.aload_n 0, 1) := by decide +kernel
theorem dX10_carryOut_188 : decode cX10_carryOut 188 = .ok (.getfield 46, 3) := by decide +kernel
theorem dX10_carryOut_191 : decode cX10_carryOut 191 = .ok (.invokevirtual 105, 3) := by decide +kernel
theorem dX10_carryOut_194 : decode cX10_carryOut 194 = .ok (.goto 18, 3) := by decide +kernel
theorem dX10_carryOut_197 : decode cX10_carryOut 197 = .ok (.aload_n 0, 1) := by decide +kernel
theorem dX10_carryOut_198 : decode cX10_carryOut 198 = .ok (.getfield 10, 3) := by decide +kernel
theorem dX10_carryOut_201 : decode cX10_carryOut 201 = .ok (.aload_n 0, 1) := by decide +kernel
theorem dX10_carryOut_202 : decode cX10_carryOut 202 = .ok (.getfield 46, 3) := by decide +kernel
theorem dX10_carryOut_205 : decode cX10_carryOut 205 = .ok (.invokevirtual 108, 3) := by decide +kernel
theorem dX10_carryOut_208 : decode cX10_carryOut 208 = .ok (.goto 4, 3) := by decide +kernel
theorem dX10_carryOut_211 : decode cX10_carryOut 211 = .ok (.iconst (-1), 1) := by decide +kernel
theorem dX10_carryOut_212 : decode cX10_carryOut 212 = .ok (.ireturn, 1) := by decide +kernel
theorem dX10_writeTree_0 : decode cX10_writeTree 0 = .ok (.iload_n 2, 1) := by decide +kernel
theorem dX10_writeTree_1 : decode cX10_writeTree 1 = .ok (.ifCond .lt 9, 3) := by decide +kernel
theorem dX10_writeTree_4 : decode cX10_writeTree 4 = .ok (.iload_n 3, 1) := by decide +kernel
theorem dX10_writeTree_5 : decode cX10_writeTree 5 = .ok (.bipush 16, 2) := by decide +kernel
theorem dX10_writeTree_7 : decode cX10_writeTree 7 = .ok (.if_icmp .lt 4, 3) := by decide +kernel
theorem dX10_writeTree_10 : decode cX10_writeTree 10 = .ok (.return_, 1) := by decide +kernel
theorem dX10_writeTree_11 : decode cX10_writeTree 11 = .ok (.aload_n 0, 1) := by decide +kernel
theorem dX10_writeTree_12 : decode cX10_writeTree 12 = .ok (.bipush 40, 2) := by decide +kernel
theorem dX10_writeTree_14 : decode cX10_writeTree 14 = .ok (.invokevirtual 261, 3) := by decide +kernel
theorem dX10_writeTree_17 : decode cX10_writeTree 17 = .ok (.aload_n 0, 1) := by decide +kernel
theorem dX10_writeTree_18 : decode cX10_writeTree 18 = .ok (.aload_n 1, 1) := by decide +kernel
theorem dX10_writeTree_19 : decode cX10_writeTree 19 = .ok (.aload_n 1, 1) := by decide +kernel
theorem dX10_writeTree_20 : decode cX10_writeTree 20 = .ok (.iload_n 2, 1) := by decide +kernel
theorem dX10_writeTree_21 : decode cX10_writeTree 21 = .ok (.invokevirtual 181, 3) := by decide +kernel
theorem dX10_writeTree_24 : decode cX10_writeTree 24 = .ok (.iload_n 3, 1) := by decide +kernel
theorem dX10_writeTree_25 : decode cX10_writeTree 25 = .ok (.iconst 1, 1) := by decide +kernel
theorem dX10_writeTree_26 : decode cX10_writeTree 26 = .ok (.iadd, 1) := by decide +kernel
theorem dX10_writeTree_27 : decode cX10_writeTree 27 = .ok (.invokestatic 251, 3) := by decide +kernel
theorem dX10_writeTree_30 : decode cX10_writeTree 30 = .ok (.aload_n 0, 1) := by decide +kernel
theorem dX10_writeTree_31 : decode cX10_writeTree 31 = .ok (.iload_n 2, 1) := by decide +kernel
theorem dX10_writeTree_32 : decode cX10_writeTree 32 = .ok (.invokevirtual 335, 3) := by decide +kernel
theorem dX10_writeTree_35 : decode cX10_writeTree 35 = .ok (.aload_n 0, 1) := by decide +kernel
theorem dX10_writeTree_36 : decode cX10_writeTree 36 = .ok (.aload_n 1, 1) := by decide +kernel
theorem dX10_writeTree_37 : decode cX10_writeTree 37 = .ok (.aload_n 1, 1) := by decide +kernel
theorem dX10_writeTree_38 : decode cX10_writeTree 38 = .ok (.iload_n 2, 1) := by decide +kernel
theorem dX10_writeTree_39 : decode cX10_writeTree 39 = .ok (.invokevirtual 186, 3) := by decide +kernel
theorem dX10_writeTree_42 : decode cX10_writeTree 42 = .ok (.iload_n 3, 1) := by decide +kernel
theorem dX10_writeTree_43 : decode cX10_writeTree 43 = .ok (.iconst 1, 1) := by decide +kernel
theorem dX10_writeTree_44 : decode cX10_writeTree 44 = .ok (.iadd, 1) := by decide +kernel
theorem dX10_writeTree_45 : decode cX10_writeTree 45 = .ok (.invokestatic 251, 3) := by decide +kernel
theorem dX10_writeTree_48 : decode cX10_writeTree 48 = .ok (.aload_n 0, 1) := by decide +kernel
theorem dX10_writeTree_49 : decode cX10_writeTree 49 = .ok (.bipush 41, 2) := by decide +kernel
theorem dX10_writeTree_51 : decode cX10_writeTree 51 = .ok (.invokevirtual 261, 3) := by decide +kernel
theorem dX10_writeTree_54 : decode cX10_writeTree 54 = .ok (.return_, 1) := by decide +kernel
theorem dX10_writeRope_0 : decode cX10_writeRope 0 = .ok (.aload_n 0, 1) := by decide +kernel
theorem dX10_writeRope_1 : decode cX10_writeRope 1 = .ok (.getfield 39, 3) := by decide +kernel
theorem dX10_writeRope_4 : decode cX10_writeRope 4 = .ok (.iload_n 1, 1) := by decide +kernel
theorem dX10_writeRope_5 : decode cX10_writeRope 5 = .ok (.invokevirtual 335, 3) := by decide +kernel
theorem dX10_writeRope_8 : decode cX10_writeRope 8 = .ok (.aload_n 0, 1) := by decide +kernel
theorem dX10_writeRope_9 : decode cX10_writeRope 9 = .ok (.getfield 10, 3) := by decide +kernel
theorem dX10_writeRope_12 : decode cX10_writeRope 12 = .ok (.getfield 177, 3) := by decide +kernel
theorem dX10_writeRope_15 : decode cX10_writeRope 15 = .ok (.iload_n 1, 1) := by decide +kernel
theorem dX10_writeRope_16 : decode cX10_writeRope 16 = .ok (.invokevirtual 338, 3) := by decide +kernel
theorem dX10_writeRope_19 : decode cX10_writeRope 19 = .ok (.istore_n 2, 1) := by decide +kernel
theorem dX10_writeRope_20 : decode cX10_writeRope 20 = .ok (.iconst 0, 1) := by decide +kernel
theorem dX10_writeRope_21 : decode cX10_writeRope 21 = .ok (.istore_n 3, 1) := by decide +kernel
theorem dX10_writeRope_22 : decode cX10_writeRope 22 = .ok (.iload_n 3, 1) := by decide +kernel
theorem dX10_writeRope_23 : decode cX10_writeRope 23 = .ok (.bipush 16, 2) := by decide +kernel
theorem dX10_writeRope_25 : decode cX10_writeRope 25 = .ok (.if_icmp .ge 42, 3) := by decide +kernel
theorem dX10_writeRope_28 : decode cX10_writeRope 28 = .ok (.iload_n 2, 1) := by decide +kernel
theorem dX10_writeRope_29 : decode cX10_writeRope 29 = .ok (.ifCond .lt 38, 3) := by decide +kernel
theorem dX10_writeRope_32 : decode cX10_writeRope 32 = .ok (.aload_n 0, 1) := by decide +kernel
theorem dX10_writeRope_33 : decode cX10_writeRope 33 = .ok (.getfield 39, 3) := by decide +kernel
theorem dX10_writeRope_36 : decode cX10_writeRope 36 = .ok (.bipush 45, 2) := by decide +kernel
theorem dX10_writeRope_38 : decode cX10_writeRope 38 = .ok (.invokevirtual 261, 3) := by decide +kernel
theorem dX10_writeRope_41 : decode cX10_writeRope 41 = .ok (.aload_n 0, 1) := by decide +kernel
theorem dX10_writeRope_42 : decode cX10_writeRope 42 = .ok (.getfield 39, 3) := by decide +kernel
theorem dX10_writeRope_45 : decode cX10_writeRope 45 = .ok (.iload_n 2, 1) := by decide +kernel
theorem dX10_writeRope_46 : decode cX10_writeRope 46 = .ok (.invokevirtual 335, 3) := by decide +kernel
theorem dX10_writeRope_49 : decode cX10_writeRope 49 = .ok (.aload_n 0, 1) := by decide +kernel
theorem dX10_writeRope_50 : decode cX10_writeRope 50 = .ok (.getfield 10, 3) := by decide +kernel
theorem dX10_writeRope_53 : decode cX10_writeRope 53 = .ok (.getfield 177, 3) := by decide +kernel
theorem dX10_writeRope_56 : decode cX10_writeRope 56 = .ok (.iload_n 2, 1) := by decide +kernel
theorem dX10_writeRope_57 : decode cX10_writeRope 57 = .ok (.invokevirtual 338, 3) := by decide +kernel
theorem dX10_writeRope_60 : decode cX10_writeRope 60 = .ok (.istore_n 2, 1) := by decide +kernel
theorem dX10_writeRope_61 : decode cX10_writeRope 61 = .ok (.iinc 3 1, 3) := by decide +kernel
theorem dX10_writeRope_64 : decode cX10_writeRope 64 = .ok (.goto (-42), 3) := by decide +kernel
theorem dX10_writeRope_67 : decode cX10_writeRope 67 = .ok (.return_, 1) := by decide +kernel
theorem dX10_orNothing_0 : decode cX10_orNothing 0 = .ok (.iload_n 0, 1) := by decide +kernel
theorem dX10_orNothing_1 : decode cX10_orNothing 1 = .ok (.ifCond .ge 8, 3) := by decide +kernel
theorem dX10_orNothing_4 : decode cX10_orNothing 4 = .ok (.bipush (-4), 2) := by decide +kernel
theorem dX10_orNothing_6 : decode cX10_orNothing 6 = .ok (.goto 4, 3) := by decide +kernel
theorem dX10_orNothing_9 : decode cX10_orNothing 9 = .ok (.iload_n 0, 1) := by decide +kernel
theorem dX10_orNothing_10 : decode cX10_orNothing 10 = .ok (.ireturn, 1) := by decide +kernel
theorem dX10_at_0 : decode cX10_at 0 = .ok (.aload_n 0, 1) := by decide +kernel
theorem dX10_at_1 : decode cX10_at 1 = .ok (.ifnull 19, 3) := by decide +kernel
theorem dX10_at_4 : decode cX10_at 4 = .ok (.iload_n 1, 1) := by decide +kernel
theorem dX10_at_5 : decode cX10_at 5 = .ok (.ifCond .lt 15, 3) := by decide +kernel
theorem dX10_at_8 : decode cX10_at 8 = .ok (.iload_n 1, 1) := by decide +kernel
theorem dX10_at_9 : decode cX10_at 9 = .ok (.aload_n 0, 1) := by decide +kernel
theorem dX10_at_10 : decode cX10_at 10 = .ok (.arraylength, 1) := by decide +kernel
theorem dX10_at_11 : decode cX10_at 11 = .ok (.if_icmp .ge 9, 3) := by decide +kernel
theorem dX10_at_14 : decode cX10_at 14 = .ok (.aload_n 0, 1) := by decide +kernel
theorem dX10_at_15 : decode cX10_at 15 = .ok (.iload_n 1, 1) := by decide +kernel
theorem dX10_at_16 : decode cX10_at 16 = .ok (.iaload, 1) := by decide +kernel
theorem dX10_at_17 : decode cX10_at 17 = .ok (.goto 4, 3) := by decide +kernel
theorem dX10_at_20 : decode cX10_at 20 = .ok (.iconst (-1), 1) := by decide +kernel
theorem dX10_at_21 : decode cX10_at 21 = .ok (.ireturn, 1) := by decide +kernel
theorem dX10_put_0 : decode cX10_put 0 = .ok (.aload_n 0, 1) := by decide +kernel
theorem dX10_put_1 : decode cX10_put 1 = .ok (.ifnull 17, 3) := by decide +kernel
theorem dX10_put_4 : decode cX10_put 4 = .ok (.iload_n 1, 1) := by decide +kernel
theorem dX10_put_5 : decode cX10_put 5 = .ok (.ifCond .lt 13, 3) := by decide +kernel
theorem dX10_put_8 : decode cX10_put 8 = .ok (.iload_n 1, 1) := by decide +kernel
theorem dX10_put_9 : decode cX10_put 9 = .ok (.aload_n 0, 1) := by decide +kernel
theorem dX10_put_10 : decode cX10_put 10 = .ok (.arraylength, 1) := by decide +kernel
theorem dX10_put_11 : decode cX10_put 11 = .ok (.if_icmp .ge 7, 3) := by decide +kernel
theorem dX10_put_14 : decode cX10_put 14 = .ok (.aload_n 0, 1) := by decide +kernel
theorem dX10_put_15 : decode cX10_put 15 = .ok (.iload_n 1, 1) := by decide +kernel
theorem dX10_put_16 : decode cX10_put 16 = .ok (.iload_n 2, 1) := by decide +kernel
theorem dX10_put_17 : decode cX10_put 17 = .ok (.iastore, 1) := by decide +kernel
theorem dX10_put_18 : decode cX10_put 18 = .ok (.return_, 1) := by decide +kernel
theorem dX10_fill_0 : decode cX10_fill 0 = .ok (.iconst 0, 1) := by decide +kernel
theorem dX10_fill_1 : decode cX10_fill 1 = .ok (.istore_n 2, 1) := by decide +kernel
theorem dX10_fill_2 : decode cX10_fill 2 = .ok (.aload_n 0, 1) := by decide +kernel
theorem dX10_fill_3 : decode cX10_fill 3 = .ok (.ifnull 19, 3) := by decide +kernel
theorem dX10_fill_6 : decode cX10_fill 6 = .ok (.iload_n 2, 1) := by decide +kernel
theorem dX10_fill_7 : decode cX10_fill 7 = .ok (.aload_n 0, 1) := by decide +kernel
theorem dX10_fill_8 : decode cX10_fill 8 = .ok (.arraylength, 1) := by decide +kernel
theorem dX10_fill_9 : decode cX10_fill 9 = .ok (.if_icmp .ge 13, 3) := by decide +kernel
theorem dX10_fill_12 : decode cX10_fill 12 = .ok (.aload_n 0, 1) := by decide +kernel
theorem dX10_fill_13 : decode cX10_fill 13 = .ok (.iload_n 2, 1) := by decide +kernel
theorem dX10_fill_14 : decode cX10_fill 14 = .ok (.iload_n 1, 1) := by decide +kernel
theorem dX10_fill_15 : decode cX10_fill 15 = .ok (.iastore, 1) := by decide +kernel
theorem dX10_fill_16 : decode cX10_fill 16 = .ok (.iinc 2 1, 3) := by decide +kernel
theorem dX10_fill_19 : decode cX10_fill 19 = .ok (.goto (-17), 3) := by decide +kernel
theorem dX10_fill_22 : decode cX10_fill 22 = .ok (.return_, 1) := by decide +kernel
theorem dX10_copyRow_0 : decode cX10_copyRow 0 = .ok (.iconst 0, 1) := by decide +kernel
theorem dX10_copyRow_1 : decode cX10_copyRow 1 = .ok (.istore_n 2, 1) := by decide +kernel
theorem dX10_copyRow_2 : decode cX10_copyRow 2 = .ok (.aload_n 1, 1) := by decide +kernel
theorem dX10_copyRow_3 : decode cX10_copyRow 3 = .ok (.ifnull 23, 3) := by decide +kernel
theorem dX10_copyRow_6 : decode cX10_copyRow 6 = .ok (.iload_n 2, 1) := by decide +kernel
theorem dX10_copyRow_7 : decode cX10_copyRow 7 = .ok (.aload_n 1, 1) := by decide +kernel
theorem dX10_copyRow_8 : decode cX10_copyRow 8 = .ok (.arraylength, 1) := by decide +kernel
theorem dX10_copyRow_9 : decode cX10_copyRow 9 = .ok (.if_icmp .ge 17, 3) := by decide +kernel
theorem dX10_copyRow_12 : decode cX10_copyRow 12 = .ok (.aload_n 1, 1) := by decide +kernel
theorem dX10_copyRow_13 : decode cX10_copyRow 13 = .ok (.iload_n 2, 1) := by decide +kernel
theorem dX10_copyRow_14 : decode cX10_copyRow 14 = .ok (.aload_n 0, 1) := by decide +kernel
theorem dX10_copyRow_15 : decode cX10_copyRow 15 = .ok (.iload_n 2, 1) := by decide +kernel
theorem dX10_copyRow_16 : decode cX10_copyRow 16 = .ok (.invokestatic 318, 3) := by decide +kernel
theorem dX10_copyRow_19 : decode cX10_copyRow 19 = .ok (.iastore, 1) := by decide +kernel
theorem dX10_copyRow_20 : decode cX10_copyRow 20 = .ok (.iinc 2 1, 3) := by decide +kernel
theorem dX10_copyRow_23 : decode cX10_copyRow 23 = .ok (.goto (-21), 3) := by decide +kernel
theorem dX10_copyRow_26 : decode cX10_copyRow 26 = .ok (.return_, 1) := by decide +kernel
theorem dX10_lastAlong_0 : decode cX10_lastAlong 0 = .ok (.iload_n 1, 1) := by decide +kernel
theorem dX10_lastAlong_1 : decode cX10_lastAlong 1 = .ok (.istore_n 2, 1) := by decide +kernel
theorem dX10_lastAlong_2 : decode cX10_lastAlong 2 = .ok (.iconst 0, 1) := by decide +kernel
theorem dX10_lastAlong_3 : decode cX10_lastAlong 3 = .ok (.istore_n 3, 1) := by decide +kernel
theorem dX10_lastAlong_4 : decode cX10_lastAlong 4 = .ok (.iload_n 3, 1) := by decide +kernel
theorem dX10_lastAlong_5 : decode cX10_lastAlong 5 = .ok (.bipush 16, 2) := by decide +kernel
theorem dX10_lastAlong_7 : decode cX10_lastAlong 7 = .ok (.if_icmp .ge 23, 3) := by decide +kernel
theorem dX10_lastAlong_10 : decode cX10_lastAlong 10 = .ok (.aload_n 0, 1) := by decide +kernel
theorem dX10_lastAlong_11 : decode cX10_lastAlong 11 = .ok (.iload_n 2, 1) := by decide +kernel
theorem dX10_lastAlong_12 : decode cX10_lastAlong 12 = .ok (.invokestatic 318, 3) := by decide +kernel
theorem dX10_lastAlong_15 : decode cX10_lastAlong 15 = .ok (.ifCond .lt 15, 3) := by decide +kernel
theorem dX10_lastAlong_18 : decode cX10_lastAlong 18 = .ok (.aload_n 0, 1) := by decide +kernel
theorem dX10_lastAlong_19 : decode cX10_lastAlong 19 = .ok (.iload_n 2, 1) := by decide +kernel
theorem dX10_lastAlong_20 : decode cX10_lastAlong 20 = .ok (.invokestatic 318, 3) := by decide +kernel
theorem dX10_lastAlong_23 : decode cX10_lastAlong 23 = .ok (.istore_n 2, 1) := by decide +kernel
theorem dX10_lastAlong_24 : decode cX10_lastAlong 24 = .ok (.iinc 3 1, 3) := by decide +kernel
theorem dX10_lastAlong_27 : decode cX10_lastAlong 27 = .ok (.goto (-23), 3) := by decide +kernel
theorem dX10_lastAlong_30 : decode cX10_lastAlong 30 = .ok (.iload_n 2, 1) := by decide +kernel
theorem dX10_lastAlong_31 : decode cX10_lastAlong 31 = .ok (.ireturn, 1) := by decide +kernel
theorem dX10_stepsAlong_0 : decode cX10_stepsAlong 0 = .ok (.iconst 0, 1) := by decide +kernel
theorem dX10_stepsAlong_1 : decode cX10_stepsAlong 1 = .ok (.istore_n 2, 1) := by decide +kernel
theorem dX10_stepsAlong_2 : decode cX10_stepsAlong 2 = .ok (.aload_n 0, 1) := by decide +kernel
theorem dX10_stepsAlong_3 : decode cX10_stepsAlong 3 = .ok (.iload_n 1, 1) := by decide +kernel
theorem dX10_stepsAlong_4 : decode cX10_stepsAlong 4 = .ok (.invokestatic 318, 3) := by decide +kernel
theorem dX10_stepsAlong_7 : decode cX10_stepsAlong 7 = .ok (.istore_n 3, 1) := by decide +kernel
theorem dX10_stepsAlong_8 : decode cX10_stepsAlong 8 = .ok (.iload_n 2, 1) := by decide +kernel
theorem dX10_stepsAlong_9 : decode cX10_stepsAlong 9 = .ok (.bipush 16, 2) := by decide +kernel
theorem dX10_stepsAlong_11 : decode cX10_stepsAlong 11 = .ok (.if_icmp .ge 19, 3) := by decide +kernel
theorem dX10_stepsAlong_14 : decode cX10_stepsAlong 14 = .ok (.iload_n 3, 1) := by decide +kernel
theorem dX10_stepsAlong_15 : decode cX10_stepsAlong 15 = .ok (.ifCond .lt 15, 3) := by decide +kernel
theorem dX10_stepsAlong_18 : decode cX10_stepsAlong 18 = .ok (.iinc 2 1, 3) := by decide +kernel
theorem dX10_stepsAlong_21 : decode cX10_stepsAlong 21 = .ok (.aload_n 0, 1) := by decide +kernel
theorem dX10_stepsAlong_22 : decode cX10_stepsAlong 22 = .ok (.iload_n 3, 1) := by decide +kernel
theorem dX10_stepsAlong_23 : decode cX10_stepsAlong 23 = .ok (.invokestatic 318, 3) := by decide +kernel
theorem dX10_stepsAlong_26 : decode cX10_stepsAlong 26 = .ok (.istore_n 3, 1) := by decide +kernel
theorem dX10_stepsAlong_27 : decode cX10_stepsAlong 27 = .ok (.goto (-19), 3) := by decide +kernel
theorem dX10_stepsAlong_30 : decode cX10_stepsAlong 30 = .ok (.iload_n 2, 1) := by decide +kernel
theorem dX10_stepsAlong_31 : decode cX10_stepsAlong 31 = .ok (.ireturn, 1) := by decide +kernel
theorem dX10_isAlong_0 : decode cX10_isAlong 0 = .ok (.iload_n 1, 1) := by decide +kernel
theorem dX10_isAlong_1 : decode cX10_isAlong 1 = .ok (.istore_n 3, 1) := by decide +kernel
theorem dX10_isAlong_2 : decode cX10_isAlong 2 = .ok (.iconst 0, 1) := by decide +kernel
theorem dX10_isAlong_3 : decode cX10_isAlong 3 = .ok (.istore 4, 2) := by decide +kernel
theorem dX10_isAlong_5 : decode cX10_isAlong 5 = .ok (.iload 4, 2) := by decide +kernel
theorem dX10_isAlong_7 : decode cX10_isAlong 7 = .ok (.bipush 16, 2) := by decide +kernel
theorem dX10_isAlong_9 : decode cX10_isAlong 9 = .ok (.if_icmp .ge 26, 3) := by decide +kernel
theorem dX10_isAlong_12 : decode cX10_isAlong 12 = .ok (.iload_n 3, 1) := by decide +kernel
theorem dX10_isAlong_13 : decode cX10_isAlong 13 = .ok (.ifCond .lt 22, 3) := by decide +kernel
theorem dX10_isAlong_16 : decode cX10_isAlong 16 = .ok (.iload_n 3, 1) := by decide +kernel
theorem dX10_isAlong_17 : decode cX10_isAlong 17 = .ok (.iload_n 2, 1) := by decide +kernel
theorem dX10_isAlong_18 : decode cX10_isAlong 18 = .ok (.if_icmp .ne 5, 3) := by decide +kernel
theorem dX10_isAlong_21 : decode cX10_isAlong 21 = .ok (.iconst 1, 1) := by decide +kernel
theorem dX10_isAlong_22 : decode cX10_isAlong 22 = .ok (.ireturn, 1) := by decide +kernel
theorem dX10_isAlong_23 : decode cX10_isAlong 23 = .ok (.aload_n 0, 1) := by decide +kernel
theorem dX10_isAlong_24 : decode cX10_isAlong 24 = .ok (.iload_n 3, 1) := by decide +kernel
theorem dX10_isAlong_25 : decode cX10_isAlong 25 = .ok (.invokestatic 318, 3) := by decide +kernel
theorem dX10_isAlong_28 : decode cX10_isAlong 28 = .ok (.istore_n 3, 1) := by decide +kernel
theorem dX10_isAlong_29 : decode cX10_isAlong 29 = .ok (.iinc 4 1, 3) := by decide +kernel
theorem dX10_isAlong_32 : decode cX10_isAlong 32 = .ok (.goto (-27), 3) := by decide +kernel
theorem dX10_isAlong_35 : decode cX10_isAlong 35 = .ok (.iconst 0, 1) := by decide +kernel
theorem dX10_isAlong_36 : decode cX10_isAlong 36 = .ok (.ireturn, 1) := by decide +kernel
end
section
/-! CALLS over the model heap -/
abbrev qws (y : MethodName) (bytes : ByteArray) (maxL : Nat) (ret : Option FieldType) : List Cond := Cond.code y bytes maxL ret :: qG
theorem qws_good {y : MethodName} {bytes : ByteArray} {maxL : Nat} {ret : Option FieldType} (h : Cond.code y bytes maxL ret ∈ qG) : GoodIn qG (qws y bytes maxL ret) := fun w hw => by
  rcases List.mem_cons.mp hw with rfl | hw
  · exact ⟨h, good_of_word (qG_good h)⟩
  · exact ⟨hw, good_of_word (qG_good hw)⟩
def qYn (y : MethodName) (n : Nat) : Prop := y.cls ≠ "java/lang/invoke/MethodHandle" ∧ y.cls ≠ "java/lang/invoke/VarHandle" ∧ (parseMethodDescriptor y.desc).map (fun d => d.parameters.length) = some n
/-- what a call of an instance method wants of the words; of a static one; of a constructor -/
def qVm (y : MethodName) (bytes : ByteArray) (maxL : Nat) (ret : Option FieldType) (n : Nat) : Prop := Cond.code y bytes maxL ret ∈ qG ∧ Cond.instanceMethod y ∈ qG ∧ Cond.selects y.cls y y ∈ qG ∧ Cond.initialized y.cls ∈ qG ∧ qYn y n
def qSm (y : MethodName) (bytes : ByteArray) (maxL : Nat) (ret : Option FieldType) (n : Nat) : Prop := Cond.code y bytes maxL ret ∈ qG ∧ Cond.static y ∈ qG ∧ Cond.initialized y.cls ∈ qG ∧ qYn y n
def qIm (y : MethodName) (bytes : ByteArray) (maxL : Nat) (n : Nat) : Prop := Cond.code y bytes maxL none ∈ qG ∧ Cond.instanceMethod y ∈ qG ∧ Cond.initialized y.cls ∈ qG ∧ y.name = "<init>" ∧ qYn y n
theorem qG_wsV {y : MethodName} {bytes : ByteArray} {maxL n idx : Nat} {ret : Option FieldType} {own : String} (v : qVm y bytes maxL ret n) (hl : Cond.methodLink own idx y ∈ qG) : GoodIn qG (wsV own idx y.cls y (qws y bytes maxL ret)) := fun w hw => by
  obtain ⟨h1, h2, h3, h4, -⟩ := v
  rcases List.mem_append.mp hw with hw | hw
  · have : w ∈ qG := by
      rcases List.mem_cons.mp hw with rfl | hw
      · exact hl
      rcases List.mem_cons.mp hw with rfl | hw
      · exact h2
      rcases List.mem_cons.mp hw with rfl | hw
      · exact h3
      rcases List.mem_cons.mp hw with rfl | hw
      · exact h4
      cases hw
    exact ⟨this, good_of_word (qG_good this)⟩
  · exact qws_good h1 w hw
theorem qG_wsS {y : MethodName} {bytes : ByteArray} {maxL n idx : Nat} {ret : Option FieldType} {own : String} (v : qSm y bytes maxL ret n) (hl : Cond.methodLink own idx y ∈ qG) : GoodIn qG (va_wsS own idx y (qws y bytes maxL ret)) := fun w hw => by
  obtain ⟨h1, h2, h3, -⟩ := v
  rcases List.mem_append.mp hw with hw | hw
  · have : w ∈ qG := by
      rcases List.mem_cons.mp hw with rfl | hw
      · exact hl
      rcases List.mem_cons.mp hw with rfl | hw
      · exact h2
      rcases List.mem_cons.mp hw with rfl | hw
      · exact h3
      cases hw
    exact ⟨this, good_of_word (qG_good this)⟩
  · exact qws_good h1 w hw
section QR
variable {p : Program} {l : Launch} {e : Env} {R : Room} {s : State} {m : MethodId} {args : Array Value} {below : List Frame} {meth : Method} {c : Code} {H : Heap} {locs : List Loc} {cells slots : Nat} {Q : State → Prop}
variable {cc : ByteArray} {pc : Nat} {ls : Array Slot} {rest : List Value} {D : va_G} {cs : qC} {M0 M : qM} {N a : Nat}
variable {y : MethodName} {bytes : ByteArray} {maxL nL mc ms n index : Nat} {ret : Option FieldType} {rm : Room} {own host : String} {b : Nat} {As st0 : List Value} {post : Option Value → qM → Nat → Prop}
theorem q_pre (hI : qI D M0 s.heap M N H locs) (hK : qK D cs s) : PreS s H (qPc D cs M N As) As :=
  ⟨qPc_blind, fun U hU hW => ⟨rfl, by rw [hU]; exact hI.1, hK.warm hW, by rw [hU]; exact hI.2.1⟩⟩
theorem q_runV (hx : p.tables.exec = Jvm.exec) (hb : c.code = cc) (hml : c.maxLocals = nL) (hown : s.vm.findClass own = some m.cls) (hg : ∀ w ∈ qG, w.before args s = true)
    (hM : qMet l D cs y (qws y bytes maxL ret) rm M N (.ref b :: As) post mc ms) (v : qVm y bytes maxL ret n) (hl : Cond.methodLink own index y ∈ qG) (hrc : rm.cells = mc) (hrs : rm.slots = ms) (hR : rm.frames + 1 ≤ R.frames ∧ 8 + (maxL + 11) + rm.locals ≤ R.locals)
    (hI : qI D M0 s.heap M N H locs) (hK : qK D cs s) (ci : Nat) {fs : List Value} {T : u_T} {NN : Nat} (hMb : M b = some (.inr (ci, fs))) (hc : vwCl[ci]? = some (y.cls, T, NN))
    (hls : ls.size = nL) (hn : As.length = n) (hst : st0 = As.reverse ++ .ref b :: rest) (hcat : (rest.map fun v => v.category).sum ≤ 8) (hdg : decode cc pc = .ok (.invokevirtual index, 3)) (hf : cells + mc ≤ R.cells ∧ slots + ms ≤ R.slots) :
    va_Run p l e R s m args below meth c H locs cells slots mc ms (F0 m pc ls st0) rest (qQ D M N post (Value.ref b :: As).toArray) (qA M N) := by
  refine va_runV (As := As) (rest := rest) (C := y.cls) ⟨hx, hb, hml, hown, hg⟩ hM (cwV n hg (qG_wsV v hl) rfl hrc hrs ⟨rfl, v.2.2.2.2⟩ hR) ⟨qPc_blind, ?_, (q_pre (As := .ref b :: As) hI hK).2⟩ rfl hn hls hst (lv_room hcat) hdg hf
  obtain ⟨q', h1, cell, g1, g2, g3, -⟩ := hI.1 b _ hMb
  exact ⟨cell, g1, by rw [g3]; rfl, by rw [g2]; exact (hK.1.1 ci _ hc).2.1⟩
theorem q_runS (hx : p.tables.exec = Jvm.exec) (hb : c.code = cc) (hml : c.maxLocals = nL) (hown : s.vm.findClass own = some m.cls) (hg : ∀ w ∈ qG, w.before args s = true)
    (hM : qMet l D cs y (qws y bytes maxL ret) rm M N As post mc ms) (v : qSm y bytes maxL ret n) (hl : Cond.methodLink own index y ∈ qG) (hrc : rm.cells = mc) (hrs : rm.slots = ms) (hR : rm.frames + 1 ≤ R.frames ∧ 8 + (maxL + 11) + rm.locals ≤ R.locals)
    (hI : qI D M0 s.heap M N H locs) (hK : qK D cs s)
    (hls : ls.size = nL) (hn : As.length = n) (hst : st0 = As.reverse ++ rest) (hcat : (rest.map fun v => v.category).sum ≤ 8) (hdg : decode cc pc = .ok (.invokestatic index, 3)) (hf : cells + mc ≤ R.cells ∧ slots + ms ≤ R.slots) :
    va_Run p l e R s m args below meth c H locs cells slots mc ms (F0 m pc ls st0) rest (qQ D M N post As.toArray) (qA M N) :=
  va_runS (As := As) (rest := rest) ⟨hx, hb, hml, hown, hg⟩ hM (va_cwS n hg (qG_wsS v hl) rfl hrc hrs v.2.2.2 hR) (q_pre hI hK) rfl hn hls hst (lv_room hcat) hdg hf
theorem q_runSN (hx : p.tables.exec = Jvm.exec) (hb : c.code = cc) (hml : c.maxLocals = nL) (hown : s.vm.findClass own = some m.cls) (hg : ∀ w ∈ qG, w.before args s = true)
    (hM : qMet l D cs y (qws y bytes maxL ret) rm M N As post mc ms) (v : qSm y bytes maxL ret n) (hl : va_Nw (.methodLinkNest own index y host) s) (hrc : rm.cells = mc) (hrs : rm.slots = ms) (hR : rm.frames + 1 ≤ R.frames ∧ 8 + (maxL + 11) + rm.locals ≤ R.locals)
    (hI : qI D M0 s.heap M N H locs) (hK : qK D cs s)
    (hls : ls.size = nL) (hn : As.length = n) (hst : st0 = As.reverse ++ rest) (hcat : (rest.map fun v => v.category).sum ≤ 8) (hdg : decode cc pc = .ok (.invokestatic index, 3)) (hf : cells + mc ≤ R.cells ∧ slots + ms ≤ R.slots) :
    va_Run p l e R s m args below meth c H locs cells slots mc ms (F0 m pc ls st0) rest (qQ D M N post As.toArray) (qA M N) :=
  va_runSN (As := As) (rest := rest) ⟨hx, hb, hml, hown, hg⟩ hM ⟨va_cnB n hg (qws_good v.1) rfl hrc hrs hl (hg _ v.2.2.1) v.2.2.2 hR, hg _ v.2.1, trivial⟩ (q_pre hI hK) rfl hn hls hst (lv_room hcat) hdg hf
theorem q_runI (hx : p.tables.exec = Jvm.exec) (hb : c.code = cc) (hml : c.maxLocals = nL) (hown : s.vm.findClass own = some m.cls) (hg : ∀ w ∈ qG, w.before args s = true)
    (hM : qMet l D cs y (qws y bytes maxL none) rm M N (.ref b :: As) post mc ms) (v : qIm y bytes maxL n) (hl : Cond.methodLink own index y ∈ qG) (hrc : rm.cells = mc) (hrs : rm.slots = ms) (hR : rm.frames + 1 ≤ R.frames ∧ 8 + (maxL + 11) + rm.locals ≤ R.locals)
    (hI : qI D M0 s.heap M N H locs) (hK : qK D cs s)
    (hls : ls.size = nL) (hn : As.length = n) (hst : st0 = As.reverse ++ .ref b :: rest) (hcat : (rest.map fun v => v.category).sum ≤ 8) (hdg : decode cc pc = .ok (.invokespecial index, 3)) (hf : cells + mc ≤ R.cells ∧ slots + ms ≤ R.slots) :
    va_Run p l e R s m args below meth c H locs cells slots mc ms (F0 m pc ls st0) rest (qQ D M N post (Value.ref b :: As).toArray) (qA M N) :=
  va_runI (As := As) (rest := rest) ⟨hx, hb, hml, hown, hg⟩ hM (cwI n hg (qws_good v.1) rfl hrc hrs (hg _ v.2.2.1) (hg _ hl) (hg _ v.2.1) v.2.2.2.1 v.2.2.2.2 hR) (q_pre (As := .ref b :: As) hI hK) rfl hn hls hst (lv_room hcat) hdg hf
theorem q_runIN (hx : p.tables.exec = Jvm.exec) (hb : c.code = cc) (hml : c.maxLocals = nL) (hown : s.vm.findClass own = some m.cls) (hg : ∀ w ∈ qG, w.before args s = true)
    (hM : qMet l D cs y (qws y bytes maxL none) rm M N (.ref b :: As) post mc ms) (v : qIm y bytes maxL n) (hl : va_Nw (.methodLinkNest own index y host) s) (hrc : rm.cells = mc) (hrs : rm.slots = ms) (hR : rm.frames + 1 ≤ R.frames ∧ 8 + (maxL + 11) + rm.locals ≤ R.locals)
    (hI : qI D M0 s.heap M N H locs) (hK : qK D cs s)
    (hls : ls.size = nL) (hn : As.length = n) (hst : st0 = As.reverse ++ .ref b :: rest) (hcat : (rest.map fun v => v.category).sum ≤ 8) (hdg : decode cc pc = .ok (.invokespecial index, 3)) (hf : cells + mc ≤ R.cells ∧ slots + ms ≤ R.slots) :
    va_Run p l e R s m args below meth c H locs cells slots mc ms (F0 m pc ls st0) rest (qQ D M N post (Value.ref b :: As).toArray) (qA M N) :=
  va_runIN (As := As) (rest := rest) ⟨hx, hb, hml, hown, hg⟩ hM ⟨va_cnB n hg (qws_good v.1) rfl hrc hrs hl (hg _ v.2.2.1) v.2.2.2.2 hR, v.2.2.2.1, hg _ v.2.1⟩ (q_pre (As := .ref b :: As) hI hK) rfl hn hls hst (lv_room hcat) hdg hf
/-- a method's head -/
theorem q_head {av : List Value} (hy : plainName y.cls = true)
    (body : ∀ (p : Program) (e : Env) (s : State) (m : MethodId) (below : List Frame) (meth : Method) (c : Code) (ls : Array Slot), p.tables.exec = Jvm.exec → c.code = bytes → meth.sig.returnType = ret → meth.locks = false → c.maxLocals = maxL → s.vm.findClass y.cls = some m.cls → meth.name = y.name → (∀ w ∈ qG, w.before av.toArray s = true) → qK D cs s → s.heap.size = N → qI D M s.heap M N s.heap [] → lv_has ls maxL (lv_args 0 av) →
      W p l e rm s m av.toArray below meth c s.heap [] 0 0 (MQ below (qQ D M N post) av.toArray s mc ms (qA M N)) (F0 m 0 ls [])) (hlen : (lg_sl av).length ≤ maxL) :
    qMet l D cs y (qws y bytes maxL ret) rm M N av post mc ms := by
  refine Met.ofW (cc := bytes) (maxL := maxL) (ret := ret) hy rfl ?_
  intro p e s m args below meth c s₁ B hml hv
  have hI := qI.start hv
  obtain ⟨rfl, -, hK, hN⟩ := hv
  have hts := atoms_spec (ws := qws y bytes maxL ret) B.pre
  rw [lg_entry_eq]
  exact body p e s m below meth c _ B.exec B.bytes B.returns B.notSynchronized hml (findClass_of_methodNamed B.named) (name_of_methodNamed B.named B.method).1 (fun w h => hts w (List.mem_cons_of_mem _ h)) hK hN hI (lv_entry av hlen)
/-- ends -/
theorem q_iret {av : Array Value} {N0 : Nat} {v : Int32} (hx : p.tables.exec = Jvm.exec) (hb : c.code = cc) (hr : meth.sig.returnType = some .int) (hlocks : meth.locks = false) (hN : s.heap.size = N0) (hI : qI D M0 s.heap M N H locs) (hp : post (some (.int v)) M N) (hdg : decode cc pc = .ok (.ireturn, 1)) :
    W p l e R s m av below meth c H locs cells slots (MQ below (qQ D M0 N0 post) av s cells slots (qA M0 N0)) (F0 m pc ls [.int v]) :=
  W.iret (v := v) hx hb hr (fun t ht hW => hI.end hN hp ht) (by rw [← hN]; exact hI.2.2.2.2.2) hdg hlocks
theorem q_zret {av : Array Value} {N0 : Nat} {v : Int32} {ty : FieldType} (hx : p.tables.exec = Jvm.exec) (hb : c.code = cc) (hr : meth.sig.returnType = some ty) (hn : narrow ty (.int v) = .int v) (hlocks : meth.locks = false) (hN : s.heap.size = N0) (hI : qI D M0 s.heap M N H locs) (hp : post (some (.int v)) M N) (hdg : decode cc pc = .ok (.ireturn, 1)) :
    W p l e R s m av below meth c H locs cells slots (MQ below (qQ D M0 N0 post) av s cells slots (qA M0 N0)) (F0 m pc ls [.int v]) :=
  W.zret (v := v) hx hb hr hn (fun t ht hW => hI.end hN hp ht) (by rw [← hN]; exact hI.2.2.2.2.2) hdg hlocks
theorem q_vret {av : Array Value} {N0 : Nat} {st : List Value} (hx : p.tables.exec = Jvm.exec) (hb : c.code = cc) (hr : meth.sig.returnType = none) (hlocks : meth.locks = false) (hN : s.heap.size = N0) (hI : qI D M0 s.heap M N H locs) (hp : post none M N) (hdg : decode cc pc = .ok (.return_, 1)) :
    W p l e R s m av below meth c H locs cells slots (MQ below (qQ D M0 N0 post) av s cells slots (qA M0 N0)) (F0 m pc ls []) :=
  W.vret hx hb hr (fun t ht hW => hI.end hN hp ht) (by rw [← hN]; exact hI.2.2.2.2.2) hdg hlocks
theorem q_aret {av : Array Value} {N0 : Nat} {v : Value} {rt : String} (hx : p.tables.exec = Jvm.exec) (hb : c.code = cc) (hr : meth.sig.returnType = some (.object rt)) (hv : v = .null ∨ ∃ a, v = .ref a) (hlocks : meth.locks = false) (hN : s.heap.size = N0) (hI : qI D M0 s.heap M N H locs) (hp : post (some v) M N) (hdg : decode cc pc = .ok (.areturn, 1)) :
    W p l e R s m av below meth c H locs cells slots (MQ below (qQ D M0 N0 post) av s cells slots (qA M0 N0)) (F0 m pc ls [v]) :=
  W.aret (v := v) hx hb hr (Or.inl ⟨_, rfl⟩) hv (fun t ht hW => hI.end hN hp ht) (by rw [← hN]; exact hI.2.2.2.2.2) hdg hlocks
theorem q_lret {av : Array Value} {N0 : Nat} {v : Int64} (hx : p.tables.exec = Jvm.exec) (hb : c.code = cc) (hr : meth.sig.returnType = some .long) (hlocks : meth.locks = false) (hN : s.heap.size = N0) (hI : qI D M0 s.heap M N H locs) (hp : post (some (.long v)) M N) (hdg : decode cc pc = .ok (.lreturn, 1)) :
    W p l e R s m av below meth c H locs cells slots (MQ below (qQ D M0 N0 post) av s cells slots (qA M0 N0)) (F0 m pc ls [.long v]) :=
  W.lret (v := v) hx hb hr (fun t ht hW => hI.end hN hp ht) (by rw [← hN]; exact hI.2.2.2.2.2) hdg hlocks
/-- on behind a call -/
theorem q_go {av : Array Value} (hr : va_Run p l e R s m args below meth c H locs cells slots mc ms (F0 m pc ls st0) rest (qQ D M N post av) (qA M N)) (hI : qI D M0 s.heap M N H locs)
    (kk : ∀ (r : Option Value) (M' : qM) (N' : Nat) (H1 : Heap) (locs1 : List Loc), post r M' N' → qI D M0 s.heap M' N' H1 locs1 → W p l e R s m args below meth c H1 locs1 (cells + mc) (slots + ms) Q (F0 m (pc + 3) ls (r.toList ++ rest))) : W p l e R s m args below meth c H locs cells slots Q (F0 m pc ls st0) := by
  intro T hT X
  obtain ⟨v, st₀, t, T', L, h0, X', hL, e1, e2, ⟨r, M', N', hv, hp, hP, hz, hd, hle, hk⟩, st⟩ := hr T hT X
  cases hv
  rw [h0] at hk
  obtain ⟨t2, a1, b1⟩ := kk v M' N' T'.heap (locs ++ L) hp (hI.call (by rw [e1]; exact hP) (by rw [e1]; exact hz) hd hle (fun q q1 q2 => by rw [e1]; exact hk q q1 q2) hL) T' rfl X'
  exact ⟨t2, st t2 a1, b1⟩
/-- .. that only answered -/
theorem q_goR {v : Value} {av : Array Value} (hr : va_Run p l e R s m args below meth c H locs cells slots 0 0 (F0 m pc ls st0) rest (qQ D M N (qRet M N v) av) (qA M N)) (hI : qI D M0 s.heap M N H locs)
    (kk : ∀ (H1 : Heap) (locs1 : List Loc), qI D M0 s.heap M N H1 locs1 → W p l e R s m args below meth c H1 locs1 cells slots Q (F0 m (pc + 3) ls (v :: rest))) : W p l e R s m args below meth c H locs cells slots Q (F0 m pc ls st0) :=
  q_go hr hI (fun r M' N' H1 locs1 hp hI1 => by
    obtain ⟨rfl, rfl, rfl⟩ := hp
    exact kk H1 locs1 hI1)
/-- .. that changed the model and made nothing -/
theorem q_goM {av : Array Value} {post : Option Value → qM → Prop} (hr : va_Run p l e R s m args below meth c H locs cells slots 0 0 (F0 m pc ls st0) rest (qQ D M N (fun r M' N' => post r M' ∧ N' = N) av) (qA M N)) (hI : qI D M0 s.heap M N H locs)
    (kk : ∀ (r : Option Value) (M' : qM) (H1 : Heap) (locs1 : List Loc), post r M' → qI D M0 s.heap M' N H1 locs1 → W p l e R s m args below meth c H1 locs1 cells slots Q (F0 m (pc + 3) ls (r.toList ++ rest))) : W p l e R s m args below meth c H locs cells slots Q (F0 m pc ls st0) :=
  q_go hr hI (fun r M' N' H1 locs1 hp hI1 => by
    obtain ⟨hp, rfl⟩ := hp
    exact kk r M' H1 locs1 hp hI1)
end QR
/-! ROWS of ints as lists -/
def qrow (cI : ClassId) (L : List Int32) : va_E := .inl (cI, L.length, .inl (fun j => L.getD j 0))
theorem q_updL {L : List Int32} {i : Nat} (x : Int32) (h : i < L.length) : upd (fun j => L.getD j 0) i x = fun j => (L.set i x).getD j 0 := by
  funext j
  by_cases hj : j = i
  · subst hj
    simp [upd, List.getD, h]
  · simp only [upd, if_neg hj, List.getD]
    rw [List.getElem?_set_ne (Ne.symm hj)]
theorem qrow_set (cI : ClassId) {L : List Int32} {i : Nat} (x : Int32) (h : i < L.length) : (.inl (cI, L.length, .inl (upd (fun j => L.getD j 0) i x)) : va_E) = qrow cI (L.set i x) := by
  rw [q_updL x h, qrow, List.length_set]
/-- what is at an index, NONE outside -/
def rowAt (L : List Int32) (i : Int32) : Int32 := if 0 ≤ i ∧ i < Int32.ofNat L.length then L.getD i.toNatClampNeg 0 else -1
/-- what is put outside is dropped -/
def rowPut (L : List Int32) (i x : Int32) : List Int32 := if 0 ≤ i ∧ i < Int32.ofNat L.length then L.set i.toNatClampNeg x else L
def rowFill (L : List Int32) (x : Int32) : List Int32 := List.replicate L.length x
theorem rowPut_length (L : List Int32) (i x : Int32) : (rowPut L i x).length = L.length := by
  unfold rowPut; split <;> simp
theorem rowFill_length (L : List Int32) (x : Int32) : (rowFill L x).length = L.length := by simp [rowFill]
theorem q_within {L : List Int32} {i : Int32} (hL : L.length < 2 ^ 31) (h0 : 0 ≤ i) (h1 : i < Int32.ofNat L.length) : i.toNatClampNeg < L.length := by
  have e1 : (Int32.ofNat L.length).toInt = (L.length : Int) := nI_toInt hL
  rw [Int32.lt_iff_toInt_lt, e1] at h1
  rw [Int32.le_iff_toInt_le, Int32.toInt_zero] at h0
  have : i.toNatClampNeg = i.toInt.toNat := rfl
  omega
theorem q_vpin {L : List Int32} {i : Int32} (hL : L.length < 2 ^ 31) (h0 : 0 ≤ i) (h1 : i < Int32.ofNat L.length) : vp_in i L.length := by
  intro h
  rcases h with h | h
  · rw [Int32.lt_iff_toInt_lt, Int32.toInt_zero] at h
    rw [Int32.le_iff_toInt_le, Int32.toInt_zero] at h0
    omega
  · exact absurd (q_within hL h0 h1) (Nat.not_lt.mpr h)
theorem q_nlt {x : Int32} (h : ¬ x < 0) : 0 ≤ x := by
  rw [Int32.lt_iff_toInt_lt, Int32.toInt_zero] at h
  rw [Int32.le_iff_toInt_le, Int32.toInt_zero]
  omega
theorem q_nle {x y : Int32} (h : ¬ y ≤ x) : x < y := by
  rw [Int32.le_iff_toInt_le] at h
  rw [Int32.lt_iff_toInt_lt]
  omega
/-- a loop's counter below its bound -/
def qmu (b x : Int32) : Nat := (b.toInt - x.toInt).toNat
theorem q_mu {b x : Int32} {n : Nat} (h : ¬ b ≤ x) (hm : qmu b x < n + 1) : qmu b (x + 1) < n := by
  have h1 := q_nle h
  rw [Int32.lt_iff_toInt_lt] at h1
  have h2 : (x + 1).toInt = x.toInt + 1 := by
    have hb := Int32.toInt_lt b
    have hx := Int32.le_toInt x
    rw [Int32.toInt_add]
    have : (1 : Int32).toInt = 1 := by decide
    rw [this]
    exact Int.bmod_eq_of_le (by omega) (by omega)
  unfold qmu at hm ⊢
  omega
theorem q_fuel (b : Int32) : qmu b 0 < b.toInt.toNat + 1 := by
  unfold qmu
  rw [Int32.toInt_zero]
  omega
end
section
/-! WHAT A STATE IS: rows, and the objects that hold them; each object lies ahead of its own rows and parts -/
abbrev qIn (a k q : Nat) : Prop := a ≤ q ∧ q < a + k
/-- outside F nothing changed -/
abbrev qFr (F : Nat → Prop) (M M' : qM) : Prop := ∀ q : Nat, ¬ F q → M' q = M q
theorem qFr.rf {F : Nat → Prop} {M : qM} : qFr F M M := fun _ _ => rfl
theorem qFr.tr {F G : Nat → Prop} {M M1 M2 : qM} (h : qFr F M M1) (h2 : qFr G M1 M2) (hs : ∀ q, G q → F q) : qFr F M M2 := fun q hq => (h2 q (fun z => hq (hs q z))).trans (h q hq)
theorem qFr.up {M : qM} {a k : Nat} {e : va_E} (hk : 0 < k) : qFr (qIn a k) M (qUp M a e) := fun q hq => qUp_ne (fun z => hq (by omega))
def qRow (cs : qC) (M : qM) (r : Nat) (L : List Int32) (k : Nat) : Prop := M r = some (qrow (cs 0) L) ∧ L.length = k ∧ k < 2 ^ 31
theorem qRow.same {cs : qC} {M M' : qM} {r k : Nat} {L : List Int32} (h : qRow cs M r L k) (e : M' r = M r) : qRow cs M' r L k := ⟨e.trans h.1, h.2⟩
abbrev qMod (N : Nat) (v : Option Value) (P : qM → Prop) : Option Value → qM → Nat → Prop := fun r M' N' => r = v ∧ P M' ∧ N' = N
section QG
variable {p : Program} {l : Launch} {e : Env} {R : Room} {s : State} {m : MethodId} {args : Array Value} {below : List Frame} {meth : Method} {c : Code} {H : Heap} {locs : List Loc} {cells slots : Nat} {Q : State → Prop}
variable {pc : Nat} {ls : Array Slot} {rest st0 : List Value} {D : va_G} {M0 M : qM} {N : Nat}
theorem q_goP {v : Value} {P : qM → Prop} {av : Array Value} (hr : va_Run p l e R s m args below meth c H locs cells slots 0 0 (F0 m pc ls st0) rest (qQ D M N (qMod N (some v) P) av) (qA M N)) (hI : qI D M0 s.heap M N H locs)
    (kk : ∀ (M' : qM) (H1 : Heap) (locs1 : List Loc), P M' → qI D M0 s.heap M' N H1 locs1 → W p l e R s m args below meth c H1 locs1 cells slots Q (F0 m (pc + 3) ls (v :: rest))) : W p l e R s m args below meth c H locs cells slots Q (F0 m pc ls st0) :=
  q_go hr hI (fun r M' N' H1 locs1 hp hI1 => by
    obtain ⟨rfl, hp, rfl⟩ := hp
    exact kk M' H1 locs1 hp hI1)
theorem q_goN {P : qM → Prop} {av : Array Value} (hr : va_Run p l e R s m args below meth c H locs cells slots 0 0 (F0 m pc ls st0) rest (qQ D M N (qMod N none P) av) (qA M N)) (hI : qI D M0 s.heap M N H locs)
    (kk : ∀ (M' : qM) (H1 : Heap) (locs1 : List Loc), P M' → qI D M0 s.heap M' N H1 locs1 → W p l e R s m args below meth c H1 locs1 cells slots Q (F0 m (pc + 3) ls rest)) : W p l e R s m args below meth c H locs cells slots Q (F0 m pc ls st0) :=
  q_go hr hI (fun r M' N' H1 locs1 hp hI1 => by
    obtain ⟨rfl, hp, rfl⟩ := hp
    exact kk M' H1 locs1 hp hI1)
end QG
def qbi (b : Bool) : Int32 := bif b then 1 else 0
abbrev qBV : Type := List Int32 × List Int32 × Int32
def qLB (cs : qC) (M : qM) (a : Nat) (v : qBV) : Prop := M a = some (.inr (2, [.ref (a + 1), .ref (a + 2), .int v.2.2])) ∧ qRow cs M (a + 1) v.1 16 ∧ qRow cs M (a + 2) v.2.1 16
theorem qLB.same {cs : qC} {M M' : qM} {a : Nat} {v : qBV} (h : qLB cs M a v) (hs : ∀ q : Nat, a ≤ q → q < a + 3 → M' q = M q) : qLB cs M' a v := ⟨(hs a (by omega) (by omega)).trans h.1, h.2.1.same (hs (a + 1) (by omega) (by omega)), h.2.2.same (hs (a + 2) (by omega) (by omega))⟩
theorem qLB.fr {cs : qC} {M M' : qM} {a : Nat} {v : qBV} {F : Nat → Prop} (h : qLB cs M a v) (hs : qFr F M M') (hd : ∀ q : Nat, a ≤ q → q < a + 3 → ¬ F q) : qLB cs M' a v := h.same (fun q h1 h2 => hs q (hd q h1 h2))
theorem qLB.s0 {cs : qC} {M M' : qM} {a : Nat} {v : qBV} {x : List Int32} (h : qLB cs M a v) (hx : qRow cs M' (a + 1) x 16) (hs : qFr (qIn (a + 1) 1) M M') : qLB cs M' a (x, v.2.1, v.2.2) := ⟨(hs a (by omega)).trans h.1, hx, h.2.2.same (hs _ (by omega))⟩
theorem qLB.s1 {cs : qC} {M M' : qM} {a : Nat} {v : qBV} {x : List Int32} (h : qLB cs M a v) (hx : qRow cs M' (a + 2) x 16) (hs : qFr (qIn (a + 2) 1) M M') : qLB cs M' a (v.1, x, v.2.2) := ⟨(hs a (by omega)).trans h.1, h.2.1.same (hs _ (by omega)), hx⟩
theorem qLB.i2 {cs : qC} {M : qM} {a : Nat} {v : qBV} (x : Int32) (h : qLB cs M a v) : qLB cs (qUp M a (.inr (2, [.ref (a + 1), .ref (a + 2), .int x]))) a (v.1, v.2.1, x) := ⟨qUp_at _ _ _, h.2.1.same (qUp_ne (by omega)), h.2.2.same (qUp_ne (by omega))⟩
abbrev qTV : Type := List Int32 × List Int32 × List Int32 × Int32
def qLT (cs : qC) (M : qM) (a : Nat) (v : qTV) : Prop := M a = some (.inr (9, [.ref (a + 1), .ref (a + 2), .ref (a + 3), .int v.2.2.2])) ∧ qRow cs M (a + 1) v.1 16 ∧ qRow cs M (a + 2) v.2.1 16 ∧ qRow cs M (a + 3) v.2.2.1 16
theorem qLT.same {cs : qC} {M M' : qM} {a : Nat} {v : qTV} (h : qLT cs M a v) (hs : ∀ q : Nat, a ≤ q → q < a + 4 → M' q = M q) : qLT cs M' a v := ⟨(hs a (by omega) (by omega)).trans h.1, h.2.1.same (hs (a + 1) (by omega) (by omega)), h.2.2.1.same (hs (a + 2) (by omega) (by omega)), h.2.2.2.same (hs (a + 3) (by omega) (by omega))⟩
theorem qLT.fr {cs : qC} {M M' : qM} {a : Nat} {v : qTV} {F : Nat → Prop} (h : qLT cs M a v) (hs : qFr F M M') (hd : ∀ q : Nat, a ≤ q → q < a + 4 → ¬ F q) : qLT cs M' a v := h.same (fun q h1 h2 => hs q (hd q h1 h2))
theorem qLT.s0 {cs : qC} {M M' : qM} {a : Nat} {v : qTV} {x : List Int32} (h : qLT cs M a v) (hx : qRow cs M' (a + 1) x 16) (hs : qFr (qIn (a + 1) 1) M M') : qLT cs M' a (x, v.2.1, v.2.2.1, v.2.2.2) := ⟨(hs a (by omega)).trans h.1, hx, h.2.2.1.same (hs _ (by omega)), h.2.2.2.same (hs _ (by omega))⟩
theorem qLT.s1 {cs : qC} {M M' : qM} {a : Nat} {v : qTV} {x : List Int32} (h : qLT cs M a v) (hx : qRow cs M' (a + 2) x 16) (hs : qFr (qIn (a + 2) 1) M M') : qLT cs M' a (v.1, x, v.2.2.1, v.2.2.2) := ⟨(hs a (by omega)).trans h.1, h.2.1.same (hs _ (by omega)), hx, h.2.2.2.same (hs _ (by omega))⟩
theorem qLT.s2 {cs : qC} {M M' : qM} {a : Nat} {v : qTV} {x : List Int32} (h : qLT cs M a v) (hx : qRow cs M' (a + 3) x 16) (hs : qFr (qIn (a + 3) 1) M M') : qLT cs M' a (v.1, v.2.1, x, v.2.2.2) := ⟨(hs a (by omega)).trans h.1, h.2.1.same (hs _ (by omega)), h.2.2.1.same (hs _ (by omega)), hx⟩
theorem qLT.i3 {cs : qC} {M : qM} {a : Nat} {v : qTV} (x : Int32) (h : qLT cs M a v) : qLT cs (qUp M a (.inr (9, [.ref (a + 1), .ref (a + 2), .ref (a + 3), .int x]))) a (v.1, v.2.1, v.2.2.1, x) := ⟨qUp_at _ _ _, h.2.1.same (qUp_ne (by omega)), h.2.2.1.same (qUp_ne (by omega)), h.2.2.2.same (qUp_ne (by omega))⟩
abbrev qSV : Type := List Int32 × List Int32 × List Int32 × List Int32 × Int32
def qLS (cs : qC) (M : qM) (a : Nat) (v : qSV) : Prop := M a = some (.inr (8, [.ref (a + 1), .ref (a + 2), .ref (a + 3), .ref (a + 4), .int v.2.2.2.2])) ∧ qRow cs M (a + 1) v.1 3 ∧ qRow cs M (a + 2) v.2.1 3 ∧ qRow cs M (a + 3) v.2.2.1 3 ∧ qRow cs M (a + 4) v.2.2.2.1 3
theorem qLS.same {cs : qC} {M M' : qM} {a : Nat} {v : qSV} (h : qLS cs M a v) (hs : ∀ q : Nat, a ≤ q → q < a + 5 → M' q = M q) : qLS cs M' a v := ⟨(hs a (by omega) (by omega)).trans h.1, h.2.1.same (hs (a + 1) (by omega) (by omega)), h.2.2.1.same (hs (a + 2) (by omega) (by omega)), h.2.2.2.1.same (hs (a + 3) (by omega) (by omega)), h.2.2.2.2.same (hs (a + 4) (by omega) (by omega))⟩
theorem qLS.fr {cs : qC} {M M' : qM} {a : Nat} {v : qSV} {F : Nat → Prop} (h : qLS cs M a v) (hs : qFr F M M') (hd : ∀ q : Nat, a ≤ q → q < a + 5 → ¬ F q) : qLS cs M' a v := h.same (fun q h1 h2 => hs q (hd q h1 h2))
theorem qLS.s0 {cs : qC} {M M' : qM} {a : Nat} {v : qSV} {x : List Int32} (h : qLS cs M a v) (hx : qRow cs M' (a + 1) x 3) (hs : qFr (qIn (a + 1) 1) M M') : qLS cs M' a (x, v.2.1, v.2.2.1, v.2.2.2.1, v.2.2.2.2) := ⟨(hs a (by omega)).trans h.1, hx, h.2.2.1.same (hs _ (by omega)), h.2.2.2.1.same (hs _ (by omega)), h.2.2.2.2.same (hs _ (by omega))⟩
theorem qLS.s1 {cs : qC} {M M' : qM} {a : Nat} {v : qSV} {x : List Int32} (h : qLS cs M a v) (hx : qRow cs M' (a + 2) x 3) (hs : qFr (qIn (a + 2) 1) M M') : qLS cs M' a (v.1, x, v.2.2.1, v.2.2.2.1, v.2.2.2.2) := ⟨(hs a (by omega)).trans h.1, h.2.1.same (hs _ (by omega)), hx, h.2.2.2.1.same (hs _ (by omega)), h.2.2.2.2.same (hs _ (by omega))⟩
theorem qLS.s2 {cs : qC} {M M' : qM} {a : Nat} {v : qSV} {x : List Int32} (h : qLS cs M a v) (hx : qRow cs M' (a + 3) x 3) (hs : qFr (qIn (a + 3) 1) M M') : qLS cs M' a (v.1, v.2.1, x, v.2.2.2.1, v.2.2.2.2) := ⟨(hs a (by omega)).trans h.1, h.2.1.same (hs _ (by omega)), h.2.2.1.same (hs _ (by omega)), hx, h.2.2.2.2.same (hs _ (by omega))⟩
theorem qLS.s3 {cs : qC} {M M' : qM} {a : Nat} {v : qSV} {x : List Int32} (h : qLS cs M a v) (hx : qRow cs M' (a + 4) x 3) (hs : qFr (qIn (a + 4) 1) M M') : qLS cs M' a (v.1, v.2.1, v.2.2.1, x, v.2.2.2.2) := ⟨(hs a (by omega)).trans h.1, h.2.1.same (hs _ (by omega)), h.2.2.1.same (hs _ (by omega)), h.2.2.2.1.same (hs _ (by omega)), hx⟩
theorem qLS.i4 {cs : qC} {M : qM} {a : Nat} {v : qSV} (x : Int32) (h : qLS cs M a v) : qLS cs (qUp M a (.inr (8, [.ref (a + 1), .ref (a + 2), .ref (a + 3), .ref (a + 4), .int x]))) a (v.1, v.2.1, v.2.2.1, v.2.2.2.1, x) := ⟨qUp_at _ _ _, h.2.1.same (qUp_ne (by omega)), h.2.2.1.same (qUp_ne (by omega)), h.2.2.2.1.same (qUp_ne (by omega)), h.2.2.2.2.same (qUp_ne (by omega))⟩
abbrev qRV : Type := Int32 × Int32 × Int32 × Int32
def qLR (cs : qC) (M : qM) (a : Nat) (v : qRV) : Prop := M a = some (.inr (7, [.int v.1, .int v.2.1, .int v.2.2.1, .int v.2.2.2]))
theorem qLR.same {cs : qC} {M M' : qM} {a : Nat} {v : qRV} (h : qLR cs M a v) (hs : ∀ q : Nat, a ≤ q → q < a + 1 → M' q = M q) : qLR cs M' a v := (hs a (by omega) (by omega)).trans h
theorem qLR.fr {cs : qC} {M M' : qM} {a : Nat} {v : qRV} {F : Nat → Prop} (h : qLR cs M a v) (hs : qFr F M M') (hd : ∀ q : Nat, a ≤ q → q < a + 1 → ¬ F q) : qLR cs M' a v := h.same (fun q h1 h2 => hs q (hd q h1 h2))
theorem qLR.i0 {cs : qC} {M : qM} {a : Nat} {v : qRV} (x : Int32) (h : qLR cs M a v) : qLR cs (qUp M a (.inr (7, [.int x, .int v.2.1, .int v.2.2.1, .int v.2.2.2]))) a (x, v.2.1, v.2.2.1, v.2.2.2) := qUp_at _ _ _
theorem qLR.i1 {cs : qC} {M : qM} {a : Nat} {v : qRV} (x : Int32) (h : qLR cs M a v) : qLR cs (qUp M a (.inr (7, [.int v.1, .int x, .int v.2.2.1, .int v.2.2.2]))) a (v.1, x, v.2.2.1, v.2.2.2) := qUp_at _ _ _
theorem qLR.i2 {cs : qC} {M : qM} {a : Nat} {v : qRV} (x : Int32) (h : qLR cs M a v) : qLR cs (qUp M a (.inr (7, [.int v.1, .int v.2.1, .int x, .int v.2.2.2]))) a (v.1, v.2.1, x, v.2.2.2) := qUp_at _ _ _
theorem qLR.i3 {cs : qC} {M : qM} {a : Nat} {v : qRV} (x : Int32) (h : qLR cs M a v) : qLR cs (qUp M a (.inr (7, [.int v.1, .int v.2.1, .int v.2.2.1, .int x]))) a (v.1, v.2.1, v.2.2.1, x) := qUp_at _ _ _
abbrev qNV : Type := List Int32 × Int32
def qLN (cs : qC) (M : qM) (a : Nat) (v : qNV) : Prop := M a = some (.inr (5, [.ref (a + 1), .int v.2])) ∧ qRow cs M (a + 1) v.1 54
theorem qLN.same {cs : qC} {M M' : qM} {a : Nat} {v : qNV} (h : qLN cs M a v) (hs : ∀ q : Nat, a ≤ q → q < a + 2 → M' q = M q) : qLN cs M' a v := ⟨(hs a (by omega) (by omega)).trans h.1, h.2.same (hs (a + 1) (by omega) (by omega))⟩
theorem qLN.fr {cs : qC} {M M' : qM} {a : Nat} {v : qNV} {F : Nat → Prop} (h : qLN cs M a v) (hs : qFr F M M') (hd : ∀ q : Nat, a ≤ q → q < a + 2 → ¬ F q) : qLN cs M' a v := h.same (fun q h1 h2 => hs q (hd q h1 h2))
theorem qLN.s0 {cs : qC} {M M' : qM} {a : Nat} {v : qNV} {x : List Int32} (h : qLN cs M a v) (hx : qRow cs M' (a + 1) x 54) (hs : qFr (qIn (a + 1) 1) M M') : qLN cs M' a (x, v.2) := ⟨(hs a (by omega)).trans h.1, hx⟩
theorem qLN.i1 {cs : qC} {M : qM} {a : Nat} {v : qNV} (x : Int32) (h : qLN cs M a v) : qLN cs (qUp M a (.inr (5, [.ref (a + 1), .int x]))) a (v.1, x) := ⟨qUp_at _ _ _, h.2.same (qUp_ne (by omega))⟩
abbrev qQV : Type := qBV × qTV × qSV × Int32 × Int32 × Int32
def qLQ (cs : qC) (M : qM) (a : Nat) (v : qQV) : Prop := M a = some (.inr (6, [.ref (a + 1), .ref (a + 4), .ref (a + 8), .int v.2.2.2.1, .int v.2.2.2.2.1, .int v.2.2.2.2.2])) ∧ qLB cs M (a + 1) v.1 ∧ qLT cs M (a + 4) v.2.1 ∧ qLS cs M (a + 8) v.2.2.1
theorem qLQ.same {cs : qC} {M M' : qM} {a : Nat} {v : qQV} (h : qLQ cs M a v) (hs : ∀ q : Nat, a ≤ q → q < a + 13 → M' q = M q) : qLQ cs M' a v := ⟨(hs a (by omega) (by omega)).trans h.1, h.2.1.same (fun q h1 h2 => hs q (by omega) (by omega)), h.2.2.1.same (fun q h1 h2 => hs q (by omega) (by omega)), h.2.2.2.same (fun q h1 h2 => hs q (by omega) (by omega))⟩
theorem qLQ.fr {cs : qC} {M M' : qM} {a : Nat} {v : qQV} {F : Nat → Prop} (h : qLQ cs M a v) (hs : qFr F M M') (hd : ∀ q : Nat, a ≤ q → q < a + 13 → ¬ F q) : qLQ cs M' a v := h.same (fun q h1 h2 => hs q (hd q h1 h2))
theorem qLQ.s0 {cs : qC} {M M' : qM} {a : Nat} {v : qQV} {x : qBV} (h : qLQ cs M a v) (hx : qLB cs M' (a + 1) x) (hs : qFr (qIn (a + 1) 3) M M') : qLQ cs M' a (x, v.2.1, v.2.2.1, v.2.2.2.1, v.2.2.2.2.1, v.2.2.2.2.2) := ⟨(hs a (by omega)).trans h.1, hx, h.2.2.1.same (fun q h1 h2 => hs q (by omega)), h.2.2.2.same (fun q h1 h2 => hs q (by omega))⟩
theorem qLQ.s1 {cs : qC} {M M' : qM} {a : Nat} {v : qQV} {x : qTV} (h : qLQ cs M a v) (hx : qLT cs M' (a + 4) x) (hs : qFr (qIn (a + 4) 4) M M') : qLQ cs M' a (v.1, x, v.2.2.1, v.2.2.2.1, v.2.2.2.2.1, v.2.2.2.2.2) := ⟨(hs a (by omega)).trans h.1, h.2.1.same (fun q h1 h2 => hs q (by omega)), hx, h.2.2.2.same (fun q h1 h2 => hs q (by omega))⟩
theorem qLQ.s2 {cs : qC} {M M' : qM} {a : Nat} {v : qQV} {x : qSV} (h : qLQ cs M a v) (hx : qLS cs M' (a + 8) x) (hs : qFr (qIn (a + 8) 5) M M') : qLQ cs M' a (v.1, v.2.1, x, v.2.2.2.1, v.2.2.2.2.1, v.2.2.2.2.2) := ⟨(hs a (by omega)).trans h.1, h.2.1.same (fun q h1 h2 => hs q (by omega)), h.2.2.1.same (fun q h1 h2 => hs q (by omega)), hx⟩
theorem qLQ.i3 {cs : qC} {M : qM} {a : Nat} {v : qQV} (x : Int32) (h : qLQ cs M a v) : qLQ cs (qUp M a (.inr (6, [.ref (a + 1), .ref (a + 4), .ref (a + 8), .int x, .int v.2.2.2.2.1, .int v.2.2.2.2.2]))) a (v.1, v.2.1, v.2.2.1, x, v.2.2.2.2.1, v.2.2.2.2.2) := ⟨qUp_at _ _ _, h.2.1.same (fun q h1 h2 => qUp_ne (by omega)), h.2.2.1.same (fun q h1 h2 => qUp_ne (by omega)), h.2.2.2.same (fun q h1 h2 => qUp_ne (by omega))⟩
theorem qLQ.i4 {cs : qC} {M : qM} {a : Nat} {v : qQV} (x : Int32) (h : qLQ cs M a v) : qLQ cs (qUp M a (.inr (6, [.ref (a + 1), .ref (a + 4), .ref (a + 8), .int v.2.2.2.1, .int x, .int v.2.2.2.2.2]))) a (v.1, v.2.1, v.2.2.1, v.2.2.2.1, x, v.2.2.2.2.2) := ⟨qUp_at _ _ _, h.2.1.same (fun q h1 h2 => qUp_ne (by omega)), h.2.2.1.same (fun q h1 h2 => qUp_ne (by omega)), h.2.2.2.same (fun q h1 h2 => qUp_ne (by omega))⟩
theorem qLQ.i5 {cs : qC} {M : qM} {a : Nat} {v : qQV} (x : Int32) (h : qLQ cs M a v) : qLQ cs (qUp M a (.inr (6, [.ref (a + 1), .ref (a + 4), .ref (a + 8), .int v.2.2.2.1, .int v.2.2.2.2.1, .int x]))) a (v.1, v.2.1, v.2.2.1, v.2.2.2.1, v.2.2.2.2.1, x) := ⟨qUp_at _ _ _, h.2.1.same (fun q h1 h2 => qUp_ne (by omega)), h.2.2.1.same (fun q h1 h2 => qUp_ne (by omega)), h.2.2.2.same (fun q h1 h2 => qUp_ne (by omega))⟩
end
section
/-! the words that calls and fields want, by their places -/
theorem v_X1_init : qIm yX1_init cX1_init 1 0 := ⟨(qT1_in 43 rfl rfl), (qT1_in 42 (by decide +kernel) rfl), (qT1_in 3 (by decide +kernel) rfl), rfl, ⟨by decide +kernel, by decide +kernel, by decide +kernel⟩⟩
theorem v_X1_makeEmpty : qVm yX1_makeEmpty cX1_makeEmpty 1 none 0 := ⟨(qT1_in 110 rfl rfl), (qT1_in 108 (by decide +kernel) rfl), (qT1_in 109 (by decide +kernel) rfl), (qT1_in 3 (by decide +kernel) rfl), ⟨by decide +kernel, by decide +kernel, by decide +kernel⟩⟩
theorem v_X1_takeOver : qVm yX1_takeOver cX1_takeOver 2 none 1 := ⟨(qT2_in 55 rfl rfl), (qT2_in 53 (by decide +kernel) rfl), (qT2_in 54 (by decide +kernel) rfl), (qT1_in 3 (by decide +kernel) rfl), ⟨by decide +kernel, by decide +kernel, by decide +kernel⟩⟩
theorem v_X1_add : qVm yX1_add cX1_add 3 (some .int) 1 := ⟨(qT2_in 86 rfl rfl), (qT2_in 84 (by decide +kernel) rfl), (qT2_in 85 (by decide +kernel) rfl), (qT1_in 3 (by decide +kernel) rfl), ⟨by decide +kernel, by decide +kernel, by decide +kernel⟩⟩
theorem v_X1_isThere : qVm yX1_isThere cX1_isThere 2 (some .boolean) 1 := ⟨(qT2_in 110 rfl rfl), (qT2_in 108 (by decide +kernel) rfl), (qT2_in 109 (by decide +kernel) rfl), (qT1_in 3 (by decide +kernel) rfl), ⟨by decide +kernel, by decide +kernel, by decide +kernel⟩⟩
theorem v_X1_weightOf : qVm yX1_weightOf cX1_weightOf 2 (some .int) 1 := ⟨(qT2_in 193 rfl rfl), (qT2_in 191 (by decide +kernel) rfl), (qT2_in 192 (by decide +kernel) rfl), (qT1_in 3 (by decide +kernel) rfl), ⟨by decide +kernel, by decide +kernel, by decide +kernel⟩⟩
theorem v_X1_holderOf : qVm yX1_holderOf cX1_holderOf 2 (some .int) 1 := ⟨(qT2_in 114 rfl rfl), (qT2_in 112 (by decide +kernel) rfl), (qT2_in 113 (by decide +kernel) rfl), (qT1_in 3 (by decide +kernel) rfl), ⟨by decide +kernel, by decide +kernel, by decide +kernel⟩⟩
theorem v_X1_depthOf : qVm yX1_depthOf cX1_depthOf 2 (some .int) 1 := ⟨(qT2_in 174 rfl rfl), (qT2_in 172 (by decide +kernel) rfl), (qT2_in 173 (by decide +kernel) rfl), (qT1_in 3 (by decide +kernel) rfl), ⟨by decide +kernel, by decide +kernel, by decide +kernel⟩⟩
theorem v_X1_rootByHolders : qVm yX1_rootByHolders cX1_rootByHolders 2 (some .int) 1 := ⟨(qT2_in 119 rfl rfl), (qT2_in 117 (by decide +kernel) rfl), (qT2_in 118 (by decide +kernel) rfl), (qT1_in 3 (by decide +kernel) rfl), ⟨by decide +kernel, by decide +kernel, by decide +kernel⟩⟩
theorem v_X1_sumByHolders : qVm yX1_sumByHolders cX1_sumByHolders 5 (some .int) 1 := ⟨(qT2_in 189 rfl rfl), (qT2_in 187 (by decide +kernel) rfl), (qT2_in 188 (by decide +kernel) rfl), (qT1_in 3 (by decide +kernel) rfl), ⟨by decide +kernel, by decide +kernel, by decide +kernel⟩⟩
theorem v_X1_jointByHolders : qVm yX1_jointByHolders cX1_jointByHolders 5 (some .int) 2 := ⟨(qT4_in 124 rfl rfl), (qT4_in 122 (by decide +kernel) rfl), (qT4_in 123 (by decide +kernel) rfl), (qT1_in 3 (by decide +kernel) rfl), ⟨by decide +kernel, by decide +kernel, by decide +kernel⟩⟩
theorem v_X1_hangingAtOnce : qVm yX1_hangingAtOnce cX1_hangingAtOnce 4 (some .int) 1 := ⟨(qT3_in 160 rfl rfl), (qT3_in 158 (by decide +kernel) rfl), (qT3_in 159 (by decide +kernel) rfl), (qT1_in 3 (by decide +kernel) rfl), ⟨by decide +kernel, by decide +kernel, by decide +kernel⟩⟩
theorem v_X1_hangingInAll : qVm yX1_hangingInAll cX1_hangingInAll 4 (some .int) 1 := ⟨(qT3_in 164 rfl rfl), (qT3_in 162 (by decide +kernel) rfl), (qT3_in 163 (by decide +kernel) rfl), (qT1_in 3 (by decide +kernel) rfl), ⟨by decide +kernel, by decide +kernel, by decide +kernel⟩⟩
theorem v_X1_sizeOfHang : qVm yX1_sizeOfHang cX1_sizeOfHang 2 (some .int) 1 := ⟨(qT3_in 171 rfl rfl), (qT3_in 169 (by decide +kernel) rfl), (qT3_in 170 (by decide +kernel) rfl), (qT1_in 3 (by decide +kernel) rfl), ⟨by decide +kernel, by decide +kernel, by decide +kernel⟩⟩
theorem v_X1_countRoots : qVm yX1_countRoots cX1_countRoots 1 (some .int) 0 := ⟨(qT3_in 231 rfl rfl), (qT3_in 229 (by decide +kernel) rfl), (qT3_in 230 (by decide +kernel) rfl), (qT1_in 3 (by decide +kernel) rfl), ⟨by decide +kernel, by decide +kernel, by decide +kernel⟩⟩
theorem v_X1_sumOfDepths : qVm yX1_sumOfDepths cX1_sumOfDepths 3 (some .int) 0 := ⟨(qT4_in 70 rfl rfl), (qT4_in 68 (by decide +kernel) rfl), (qT4_in 69 (by decide +kernel) rfl), (qT1_in 3 (by decide +kernel) rfl), ⟨by decide +kernel, by decide +kernel, by decide +kernel⟩⟩
theorem v_X1_sumOfWeights : qVm yX1_sumOfWeights cX1_sumOfWeights 3 (some .int) 0 := ⟨(qT3_in 236 rfl rfl), (qT3_in 234 (by decide +kernel) rfl), (qT3_in 235 (by decide +kernel) rfl), (qT1_in 3 (by decide +kernel) rfl), ⟨by decide +kernel, by decide +kernel, by decide +kernel⟩⟩
theorem v_X1_blockOfRank : qVm yX1_blockOfRank cX1_blockOfRank 3 (some .int) 1 := ⟨(qT4_in 203 rfl rfl), (qT4_in 201 (by decide +kernel) rfl), (qT4_in 202 (by decide +kernel) rfl), (qT1_in 3 (by decide +kernel) rfl), ⟨by decide +kernel, by decide +kernel, by decide +kernel⟩⟩
theorem v_X1_rankOf : qVm yX1_rankOf cX1_rankOf 4 (some .int) 1 := ⟨(qT4_in 207 rfl rfl), (qT4_in 206 (by decide +kernel) rfl), (qT0_in 15 (by decide +kernel) rfl), (qT1_in 3 (by decide +kernel) rfl), ⟨by decide +kernel, by decide +kernel, by decide +kernel⟩⟩
theorem v_X1_isBefore : qVm yX1_isBefore cX1_isBefore 5 (some .boolean) 2 := ⟨(qT4_in 211 rfl rfl), (qT4_in 210 (by decide +kernel) rfl), (qT0_in 16 (by decide +kernel) rfl), (qT1_in 3 (by decide +kernel) rfl), ⟨by decide +kernel, by decide +kernel, by decide +kernel⟩⟩
theorem v_X2_init : qIm yX2_init cX2_init 2 0 := ⟨(qT1_in 153 rfl rfl), (qT1_in 152 (by decide +kernel) rfl), (qT1_in 6 (by decide +kernel) rfl), rfl, ⟨by decide +kernel, by decide +kernel, by decide +kernel⟩⟩
theorem v_X2_forget : qVm yX2_forget cX2_forget 1 none 0 := ⟨(qT4_in 24 rfl rfl), (qT4_in 22 (by decide +kernel) rfl), (qT4_in 23 (by decide +kernel) rfl), (qT1_in 6 (by decide +kernel) rfl), ⟨by decide +kernel, by decide +kernel, by decide +kernel⟩⟩
theorem v_X2_draft : qVm yX2_draft cX2_draft 3 none 1 := ⟨(qT2_in 43 rfl rfl), (qT2_in 41 (by decide +kernel) rfl), (qT2_in 42 (by decide +kernel) rfl), (qT1_in 6 (by decide +kernel) rfl), ⟨by decide +kernel, by decide +kernel, by decide +kernel⟩⟩
theorem v_X2_dropDraft : qVm yX2_dropDraft cX2_dropDraft 3 none 1 := ⟨(qT3_in 136 rfl rfl), (qT3_in 134 (by decide +kernel) rfl), (qT3_in 135 (by decide +kernel) rfl), (qT1_in 6 (by decide +kernel) rfl), ⟨by decide +kernel, by decide +kernel, by decide +kernel⟩⟩
theorem v_X2_keepDraft : qVm yX2_keepDraft cX2_keepDraft 1 none 0 := ⟨(qT2_in 95 rfl rfl), (qT2_in 93 (by decide +kernel) rfl), (qT2_in 94 (by decide +kernel) rfl), (qT1_in 6 (by decide +kernel) rfl), ⟨by decide +kernel, by decide +kernel, by decide +kernel⟩⟩
theorem v_X2_takeBack : qVm yX2_takeBack cX2_takeBack 2 (some .boolean) 1 := ⟨(qT4_in 10 rfl rfl), (qT4_in 8 (by decide +kernel) rfl), (qT4_in 9 (by decide +kernel) rfl), (qT1_in 6 (by decide +kernel) rfl), ⟨by decide +kernel, by decide +kernel, by decide +kernel⟩⟩
theorem v_X2_slotOfDraft : qVm yX2_slotOfDraft cX2_slotOfDraft 1 (some (.object "QuarryRopes$Quarry")) 0 := ⟨(qT2_in 47 rfl rfl), (qT2_in 46 (by decide +kernel) rfl), (qT0_in 0 (by decide +kernel) rfl), (qT1_in 6 (by decide +kernel) rfl), ⟨by decide +kernel, by decide +kernel, by decide +kernel⟩⟩
theorem v_X3_init : qIm yX3_init cX3_init 1 0 := ⟨(qT1_in 173 rfl rfl), (qT1_in 172 (by decide +kernel) rfl), (qT1_in 7 (by decide +kernel) rfl), rfl, ⟨by decide +kernel, by decide +kernel, by decide +kernel⟩⟩
theorem v_X3_add : qVm yX3_add cX3_add 2 (some .int) 1 := ⟨(qT2_in 32 rfl rfl), (qT2_in 30 (by decide +kernel) rfl), (qT2_in 31 (by decide +kernel) rfl), (qT1_in 7 (by decide +kernel) rfl), ⟨by decide +kernel, by decide +kernel, by decide +kernel⟩⟩
theorem v_X3_makeEmpty : qVm yX3_makeEmpty cX3_makeEmpty 1 none 0 := ⟨(qT3_in 104 rfl rfl), (qT3_in 102 (by decide +kernel) rfl), (qT3_in 103 (by decide +kernel) rfl), (qT1_in 7 (by decide +kernel) rfl), ⟨by decide +kernel, by decide +kernel, by decide +kernel⟩⟩
theorem v_X3_wordOf : qVm yX3_wordOf cX3_wordOf 2 (some (.object "QuarryRopes$Word")) 1 := ⟨(qT3_in 112 rfl rfl), (qT3_in 110 (by decide +kernel) rfl), (qT3_in 111 (by decide +kernel) rfl), (qT1_in 7 (by decide +kernel) rfl), ⟨by decide +kernel, by decide +kernel, by decide +kernel⟩⟩
theorem v_X3_takeApart : qVm yX3_takeApart cX3_takeApart 2 (some .boolean) 0 := ⟨(qT3_in 14 rfl rfl), (qT3_in 12 (by decide +kernel) rfl), (qT3_in 13 (by decide +kernel) rfl), (qT1_in 7 (by decide +kernel) rfl), ⟨by decide +kernel, by decide +kernel, by decide +kernel⟩⟩
theorem v_X3_takeCommand : qVm yX3_takeCommand cX3_takeCommand 4 (some .boolean) 0 := ⟨(qT3_in 18 rfl rfl), (qT3_in 17 (by decide +kernel) rfl), (qT0_in 3 (by decide +kernel) rfl), (qT1_in 7 (by decide +kernel) rfl), ⟨by decide +kernel, by decide +kernel, by decide +kernel⟩⟩
theorem v_X3_addCommand : qVm yX3_addCommand cX3_addCommand 4 none 3 := ⟨(qT3_in 100 rfl rfl), (qT3_in 99 (by decide +kernel) rfl), (qT0_in 10 (by decide +kernel) rfl), (qT1_in 7 (by decide +kernel) rfl), ⟨by decide +kernel, by decide +kernel, by decide +kernel⟩⟩
theorem v_X3_takeWord : qVm yX3_takeWord cX3_takeWord 7 (some (.object "QuarryRopes$Word")) 0 := ⟨(qT3_in 22 rfl rfl), (qT3_in 21 (by decide +kernel) rfl), (qT0_in 4 (by decide +kernel) rfl), (qT1_in 7 (by decide +kernel) rfl), ⟨by decide +kernel, by decide +kernel, by decide +kernel⟩⟩
theorem v_X3_sameLetters : qVm yX3_sameLetters cX3_sameLetters 3 (some .int) 1 := ⟨(qT3_in 28 rfl rfl), (qT3_in 27 (by decide +kernel) rfl), (qT0_in 5 (by decide +kernel) rfl), (qT1_in 7 (by decide +kernel) rfl), ⟨by decide +kernel, by decide +kernel, by decide +kernel⟩⟩
theorem v_X3_takeNumber : qVm yX3_takeNumber cX3_takeNumber 3 (some .int) 0 := ⟨(qT3_in 88 rfl rfl), (qT3_in 87 (by decide +kernel) rfl), (qT0_in 7 (by decide +kernel) rfl), (qT1_in 7 (by decide +kernel) rfl), ⟨by decide +kernel, by decide +kernel, by decide +kernel⟩⟩
theorem v_X3_takeDigit : qVm yX3_takeDigit cX3_takeDigit 2 (some .int) 0 := ⟨(qT3_in 92 rfl rfl), (qT3_in 91 (by decide +kernel) rfl), (qT0_in 8 (by decide +kernel) rfl), (qT1_in 7 (by decide +kernel) rfl), ⟨by decide +kernel, by decide +kernel, by decide +kernel⟩⟩
theorem v_X3_takeSign : qVm yX3_takeSign cX3_takeSign 2 (some .boolean) 1 := ⟨(qT3_in 96 rfl rfl), (qT3_in 95 (by decide +kernel) rfl), (qT0_in 9 (by decide +kernel) rfl), (qT1_in 7 (by decide +kernel) rfl), ⟨by decide +kernel, by decide +kernel, by decide +kernel⟩⟩
theorem v_X3_codeAt : qVm yX3_codeAt cX3_codeAt 2 (some .int) 1 := ⟨(qT3_in 42 rfl rfl), (qT3_in 41 (by decide +kernel) rfl), (qT0_in 6 (by decide +kernel) rfl), (qT1_in 7 (by decide +kernel) rfl), ⟨by decide +kernel, by decide +kernel, by decide +kernel⟩⟩
theorem v_X4_init : qIm yX4_init cX4_init 1 0 := ⟨(qT1_in 208 rfl rfl), (qT1_in 207 (by decide +kernel) rfl), (qT1_in 8 (by decide +kernel) rfl), rfl, ⟨by decide +kernel, by decide +kernel, by decide +kernel⟩⟩
theorem v_X4_makeEmpty : qVm yX4_makeEmpty cX4_makeEmpty 1 none 0 := ⟨(qT4_in 219 rfl rfl), (qT4_in 217 (by decide +kernel) rfl), (qT4_in 218 (by decide +kernel) rfl), (qT1_in 8 (by decide +kernel) rfl), ⟨by decide +kernel, by decide +kernel, by decide +kernel⟩⟩
theorem v_X4_addSign : qVm yX4_addSign cX4_addSign 2 none 1 := ⟨(qT4_in 226 rfl rfl), (qT4_in 224 (by decide +kernel) rfl), (qT4_in 225 (by decide +kernel) rfl), (qT1_in 8 (by decide +kernel) rfl), ⟨by decide +kernel, by decide +kernel, by decide +kernel⟩⟩
theorem v_X4_addNumber : qVm yX4_addNumber cX4_addNumber 2 none 1 := ⟨(qT4_in 231 rfl rfl), (qT4_in 229 (by decide +kernel) rfl), (qT4_in 230 (by decide +kernel) rfl), (qT1_in 8 (by decide +kernel) rfl), ⟨by decide +kernel, by decide +kernel, by decide +kernel⟩⟩
theorem v_X4_codeAt : qVm yX4_codeAt cX4_codeAt 2 (some .int) 1 := ⟨(qT5_in 0 rfl rfl), (qT4_in 238 (by decide +kernel) rfl), (qT4_in 239 (by decide +kernel) rfl), (qT1_in 8 (by decide +kernel) rfl), ⟨by decide +kernel, by decide +kernel, by decide +kernel⟩⟩
theorem v_X5_init : qIm yX5_init cX5_init 1 0 := ⟨(qT1_in 37 rfl rfl), (qT1_in 36 (by decide +kernel) rfl), (qT1_in 2 (by decide +kernel) rfl), rfl, ⟨by decide +kernel, by decide +kernel, by decide +kernel⟩⟩
theorem v_X5_makeEmpty : qVm yX5_makeEmpty cX5_makeEmpty 1 none 0 := ⟨(qT1_in 106 rfl rfl), (qT1_in 104 (by decide +kernel) rfl), (qT1_in 105 (by decide +kernel) rfl), (qT1_in 2 (by decide +kernel) rfl), ⟨by decide +kernel, by decide +kernel, by decide +kernel⟩⟩
theorem v_X5_takeOver : qVm yX5_takeOver cX5_takeOver 2 none 1 := ⟨(qT2_in 51 rfl rfl), (qT2_in 49 (by decide +kernel) rfl), (qT2_in 50 (by decide +kernel) rfl), (qT1_in 2 (by decide +kernel) rfl), ⟨by decide +kernel, by decide +kernel, by decide +kernel⟩⟩
theorem v_X5_addBlock : qVm yX5_addBlock cX5_addBlock 3 (some .int) 2 := ⟨(qT2_in 75 rfl rfl), (qT2_in 73 (by decide +kernel) rfl), (qT2_in 74 (by decide +kernel) rfl), (qT1_in 2 (by decide +kernel) rfl), ⟨by decide +kernel, by decide +kernel, by decide +kernel⟩⟩
theorem v_X5_hangOn : qVm yX5_hangOn cX5_hangOn 4 (some .int) 3 := ⟨(qT2_in 106 rfl rfl), (qT2_in 104 (by decide +kernel) rfl), (qT2_in 105 (by decide +kernel) rfl), (qT1_in 2 (by decide +kernel) rfl), ⟨by decide +kernel, by decide +kernel, by decide +kernel⟩⟩
theorem v_X5_cutOff : qVm yX5_cutOff cX5_cutOff 4 (some .int) 2 := ⟨(qT3_in 124 rfl rfl), (qT3_in 122 (by decide +kernel) rfl), (qT3_in 123 (by decide +kernel) rfl), (qT1_in 2 (by decide +kernel) rfl), ⟨by decide +kernel, by decide +kernel, by decide +kernel⟩⟩
theorem v_X5_walkTo : qVm yX5_walkTo cX5_walkTo 2 (some .int) 1 := ⟨(qT2_in 185 rfl rfl), (qT2_in 183 (by decide +kernel) rfl), (qT2_in 184 (by decide +kernel) rfl), (qT1_in 2 (by decide +kernel) rfl), ⟨by decide +kernel, by decide +kernel, by decide +kernel⟩⟩
theorem v_X5_goUp : qVm yX5_goUp cX5_goUp 3 (some .int) 1 := ⟨(qT2_in 202 rfl rfl), (qT2_in 200 (by decide +kernel) rfl), (qT2_in 201 (by decide +kernel) rfl), (qT1_in 2 (by decide +kernel) rfl), ⟨by decide +kernel, by decide +kernel, by decide +kernel⟩⟩
theorem v_X5_changeWeight : qVm yX5_changeWeight cX5_changeWeight 5 (some .int) 3 := ⟨(qT3_in 132 rfl rfl), (qT3_in 130 (by decide +kernel) rfl), (qT3_in 131 (by decide +kernel) rfl), (qT1_in 2 (by decide +kernel) rfl), ⟨by decide +kernel, by decide +kernel, by decide +kernel⟩⟩
theorem v_X5_setSledge : qVm yX5_setSledge cX5_setSledge 3 (some .int) 2 := ⟨(qT2_in 210 rfl rfl), (qT2_in 208 (by decide +kernel) rfl), (qT2_in 209 (by decide +kernel) rfl), (qT1_in 2 (by decide +kernel) rfl), ⟨by decide +kernel, by decide +kernel, by decide +kernel⟩⟩
theorem v_X5_pullSledges : qVm yX5_pullSledges cX5_pullSledges 5 (some .int) 1 := ⟨(qT2_in 224 rfl rfl), (qT2_in 222 (by decide +kernel) rfl), (qT2_in 223 (by decide +kernel) rfl), (qT1_in 2 (by decide +kernel) rfl), ⟨by decide +kernel, by decide +kernel, by decide +kernel⟩⟩
theorem v_X5_expose : qVm yX5_expose cX5_expose 5 none 1 := ⟨(qT2_in 126 rfl rfl), (qT2_in 124 (by decide +kernel) rfl), (qT2_in 125 (by decide +kernel) rfl), (qT1_in 2 (by decide +kernel) rfl), ⟨by decide +kernel, by decide +kernel, by decide +kernel⟩⟩
theorem v_X5_countRopes : qVm yX5_countRopes cX5_countRopes 3 (some .int) 0 := ⟨(qT3_in 214 rfl rfl), (qT3_in 212 (by decide +kernel) rfl), (qT3_in 213 (by decide +kernel) rfl), (qT1_in 2 (by decide +kernel) rfl), ⟨by decide +kernel, by decide +kernel, by decide +kernel⟩⟩
theorem v_X5_countRopesUp : qVm yX5_countRopesUp cX5_countRopesUp 4 (some .int) 1 := ⟨(qT4_in 150 rfl rfl), (qT4_in 148 (by decide +kernel) rfl), (qT4_in 149 (by decide +kernel) rfl), (qT1_in 2 (by decide +kernel) rfl), ⟨by decide +kernel, by decide +kernel, by decide +kernel⟩⟩
theorem v_X5_sumByRopes : qVm yX5_sumByRopes cX5_sumByRopes 5 (some .int) 1 := ⟨(qT4_in 93 rfl rfl), (qT4_in 91 (by decide +kernel) rfl), (qT4_in 92 (by decide +kernel) rfl), (qT1_in 2 (by decide +kernel) rfl), ⟨by decide +kernel, by decide +kernel, by decide +kernel⟩⟩
theorem v_X5_weightDownTo : qVm yX5_weightDownTo cX5_weightDownTo 6 (some .int) 1 := ⟨(qT4_in 97 rfl rfl), (qT4_in 96 (by decide +kernel) rfl), (qT0_in 12 (by decide +kernel) rfl), (qT1_in 2 (by decide +kernel) rfl), ⟨by decide +kernel, by decide +kernel, by decide +kernel⟩⟩
theorem v_X5_weightBelow : qVm yX5_weightBelow cX5_weightBelow 4 (some .int) 1 := ⟨(qT3_in 205 rfl rfl), (qT3_in 203 (by decide +kernel) rfl), (qT3_in 204 (by decide +kernel) rfl), (qT1_in 2 (by decide +kernel) rfl), ⟨by decide +kernel, by decide +kernel, by decide +kernel⟩⟩
theorem v_X5_rootByTops : qVm yX5_rootByTops cX5_rootByTops 4 (some .int) 1 := ⟨(qT4_in 104 rfl rfl), (qT4_in 102 (by decide +kernel) rfl), (qT4_in 103 (by decide +kernel) rfl), (qT1_in 2 (by decide +kernel) rfl), ⟨by decide +kernel, by decide +kernel, by decide +kernel⟩⟩
theorem v_X5_jointByRopes : qVm yX5_jointByRopes cX5_jointByRopes 8 (some .int) 2 := ⟨(qT4_in 108 rfl rfl), (qT4_in 106 (by decide +kernel) rfl), (qT4_in 107 (by decide +kernel) rfl), (qT1_in 2 (by decide +kernel) rfl), ⟨by decide +kernel, by decide +kernel, by decide +kernel⟩⟩
theorem v_X5_doWaysAgree : qVm yX5_doWaysAgree cX5_doWaysAgree 3 (some .boolean) 0 := ⟨(qT4_in 89 rfl rfl), (qT4_in 87 (by decide +kernel) rfl), (qT4_in 88 (by decide +kernel) rfl), (qT1_in 2 (by decide +kernel) rfl), ⟨by decide +kernel, by decide +kernel, by decide +kernel⟩⟩
theorem v_X5_areRopesWell : qVm yX5_areRopesWell cX5_areRopesWell 3 (some .boolean) 0 := ⟨(qT4_in 128 rfl rfl), (qT4_in 126 (by decide +kernel) rfl), (qT4_in 127 (by decide +kernel) rfl), (qT1_in 2 (by decide +kernel) rfl), ⟨by decide +kernel, by decide +kernel, by decide +kernel⟩⟩
theorem v_X5_timesOnRopes : qVm yX5_timesOnRopes cX5_timesOnRopes 6 (some .int) 1 := ⟨(qT4_in 133 rfl rfl), (qT4_in 132 (by decide +kernel) rfl), (qT0_in 14 (by decide +kernel) rfl), (qT1_in 2 (by decide +kernel) rfl), ⟨by decide +kernel, by decide +kernel, by decide +kernel⟩⟩
theorem v_X5_isWeight : qSm yX5_isWeight cX5_isWeight 1 (some .boolean) 1 := ⟨(qT2_in 78 rfl rfl), (qT2_in 77 (by decide +kernel) rfl), (qT1_in 2 (by decide +kernel) rfl), ⟨by decide +kernel, by decide +kernel, by decide +kernel⟩⟩
theorem v_X6_init : qIm yX6_init cX6_init 1 0 := ⟨(qT1_in 222 rfl rfl), (qT1_in 221 (by decide +kernel) rfl), (qT1_in 9 (by decide +kernel) rfl), rfl, ⟨by decide +kernel, by decide +kernel, by decide +kernel⟩⟩
theorem v_X6_refuse : qVm yX6_refuse cX6_refuse 3 (some .int) 2 := ⟨(qT2_in 82 rfl rfl), (qT2_in 80 (by decide +kernel) rfl), (qT2_in 81 (by decide +kernel) rfl), (qT1_in 9 (by decide +kernel) rfl), ⟨by decide +kernel, by decide +kernel, by decide +kernel⟩⟩
theorem v_X6_refuseBefore : qVm yX6_refuseBefore cX6_refuseBefore 3 (some .int) 2 := ⟨(qT3_in 140 rfl rfl), (qT3_in 138 (by decide +kernel) rfl), (qT3_in 139 (by decide +kernel) rfl), (qT1_in 9 (by decide +kernel) rfl), ⟨by decide +kernel, by decide +kernel, by decide +kernel⟩⟩
theorem v_X6_tell : qVm yX6_tell cX6_tell 5 (some .int) 2 := ⟨(qT4_in 38 rfl rfl), (qT4_in 36 (by decide +kernel) rfl), (qT4_in 37 (by decide +kernel) rfl), (qT1_in 9 (by decide +kernel) rfl), ⟨by decide +kernel, by decide +kernel, by decide +kernel⟩⟩
theorem v_X7_init : qIm yX7_init cX7_init 1 0 := ⟨(qT1_in 84 rfl rfl), (qT1_in 83 (by decide +kernel) rfl), (qT1_in 5 (by decide +kernel) rfl), rfl, ⟨by decide +kernel, by decide +kernel, by decide +kernel⟩⟩
theorem v_X7_makeEmpty : qVm yX7_makeEmpty cX7_makeEmpty 1 none 0 := ⟨(qT1_in 122 rfl rfl), (qT1_in 120 (by decide +kernel) rfl), (qT1_in 121 (by decide +kernel) rfl), (qT1_in 5 (by decide +kernel) rfl), ⟨by decide +kernel, by decide +kernel, by decide +kernel⟩⟩
theorem v_X7_takeOver : qVm yX7_takeOver cX7_takeOver 2 none 1 := ⟨(qT2_in 70 rfl rfl), (qT2_in 68 (by decide +kernel) rfl), (qT2_in 69 (by decide +kernel) rfl), (qT1_in 5 (by decide +kernel) rfl), ⟨by decide +kernel, by decide +kernel, by decide +kernel⟩⟩
theorem v_X7_add : qVm yX7_add cX7_add 4 (some .int) 2 := ⟨(qT2_in 215 rfl rfl), (qT2_in 213 (by decide +kernel) rfl), (qT2_in 214 (by decide +kernel) rfl), (qT1_in 5 (by decide +kernel) rfl), ⟨by decide +kernel, by decide +kernel, by decide +kernel⟩⟩
theorem v_X7_isUnderway : qVm yX7_isUnderway cX7_isUnderway 2 (some .boolean) 1 := ⟨(qT2_in 238 rfl rfl), (qT2_in 236 (by decide +kernel) rfl), (qT2_in 237 (by decide +kernel) rfl), (qT1_in 5 (by decide +kernel) rfl), ⟨by decide +kernel, by decide +kernel, by decide +kernel⟩⟩
theorem v_X7_placeAt : qVm yX7_placeAt cX7_placeAt 2 (some .int) 1 := ⟨(qT3_in 2 rfl rfl), (qT3_in 0 (by decide +kernel) rfl), (qT3_in 1 (by decide +kernel) rfl), (qT1_in 5 (by decide +kernel) rfl), ⟨by decide +kernel, by decide +kernel, by decide +kernel⟩⟩
theorem v_X7_drag : qVm yX7_drag cX7_drag 3 none 2 := ⟨(qT3_in 6 rfl rfl), (qT3_in 4 (by decide +kernel) rfl), (qT3_in 5 (by decide +kernel) rfl), (qT1_in 5 (by decide +kernel) rfl), ⟨by decide +kernel, by decide +kernel, by decide +kernel⟩⟩
theorem v_X7_countUnderway : qVm yX7_countUnderway cX7_countUnderway 1 (some .int) 0 := ⟨(qT2_in 228 rfl rfl), (qT2_in 226 (by decide +kernel) rfl), (qT2_in 227 (by decide +kernel) rfl), (qT1_in 5 (by decide +kernel) rfl), ⟨by decide +kernel, by decide +kernel, by decide +kernel⟩⟩
theorem v_X7_countArrived : qVm yX7_countArrived cX7_countArrived 3 (some .int) 0 := ⟨(qT2_in 232 rfl rfl), (qT2_in 230 (by decide +kernel) rfl), (qT2_in 231 (by decide +kernel) rfl), (qT1_in 5 (by decide +kernel) rfl), ⟨by decide +kernel, by decide +kernel, by decide +kernel⟩⟩
theorem v_X7_arrivedLoads : qVm yX7_arrivedLoads cX7_arrivedLoads 3 (some .int) 0 := ⟨(qT4_in 2 rfl rfl), (qT4_in 0 (by decide +kernel) rfl), (qT4_in 1 (by decide +kernel) rfl), (qT1_in 5 (by decide +kernel) rfl), ⟨by decide +kernel, by decide +kernel, by decide +kernel⟩⟩
theorem v_X7_countAt : qVm yX7_countAt cX7_countAt 4 (some .int) 1 := ⟨(qT3_in 177 rfl rfl), (qT3_in 175 (by decide +kernel) rfl), (qT3_in 176 (by decide +kernel) rfl), (qT1_in 5 (by decide +kernel) rfl), ⟨by decide +kernel, by decide +kernel, by decide +kernel⟩⟩
theorem v_X7_tell : qVm yX7_tell cX7_tell 3 (some .int) 2 := ⟨(qT3_in 223 rfl rfl), (qT3_in 221 (by decide +kernel) rfl), (qT3_in 222 (by decide +kernel) rfl), (qT1_in 5 (by decide +kernel) rfl), ⟨by decide +kernel, by decide +kernel, by decide +kernel⟩⟩
theorem v_X8_init : qIm yX8_init cX8_init 1 0 := ⟨(qT1_in 64 rfl rfl), (qT1_in 63 (by decide +kernel) rfl), (qT1_in 4 (by decide +kernel) rfl), rfl, ⟨by decide +kernel, by decide +kernel, by decide +kernel⟩⟩
theorem v_X8_makeEmpty : qVm yX8_makeEmpty cX8_makeEmpty 1 none 0 := ⟨(qT1_in 117 rfl rfl), (qT1_in 115 (by decide +kernel) rfl), (qT1_in 116 (by decide +kernel) rfl), (qT1_in 4 (by decide +kernel) rfl), ⟨by decide +kernel, by decide +kernel, by decide +kernel⟩⟩
theorem v_X8_takeOver : qVm yX8_takeOver cX8_takeOver 2 none 1 := ⟨(qT2_in 65 rfl rfl), (qT2_in 63 (by decide +kernel) rfl), (qT2_in 64 (by decide +kernel) rfl), (qT1_in 4 (by decide +kernel) rfl), ⟨by decide +kernel, by decide +kernel, by decide +kernel⟩⟩
theorem v_X8_leftOf : qVm yX8_leftOf cX8_leftOf 2 (some .int) 1 := ⟨(qT2_in 139 rfl rfl), (qT2_in 137 (by decide +kernel) rfl), (qT2_in 138 (by decide +kernel) rfl), (qT1_in 4 (by decide +kernel) rfl), ⟨by decide +kernel, by decide +kernel, by decide +kernel⟩⟩
theorem v_X8_rightOf : qVm yX8_rightOf cX8_rightOf 2 (some .int) 1 := ⟨(qT2_in 156 rfl rfl), (qT2_in 154 (by decide +kernel) rfl), (qT2_in 155 (by decide +kernel) rfl), (qT1_in 4 (by decide +kernel) rfl), ⟨by decide +kernel, by decide +kernel, by decide +kernel⟩⟩
theorem v_X8_upperOf : qVm yX8_upperOf cX8_upperOf 2 (some .int) 1 := ⟨(qT2_in 134 rfl rfl), (qT2_in 132 (by decide +kernel) rfl), (qT2_in 133 (by decide +kernel) rfl), (qT1_in 4 (by decide +kernel) rfl), ⟨by decide +kernel, by decide +kernel, by decide +kernel⟩⟩
theorem v_X8_headOf : qVm yX8_headOf cX8_headOf 2 (some .int) 1 := ⟨(qT2_in 164 rfl rfl), (qT2_in 162 (by decide +kernel) rfl), (qT2_in 163 (by decide +kernel) rfl), (qT1_in 4 (by decide +kernel) rfl), ⟨by decide +kernel, by decide +kernel, by decide +kernel⟩⟩
theorem v_X8_topOf : qVm yX8_topOf cX8_topOf 2 (some .int) 1 := ⟨(qT2_in 160 rfl rfl), (qT2_in 158 (by decide +kernel) rfl), (qT2_in 159 (by decide +kernel) rfl), (qT1_in 4 (by decide +kernel) rfl), ⟨by decide +kernel, by decide +kernel, by decide +kernel⟩⟩
theorem v_X8_ahead : qVm yX8_ahead cX8_ahead 2 (some .int) 1 := ⟨(qT4_in 116 rfl rfl), (qT4_in 114 (by decide +kernel) rfl), (qT4_in 115 (by decide +kernel) rfl), (qT1_in 4 (by decide +kernel) rfl), ⟨by decide +kernel, by decide +kernel, by decide +kernel⟩⟩
theorem v_X8_behind : qVm yX8_behind cX8_behind 2 (some .int) 1 := ⟨(qT4_in 137 rfl rfl), (qT4_in 135 (by decide +kernel) rfl), (qT4_in 136 (by decide +kernel) rfl), (qT1_in 4 (by decide +kernel) rfl), ⟨by decide +kernel, by decide +kernel, by decide +kernel⟩⟩
theorem v_X8_neighbour : qVm yX8_neighbour cX8_neighbour 8 (some .int) 3 := ⟨(qT4_in 120 rfl rfl), (qT4_in 119 (by decide +kernel) rfl), (qT0_in 13 (by decide +kernel) rfl), (qT1_in 4 (by decide +kernel) rfl), ⟨by decide +kernel, by decide +kernel, by decide +kernel⟩⟩
theorem v_X8_countAbove : qVm yX8_countAbove cX8_countAbove 2 (some .int) 1 := ⟨(qT3_in 191 rfl rfl), (qT3_in 189 (by decide +kernel) rfl), (qT3_in 190 (by decide +kernel) rfl), (qT1_in 4 (by decide +kernel) rfl), ⟨by decide +kernel, by decide +kernel, by decide +kernel⟩⟩
theorem v_X8_isAtOrBelow : qVm yX8_isAtOrBelow cX8_isAtOrBelow 3 (some .boolean) 2 := ⟨(qT3_in 200 rfl rfl), (qT3_in 198 (by decide +kernel) rfl), (qT3_in 199 (by decide +kernel) rfl), (qT1_in 4 (by decide +kernel) rfl), ⟨by decide +kernel, by decide +kernel, by decide +kernel⟩⟩
theorem v_X8_countBelow : qVm yX8_countBelow cX8_countBelow 4 (some .int) 1 := ⟨(qT3_in 196 rfl rfl), (qT3_in 194 (by decide +kernel) rfl), (qT3_in 195 (by decide +kernel) rfl), (qT1_in 4 (by decide +kernel) rfl), ⟨by decide +kernel, by decide +kernel, by decide +kernel⟩⟩
theorem v_X8_countAhead : qVm yX8_countAhead cX8_countAhead 4 (some .int) 1 := ⟨(qT4_in 112 rfl rfl), (qT4_in 110 (by decide +kernel) rfl), (qT4_in 111 (by decide +kernel) rfl), (qT1_in 4 (by decide +kernel) rfl), ⟨by decide +kernel, by decide +kernel, by decide +kernel⟩⟩
theorem v_X8_blockAt : qVm yX8_blockAt cX8_blockAt 5 (some .int) 2 := ⟨(qT4_in 173 rfl rfl), (qT4_in 171 (by decide +kernel) rfl), (qT4_in 172 (by decide +kernel) rfl), (qT1_in 4 (by decide +kernel) rfl), ⟨by decide +kernel, by decide +kernel, by decide +kernel⟩⟩
theorem v_X8_turn : qVm yX8_turn cX8_turn 7 none 1 := ⟨(qT2_in 143 rfl rfl), (qT2_in 141 (by decide +kernel) rfl), (qT2_in 142 (by decide +kernel) rfl), (qT1_in 4 (by decide +kernel) rfl), ⟨by decide +kernel, by decide +kernel, by decide +kernel⟩⟩
theorem v_X8_link : qVm yX8_link cX8_link 4 none 3 := ⟨(qT2_in 147 rfl rfl), (qT2_in 146 (by decide +kernel) rfl), (qT0_in 2 (by decide +kernel) rfl), (qT1_in 4 (by decide +kernel) rfl), ⟨by decide +kernel, by decide +kernel, by decide +kernel⟩⟩
theorem v_X8_splay : qVm yX8_splay cX8_splay 6 none 1 := ⟨(qT2_in 130 rfl rfl), (qT2_in 128 (by decide +kernel) rfl), (qT2_in 129 (by decide +kernel) rfl), (qT1_in 4 (by decide +kernel) rfl), ⟨by decide +kernel, by decide +kernel, by decide +kernel⟩⟩
theorem v_X8_takeLeftOff : qVm yX8_takeLeftOff cX8_takeLeftOff 2 none 1 := ⟨(qT3_in 128 rfl rfl), (qT3_in 126 (by decide +kernel) rfl), (qT3_in 127 (by decide +kernel) rfl), (qT1_in 4 (by decide +kernel) rfl), ⟨by decide +kernel, by decide +kernel, by decide +kernel⟩⟩
theorem v_X8_takeRightOff : qVm yX8_takeRightOff cX8_takeRightOff 2 none 1 := ⟨(qT2_in 152 rfl rfl), (qT2_in 150 (by decide +kernel) rfl), (qT2_in 151 (by decide +kernel) rfl), (qT1_in 4 (by decide +kernel) rfl), ⟨by decide +kernel, by decide +kernel, by decide +kernel⟩⟩
theorem v_X8_joinRight : qVm yX8_joinRight cX8_joinRight 3 none 2 := ⟨(qT2_in 169 rfl rfl), (qT2_in 167 (by decide +kernel) rfl), (qT2_in 168 (by decide +kernel) rfl), (qT1_in 4 (by decide +kernel) rfl), ⟨by decide +kernel, by decide +kernel, by decide +kernel⟩⟩
theorem v_X10_init : qIm yX10_init cX10_init 1 0 := ⟨(qT1_in 29 rfl rfl), (qT1_in 28 (by decide +kernel) rfl), (qT1_in 1 (by decide +kernel) rfl), rfl, ⟨by decide +kernel, by decide +kernel, by decide +kernel⟩⟩
theorem v_X10_append : qVm yX10_append cX10_append 2 (some .int) 1 := ⟨(qT2_in 28 rfl rfl), (qT2_in 26 (by decide +kernel) rfl), (qT2_in 27 (by decide +kernel) rfl), (qT1_in 1 (by decide +kernel) rfl), ⟨by decide +kernel, by decide +kernel, by decide +kernel⟩⟩
theorem v_X10_block : qVm yX10_block cX10_block 2 (some .int) 1 := ⟨(qT2_in 39 rfl rfl), (qT2_in 37 (by decide +kernel) rfl), (qT2_in 38 (by decide +kernel) rfl), (qT1_in 1 (by decide +kernel) rfl), ⟨by decide +kernel, by decide +kernel, by decide +kernel⟩⟩
theorem v_X10_hang : qVm yX10_hang cX10_hang 3 (some .int) 2 := ⟨(qT2_in 102 rfl rfl), (qT2_in 100 (by decide +kernel) rfl), (qT2_in 101 (by decide +kernel) rfl), (qT1_in 1 (by decide +kernel) rfl), ⟨by decide +kernel, by decide +kernel, by decide +kernel⟩⟩
end
section
/-! the words that calls and fields want, by their places -/
theorem v_X10_cut : qVm yX10_cut cX10_cut 2 (some .int) 1 := ⟨(qT5_in 18 rfl rfl), (qT5_in 16 (by decide +kernel) rfl), (qT5_in 17 (by decide +kernel) rfl), (qT1_in 1 (by decide +kernel) rfl), ⟨by decide +kernel, by decide +kernel, by decide +kernel⟩⟩
theorem v_X10_walk : qVm yX10_walk cX10_walk 2 (some .int) 1 := ⟨(qT2_in 181 rfl rfl), (qT2_in 179 (by decide +kernel) rfl), (qT2_in 180 (by decide +kernel) rfl), (qT1_in 1 (by decide +kernel) rfl), ⟨by decide +kernel, by decide +kernel, by decide +kernel⟩⟩
theorem v_X10_up : qVm yX10_up cX10_up 2 (some .int) 1 := ⟨(qT2_in 198 rfl rfl), (qT2_in 196 (by decide +kernel) rfl), (qT2_in 197 (by decide +kernel) rfl), (qT1_in 1 (by decide +kernel) rfl), ⟨by decide +kernel, by decide +kernel, by decide +kernel⟩⟩
theorem v_X10_weigh : qVm yX10_weigh cX10_weigh 3 (some .int) 2 := ⟨(qT5_in 22 rfl rfl), (qT5_in 20 (by decide +kernel) rfl), (qT5_in 21 (by decide +kernel) rfl), (qT1_in 1 (by decide +kernel) rfl), ⟨by decide +kernel, by decide +kernel, by decide +kernel⟩⟩
theorem v_X10_sledge : qVm yX10_sledge cX10_sledge 2 (some .int) 1 := ⟨(qT2_in 206 rfl rfl), (qT2_in 204 (by decide +kernel) rfl), (qT2_in 205 (by decide +kernel) rfl), (qT1_in 1 (by decide +kernel) rfl), ⟨by decide +kernel, by decide +kernel, by decide +kernel⟩⟩
theorem v_X10_pull : qVm yX10_pull cX10_pull 1 (some .int) 0 := ⟨(qT2_in 220 rfl rfl), (qT2_in 218 (by decide +kernel) rfl), (qT2_in 219 (by decide +kernel) rfl), (qT1_in 1 (by decide +kernel) rfl), ⟨by decide +kernel, by decide +kernel, by decide +kernel⟩⟩
theorem v_X10_read : qVm yX10_read cX10_read 4 (some .int) 0 := ⟨(qT3_in 10 rfl rfl), (qT3_in 8 (by decide +kernel) rfl), (qT3_in 9 (by decide +kernel) rfl), (qT1_in 1 (by decide +kernel) rfl), ⟨by decide +kernel, by decide +kernel, by decide +kernel⟩⟩
theorem v_X10_fault : qVm yX10_fault cX10_fault 1 (some .int) 0 := ⟨(qT3_in 145 rfl rfl), (qT3_in 143 (by decide +kernel) rfl), (qT3_in 144 (by decide +kernel) rfl), (qT1_in 1 (by decide +kernel) rfl), ⟨by decide +kernel, by decide +kernel, by decide +kernel⟩⟩
theorem v_X10_reason : qVm yX10_reason cX10_reason 3 (some .int) 2 := ⟨(qT4_in 34 rfl rfl), (qT4_in 32 (by decide +kernel) rfl), (qT4_in 33 (by decide +kernel) rfl), (qT1_in 1 (by decide +kernel) rfl), ⟨by decide +kernel, by decide +kernel, by decide +kernel⟩⟩
theorem v_X10_blockOf : qVm yX10_blockOf cX10_blockOf 3 (some .int) 2 := ⟨(qT3_in 149 rfl rfl), (qT3_in 147 (by decide +kernel) rfl), (qT3_in 148 (by decide +kernel) rfl), (qT1_in 1 (by decide +kernel) rfl), ⟨by decide +kernel, by decide +kernel, by decide +kernel⟩⟩
theorem v_X10_treeOf : qVm yX10_treeOf cX10_treeOf 3 (some .int) 2 := ⟨(qT3_in 183 rfl rfl), (qT3_in 181 (by decide +kernel) rfl), (qT3_in 182 (by decide +kernel) rfl), (qT1_in 1 (by decide +kernel) rfl), ⟨by decide +kernel, by decide +kernel, by decide +kernel⟩⟩
theorem v_X10_ropeOf : qVm yX10_ropeOf cX10_ropeOf 3 (some .int) 2 := ⟨(qT4_in 169 rfl rfl), (qT4_in 167 (by decide +kernel) rfl), (qT4_in 168 (by decide +kernel) rfl), (qT1_in 1 (by decide +kernel) rfl), ⟨by decide +kernel, by decide +kernel, by decide +kernel⟩⟩
theorem v_X10_placeOf : qVm yX10_placeOf cX10_placeOf 2 (some .int) 1 := ⟨(qT4_in 141 rfl rfl), (qT4_in 139 (by decide +kernel) rfl), (qT4_in 140 (by decide +kernel) rfl), (qT1_in 1 (by decide +kernel) rfl), ⟨by decide +kernel, by decide +kernel, by decide +kernel⟩⟩
theorem v_X10_ropes : qVm yX10_ropes cX10_ropes 1 (some .int) 0 := ⟨(qT3_in 210 rfl rfl), (qT3_in 208 (by decide +kernel) rfl), (qT3_in 209 (by decide +kernel) rfl), (qT1_in 1 (by decide +kernel) rfl), ⟨by decide +kernel, by decide +kernel, by decide +kernel⟩⟩
theorem v_X10_ropesAbove : qVm yX10_ropesAbove cX10_ropesAbove 2 (some .int) 1 := ⟨(qT4_in 146 rfl rfl), (qT4_in 144 (by decide +kernel) rfl), (qT4_in 145 (by decide +kernel) rfl), (qT1_in 1 (by decide +kernel) rfl), ⟨by decide +kernel, by decide +kernel, by decide +kernel⟩⟩
theorem v_X10_turnsFor : qVm yX10_turnsFor cX10_turnsFor 2 (some .int) 1 := ⟨(qT4_in 154 rfl rfl), (qT4_in 152 (by decide +kernel) rfl), (qT4_in 153 (by decide +kernel) rfl), (qT1_in 1 (by decide +kernel) rfl), ⟨by decide +kernel, by decide +kernel, by decide +kernel⟩⟩
theorem v_X10_sum : qVm yX10_sum cX10_sum 2 (some .int) 1 := ⟨(qT4_in 159 rfl rfl), (qT4_in 157 (by decide +kernel) rfl), (qT4_in 158 (by decide +kernel) rfl), (qT1_in 1 (by decide +kernel) rfl), ⟨by decide +kernel, by decide +kernel, by decide +kernel⟩⟩
theorem v_X10_sumAgain : qVm yX10_sumAgain cX10_sumAgain 2 (some .int) 1 := ⟨(qT4_in 164 rfl rfl), (qT4_in 162 (by decide +kernel) rfl), (qT4_in 163 (by decide +kernel) rfl), (qT1_in 1 (by decide +kernel) rfl), ⟨by decide +kernel, by decide +kernel, by decide +kernel⟩⟩
theorem v_X10_root : qVm yX10_root cX10_root 2 (some .int) 1 := ⟨(qT4_in 179 rfl rfl), (qT4_in 177 (by decide +kernel) rfl), (qT4_in 178 (by decide +kernel) rfl), (qT1_in 1 (by decide +kernel) rfl), ⟨by decide +kernel, by decide +kernel, by decide +kernel⟩⟩
theorem v_X10_rootAgain : qVm yX10_rootAgain cX10_rootAgain 2 (some .int) 1 := ⟨(qT4_in 184 rfl rfl), (qT4_in 182 (by decide +kernel) rfl), (qT4_in 183 (by decide +kernel) rfl), (qT1_in 1 (by decide +kernel) rfl), ⟨by decide +kernel, by decide +kernel, by decide +kernel⟩⟩
theorem v_X10_joint : qVm yX10_joint cX10_joint 4 (some .int) 2 := ⟨(qT4_in 189 rfl rfl), (qT4_in 187 (by decide +kernel) rfl), (qT4_in 188 (by decide +kernel) rfl), (qT1_in 1 (by decide +kernel) rfl), ⟨by decide +kernel, by decide +kernel, by decide +kernel⟩⟩
theorem v_X10_jointAgain : qVm yX10_jointAgain cX10_jointAgain 4 (some .int) 2 := ⟨(qT4_in 194 rfl rfl), (qT4_in 192 (by decide +kernel) rfl), (qT4_in 193 (by decide +kernel) rfl), (qT1_in 1 (by decide +kernel) rfl), ⟨by decide +kernel, by decide +kernel, by decide +kernel⟩⟩
theorem v_X10_sledgeOf : qVm yX10_sledgeOf cX10_sledgeOf 3 (some .int) 2 := ⟨(qT3_in 219 rfl rfl), (qT3_in 217 (by decide +kernel) rfl), (qT3_in 218 (by decide +kernel) rfl), (qT1_in 1 (by decide +kernel) rfl), ⟨by decide +kernel, by decide +kernel, by decide +kernel⟩⟩
theorem v_X10_ranked : qVm yX10_ranked cX10_ranked 2 (some .int) 1 := ⟨(qT4_in 199 rfl rfl), (qT4_in 197 (by decide +kernel) rfl), (qT4_in 198 (by decide +kernel) rfl), (qT1_in 1 (by decide +kernel) rfl), ⟨by decide +kernel, by decide +kernel, by decide +kernel⟩⟩
theorem v_X10_tellTree : qVm yX10_tellTree cX10_tellTree 2 (some .int) 1 := ⟨(qT4_in 215 rfl rfl), (qT4_in 213 (by decide +kernel) rfl), (qT4_in 214 (by decide +kernel) rfl), (qT1_in 1 (by decide +kernel) rfl), ⟨by decide +kernel, by decide +kernel, by decide +kernel⟩⟩
theorem v_X10_tellRopes : qVm yX10_tellRopes cX10_tellRopes 2 (some .int) 0 := ⟨(qT5_in 5 rfl rfl), (qT5_in 3 (by decide +kernel) rfl), (qT5_in 4 (by decide +kernel) rfl), (qT1_in 1 (by decide +kernel) rfl), ⟨by decide +kernel, by decide +kernel, by decide +kernel⟩⟩
theorem v_X10_written : qVm yX10_written cX10_written 2 (some .int) 1 := ⟨(qT4_in 236 rfl rfl), (qT4_in 234 (by decide +kernel) rfl), (qT4_in 235 (by decide +kernel) rfl), (qT1_in 1 (by decide +kernel) rfl), ⟨by decide +kernel, by decide +kernel, by decide +kernel⟩⟩
theorem v_X10_isWell : qVm yX10_isWell cX10_isWell 1 (some .int) 0 := ⟨(qT4_in 85 rfl rfl), (qT4_in 83 (by decide +kernel) rfl), (qT4_in 84 (by decide +kernel) rfl), (qT1_in 1 (by decide +kernel) rfl), ⟨by decide +kernel, by decide +kernel, by decide +kernel⟩⟩
theorem v_X10_meanDepth : qVm yX10_meanDepth cX10_meanDepth 2 (some .float) 0 := ⟨(qT4_in 66 rfl rfl), (qT4_in 64 (by decide +kernel) rfl), (qT4_in 65 (by decide +kernel) rfl), (qT1_in 1 (by decide +kernel) rfl), ⟨by decide +kernel, by decide +kernel, by decide +kernel⟩⟩
theorem v_X10_rootShare : qVm yX10_rootShare cX10_rootShare 2 (some .double) 0 := ⟨(qT4_in 52 rfl rfl), (qT4_in 50 (by decide +kernel) rfl), (qT4_in 51 (by decide +kernel) rfl), (qT1_in 1 (by decide +kernel) rfl), ⟨by decide +kernel, by decide +kernel, by decide +kernel⟩⟩
theorem v_X10_account : qVm yX10_account cX10_account 2 (some .int) 1 := ⟨(qT3_in 227 rfl rfl), (qT3_in 225 (by decide +kernel) rfl), (qT3_in 226 (by decide +kernel) rfl), (qT1_in 1 (by decide +kernel) rfl), ⟨by decide +kernel, by decide +kernel, by decide +kernel⟩⟩
theorem v_X10_undo : qVm yX10_undo cX10_undo 1 (some .int) 0 := ⟨(qT4_in 6 rfl rfl), (qT4_in 4 (by decide +kernel) rfl), (qT4_in 5 (by decide +kernel) rfl), (qT1_in 1 (by decide +kernel) rfl), ⟨by decide +kernel, by decide +kernel, by decide +kernel⟩⟩
theorem v_X10_save : qVm yX10_save cX10_save 1 (some .int) 0 := ⟨(qT4_in 15 rfl rfl), (qT4_in 13 (by decide +kernel) rfl), (qT4_in 14 (by decide +kernel) rfl), (qT1_in 1 (by decide +kernel) rfl), ⟨by decide +kernel, by decide +kernel, by decide +kernel⟩⟩
theorem v_X10_restore : qVm yX10_restore cX10_restore 1 (some .int) 0 := ⟨(qT4_in 20 rfl rfl), (qT4_in 18 (by decide +kernel) rfl), (qT4_in 19 (by decide +kernel) rfl), (qT1_in 1 (by decide +kernel) rfl), ⟨by decide +kernel, by decide +kernel, by decide +kernel⟩⟩
theorem v_X10_settled : qVm yX10_settled cX10_settled 2 (some .int) 1 := ⟨(qT2_in 91 rfl rfl), (qT2_in 90 (by decide +kernel) rfl), (qT0_in 1 (by decide +kernel) rfl), (qT1_in 1 (by decide +kernel) rfl), ⟨by decide +kernel, by decide +kernel, by decide +kernel⟩⟩
theorem v_X10_carryOut : qVm yX10_carryOut cX10_carryOut 5 (some .int) 1 := ⟨(qT3_in 108 rfl rfl), (qT3_in 107 (by decide +kernel) rfl), (qT0_in 11 (by decide +kernel) rfl), (qT1_in 1 (by decide +kernel) rfl), ⟨by decide +kernel, by decide +kernel, by decide +kernel⟩⟩
theorem v_X10_writeTree : qSm yX10_writeTree cX10_writeTree 4 none 4 := ⟨(qT4_in 222 rfl rfl), (qT4_in 221 (by decide +kernel) rfl), (qT1_in 1 (by decide +kernel) rfl), ⟨by decide +kernel, by decide +kernel, by decide +kernel⟩⟩
theorem v_X10_writeRope : qVm yX10_writeRope cX10_writeRope 4 none 1 := ⟨(qT5_in 10 rfl rfl), (qT5_in 9 (by decide +kernel) rfl), (qT0_in 17 (by decide +kernel) rfl), (qT1_in 1 (by decide +kernel) rfl), ⟨by decide +kernel, by decide +kernel, by decide +kernel⟩⟩
theorem v_X10_orNothing : qSm yX10_orNothing cX10_orNothing 1 (some .int) 1 := ⟨(qT3_in 155 rfl rfl), (qT3_in 154 (by decide +kernel) rfl), (qT1_in 1 (by decide +kernel) rfl), ⟨by decide +kernel, by decide +kernel, by decide +kernel⟩⟩
theorem v_X10_at : qSm yX10_at cX10_at 2 (some .int) 2 := ⟨(qT2_in 61 rfl rfl), (qT2_in 60 (by decide +kernel) rfl), (qT1_in 1 (by decide +kernel) rfl), ⟨by decide +kernel, by decide +kernel, by decide +kernel⟩⟩
theorem v_X10_put : qSm yX10_put cX10_put 3 none 3 := ⟨(qT2_in 35 rfl rfl), (qT2_in 34 (by decide +kernel) rfl), (qT1_in 1 (by decide +kernel) rfl), ⟨by decide +kernel, by decide +kernel, by decide +kernel⟩⟩
theorem v_X10_fill : qSm yX10_fill cX10_fill 3 none 2 := ⟨(qT1_in 113 rfl rfl), (qT1_in 112 (by decide +kernel) rfl), (qT1_in 1 (by decide +kernel) rfl), ⟨by decide +kernel, by decide +kernel, by decide +kernel⟩⟩
theorem v_X10_copyRow : qSm yX10_copyRow cX10_copyRow 3 none 2 := ⟨(qT2_in 58 rfl rfl), (qT2_in 57 (by decide +kernel) rfl), (qT1_in 1 (by decide +kernel) rfl), ⟨by decide +kernel, by decide +kernel, by decide +kernel⟩⟩
theorem v_X10_lastAlong : qSm yX10_lastAlong cX10_lastAlong 4 (some .int) 2 := ⟨(qT2_in 122 rfl rfl), (qT2_in 121 (by decide +kernel) rfl), (qT1_in 1 (by decide +kernel) rfl), ⟨by decide +kernel, by decide +kernel, by decide +kernel⟩⟩
theorem v_X10_stepsAlong : qSm yX10_stepsAlong cX10_stepsAlong 4 (some .int) 2 := ⟨(qT2_in 177 rfl rfl), (qT2_in 176 (by decide +kernel) rfl), (qT1_in 1 (by decide +kernel) rfl), ⟨by decide +kernel, by decide +kernel, by decide +kernel⟩⟩
theorem v_X10_isAlong : qSm yX10_isAlong cX10_isAlong 5 (some .boolean) 3 := ⟨(qT3_in 167 rfl rfl), (qT3_in 166 (by decide +kernel) rfl), (qT1_in 1 (by decide +kernel) rfl), ⟨by decide +kernel, by decide +kernel, by decide +kernel⟩⟩
theorem v_L_at : qSm yL_at cL_at 2 (some .int) 2 := ⟨(qT4_in 27 rfl rfl), (qT4_in 26 (by decide +kernel) rfl), (qT1_in 0 (by decide +kernel) rfl), ⟨by decide +kernel, by decide +kernel, by decide +kernel⟩⟩
theorem v_L_some : qSm yL_some cL_some 3 (some .int) 2 := ⟨(qT4_in 44 rfl rfl), (qT4_in 43 (by decide +kernel) rfl), (qT1_in 0 (by decide +kernel) rfl), ⟨by decide +kernel, by decide +kernel, by decide +kernel⟩⟩
theorem v_L_reads : qSm yL_reads cL_reads 3 (some .int) 2 := ⟨(qT5_in 239 rfl rfl), (qT5_in 238 (by decide +kernel) rfl), (qT1_in 0 (by decide +kernel) rfl), ⟨by decide +kernel, by decide +kernel, by decide +kernel⟩⟩
theorem v_L_is : qSm yL_is cL_is 3 (some .boolean) 3 := ⟨(qT4_in 30 rfl rfl), (qT4_in 29 (by decide +kernel) rfl), (qT1_in 0 (by decide +kernel) rfl), ⟨by decide +kernel, by decide +kernel, by decide +kernel⟩⟩
theorem v_L_isSeven : qSm yL_isSeven cL_isSeven 4 (some .boolean) 4 := ⟨(qT6_in 9 rfl rfl), (qT6_in 8 (by decide +kernel) rfl), (qT1_in 0 (by decide +kernel) rfl), ⟨by decide +kernel, by decide +kernel, by decide +kernel⟩⟩
theorem v_L_makes : qSm yL_makes cL_makes 6 (some .boolean) 2 := ⟨(qT4_in 41 rfl rfl), (qT4_in 40 (by decide +kernel) rfl), (qT1_in 0 (by decide +kernel) rfl), ⟨by decide +kernel, by decide +kernel, by decide +kernel⟩⟩
theorem v_L_asks : qSm yL_asks cL_asks 7 (some .long) 1 := ⟨(qT4_in 47 rfl rfl), (qT4_in 46 (by decide +kernel) rfl), (qT1_in 0 (by decide +kernel) rfl), ⟨by decide +kernel, by decide +kernel, by decide +kernel⟩⟩
theorem v_L_changes : qSm yL_changes cL_changes 4 (some .boolean) 2 := ⟨(qT5_in 14 rfl rfl), (qT5_in 13 (by decide +kernel) rfl), (qT1_in 0 (by decide +kernel) rfl), ⟨by decide +kernel, by decide +kernel, by decide +kernel⟩⟩
theorem v_L_refused : qSm yL_refused cL_refused 7 (some .boolean) 1 := ⟨(qT6_in 4 rfl rfl), (qT6_in 3 (by decide +kernel) rfl), (qT1_in 0 (by decide +kernel) rfl), ⟨by decide +kernel, by decide +kernel, by decide +kernel⟩⟩
theorem wc_L_18 : Cond.classLink RL 18 RX10 ∈ qG := (qT1_in 25 (by decide +kernel) rfl)
theorem wl_L_193 : Cond.methodLink RL 193 yX10_init ∈ qG := (qT1_in 27 (by decide +kernel) rfl)
theorem wc_X10_7 : Cond.classLink RX10 7 RX5 ∈ qG := (qT1_in 33 (by decide +kernel) rfl)
theorem wl_X10_9 : Cond.methodLink RX10 9 yX5_init ∈ qG := (qT1_in 35 (by decide +kernel) rfl)
theorem wc_X5_9 : Cond.classLink RX5 9 RX1 ∈ qG := (qT1_in 39 (by decide +kernel) rfl)
theorem wf_X1_9 : Cond.fieldLink RX1 9 "QuarryRopes$Blocks" "weights" "[I" ∈ qG := (qT1_in 45 (by decide +kernel) rfl)
theorem wf_X1_15 : Cond.fieldLink RX1 15 "QuarryRopes$Blocks" "holders" "[I" ∈ qG := (qT1_in 47 (by decide +kernel) rfl)
theorem wf_X1_18 : Cond.fieldLink RX1 18 "QuarryRopes$Blocks" "count" "I" ∈ qG := (qT1_in 49 (by decide +kernel) rfl)
theorem wc_X5_18 : Cond.classLink RX5 18 RX8 ∈ qG := (qT1_in 60 (by decide +kernel) rfl)
theorem wf_X8_9 : Cond.fieldLink RX8 9 "QuarryRopes$Trees" "lefts" "[I" ∈ qG := (qT1_in 66 (by decide +kernel) rfl)
theorem wf_X8_15 : Cond.fieldLink RX8 15 "QuarryRopes$Trees" "rights" "[I" ∈ qG := (qT1_in 67 (by decide +kernel) rfl)
theorem wf_X8_18 : Cond.fieldLink RX8 18 "QuarryRopes$Trees" "uppers" "[I" ∈ qG := (qT1_in 68 (by decide +kernel) rfl)
theorem wf_X8_21 : Cond.fieldLink RX8 21 "QuarryRopes$Trees" "turns" "I" ∈ qG := (qT1_in 69 (by decide +kernel) rfl)
theorem wc_X5_25 : Cond.classLink RX5 25 RX7 ∈ qG := (qT1_in 80 (by decide +kernel) rfl)
theorem wf_X7_9 : Cond.fieldLink RX7 9 "QuarryRopes$Sledges" "places" "[I" ∈ qG := (qT1_in 86 (by decide +kernel) rfl)
theorem wf_X7_15 : Cond.fieldLink RX7 15 "QuarryRopes$Sledges" "loads" "[I" ∈ qG := (qT1_in 87 (by decide +kernel) rfl)
theorem wf_X7_18 : Cond.fieldLink RX7 18 "QuarryRopes$Sledges" "pulls" "[I" ∈ qG := (qT1_in 88 (by decide +kernel) rfl)
theorem wf_X7_21 : Cond.fieldLink RX7 21 "QuarryRopes$Sledges" "arrivals" "[I" ∈ qG := (qT1_in 89 (by decide +kernel) rfl)
theorem wf_X7_24 : Cond.fieldLink RX7 24 "QuarryRopes$Sledges" "count" "I" ∈ qG := (qT1_in 90 (by decide +kernel) rfl)
theorem wl_X5_32 : Cond.methodLink RX5 32 yX5_makeEmpty ∈ qG := (qT1_in 103 (by decide +kernel) rfl)
theorem wl_X5_35 : Cond.methodLink RX5 35 yX1_makeEmpty ∈ qG := (qT1_in 107 (by decide +kernel) rfl)
theorem wl_X5_36 : Cond.methodLink RX5 36 yX8_makeEmpty ∈ qG := (qT1_in 114 (by decide +kernel) rfl)
theorem wl_X5_37 : Cond.methodLink RX5 37 yX7_makeEmpty ∈ qG := (qT1_in 119 (by decide +kernel) rfl)
theorem wf_X5_12 : Cond.fieldLink RX5 12 "QuarryRopes$Quarry" "blocks" "LQuarryRopes$Blocks;" ∈ qG := (qT1_in 124 (by decide +kernel) rfl)
theorem wf_X5_21 : Cond.fieldLink RX5 21 "QuarryRopes$Quarry" "trees" "LQuarryRopes$Trees;" ∈ qG := (qT1_in 126 (by decide +kernel) rfl)
theorem wf_X5_28 : Cond.fieldLink RX5 28 "QuarryRopes$Quarry" "sledges" "LQuarryRopes$Sledges;" ∈ qG := (qT1_in 128 (by decide +kernel) rfl)
theorem wf_X5_38 : Cond.fieldLink RX5 38 "QuarryRopes$Quarry" "exposings" "I" ∈ qG := (qT1_in 130 (by decide +kernel) rfl)
theorem wf_X5_42 : Cond.fieldLink RX5 42 "QuarryRopes$Quarry" "hangings" "I" ∈ qG := (qT1_in 132 (by decide +kernel) rfl)
theorem wf_X5_45 : Cond.fieldLink RX5 45 "QuarryRopes$Quarry" "cuttings" "I" ∈ qG := (qT1_in 134 (by decide +kernel) rfl)
theorem wc_X10_22 : Cond.classLink RX10 22 RX2 ∈ qG := (qT1_in 149 (by decide +kernel) rfl)
theorem wl_X10_24 : Cond.methodLink RX10 24 yX2_init ∈ qG := (qT1_in 151 (by decide +kernel) rfl)
theorem wc_X2_11 : Cond.classLink RX2 11 RX5 ∈ qG := (qT1_in 155 (by decide +kernel) rfl)
theorem wl_X2_17 : Cond.methodLink RX2 17 yX5_init ∈ qG := (qT1_in 157 (by decide +kernel) rfl)
theorem wf_X2_13 : Cond.fieldLink RX2 13 "QuarryRopes$History" "slots" "[LQuarryRopes$Quarry;" ∈ qG := (qT1_in 158 (by decide +kernel) rfl)
theorem wf_X2_30 : Cond.fieldLink RX2 30 "QuarryRopes$History" "next" "I" ∈ qG := (qT1_in 159 (by decide +kernel) rfl)
theorem wf_X2_18 : Cond.fieldLink RX2 18 "QuarryRopes$History" "count" "I" ∈ qG := (qT1_in 160 (by decide +kernel) rfl)
theorem wc_X10_29 : Cond.classLink RX10 29 RX3 ∈ qG := (qT1_in 169 (by decide +kernel) rfl)
theorem wc_X3_15 : Cond.classLink RX3 15 RX9 ∈ qG := (qT1_in 175 (by decide +kernel) rfl)
theorem wf_X3_9 : Cond.fieldLink RX3 9 "QuarryRopes$Input" "signs" "[I" ∈ qG := (qT1_in 177 (by decide +kernel) rfl)
theorem wf_X3_17 : Cond.fieldLink RX3 17 "QuarryRopes$Input" "words" "[LQuarryRopes$Word;" ∈ qG := (qT1_in 178 (by decide +kernel) rfl)
theorem wf_X3_21 : Cond.fieldLink RX3 21 "QuarryRopes$Input" "firsts" "[I" ∈ qG := (qT1_in 179 (by decide +kernel) rfl)
theorem wf_X3_24 : Cond.fieldLink RX3 24 "QuarryRopes$Input" "seconds" "[I" ∈ qG := (qT1_in 181 (by decide +kernel) rfl)
theorem wf_X3_27 : Cond.fieldLink RX3 27 "QuarryRopes$Input" "length" "I" ∈ qG := (qT1_in 183 (by decide +kernel) rfl)
theorem wf_X3_35 : Cond.fieldLink RX3 35 "QuarryRopes$Input" "commands" "I" ∈ qG := (qT1_in 185 (by decide +kernel) rfl)
theorem wf_X3_38 : Cond.fieldLink RX3 38 "QuarryRopes$Input" "place" "I" ∈ qG := (qT1_in 187 (by decide +kernel) rfl)
theorem wc_X10_36 : Cond.classLink RX10 36 RX4 ∈ qG := (qT1_in 204 (by decide +kernel) rfl)
theorem wf_X4_9 : Cond.fieldLink RX4 9 "QuarryRopes$Line" "signs" "[I" ∈ qG := (qT1_in 210 (by decide +kernel) rfl)
theorem wf_X4_15 : Cond.fieldLink RX4 15 "QuarryRopes$Line" "length" "I" ∈ qG := (qT1_in 211 (by decide +kernel) rfl)
theorem wc_X10_43 : Cond.classLink RX10 43 RX6 ∈ qG := (qT1_in 218 (by decide +kernel) rfl)
theorem wf_X6_9 : Cond.fieldLink RX6 9 "QuarryRopes$Reasons" "first" "I" ∈ qG := (qT1_in 224 (by decide +kernel) rfl)
theorem wf_X6_15 : Cond.fieldLink RX6 15 "QuarryRopes$Reasons" "firstDetail" "I" ∈ qG := (qT1_in 225 (by decide +kernel) rfl)
theorem wf_X6_18 : Cond.fieldLink RX6 18 "QuarryRopes$Reasons" "behind" "I" ∈ qG := (qT1_in 226 (by decide +kernel) rfl)
theorem wf_X6_21 : Cond.fieldLink RX6 21 "QuarryRopes$Reasons" "behindDetail" "I" ∈ qG := (qT1_in 227 (by decide +kernel) rfl)
theorem wf_X10_10 : Cond.fieldLink RX10 10 "QuarryRopes" "now" "LQuarryRopes$Quarry;" ∈ qG := (qT1_in 237 (by decide +kernel) rfl)
theorem wf_X10_16 : Cond.fieldLink RX10 16 "QuarryRopes" "kept" "LQuarryRopes$Quarry;" ∈ qG := (qT1_in 238 (by decide +kernel) rfl)
end
section
/-! the words that calls and fields want, by their places -/
theorem wf_X10_19 : Cond.fieldLink RX10 19 "QuarryRopes" "trial" "LQuarryRopes$Quarry;" ∈ qG := (qT1_in 239 (by decide +kernel) rfl)
theorem wf_X10_25 : Cond.fieldLink RX10 25 "QuarryRopes" "history" "LQuarryRopes$History;" ∈ qG := (qT2_in 0 (by decide +kernel) rfl)
theorem wf_X10_32 : Cond.fieldLink RX10 32 "QuarryRopes" "input" "LQuarryRopes$Input;" ∈ qG := (qT2_in 1 (by decide +kernel) rfl)
theorem wf_X10_39 : Cond.fieldLink RX10 39 "QuarryRopes" "line" "LQuarryRopes$Line;" ∈ qG := (qT2_in 2 (by decide +kernel) rfl)
theorem wf_X10_46 : Cond.fieldLink RX10 46 "QuarryRopes" "reasons" "LQuarryRopes$Reasons;" ∈ qG := (qT2_in 3 (by decide +kernel) rfl)
theorem wf_X10_50 : Cond.fieldLink RX10 50 "QuarryRopes" "latestFault" "I" ∈ qG := (qT2_in 4 (by decide +kernel) rfl)
theorem wf_X10_54 : Cond.fieldLink RX10 54 "QuarryRopes" "isKept" "Z" ∈ qG := (qT2_in 5 (by decide +kernel) rfl)
theorem wl_L_17 : Cond.methodLink RL 17 yX10_append ∈ qG := (qT2_in 25 (by decide +kernel) rfl)
theorem wl_X10_73 : Cond.methodLink RX10 73 yX3_add ∈ qG := (qT2_in 29 (by decide +kernel) rfl)
theorem wl_L_44 : Cond.methodLink RL 44 yX10_block ∈ qG := (qT2_in 36 (by decide +kernel) rfl)
theorem wl_X10_77 : Cond.methodLink RX10 77 yX2_draft ∈ qG := (qT2_in 40 (by decide +kernel) rfl)
theorem wl_X2_22 : Cond.methodLink RX2 22 yX2_slotOfDraft ∈ qG := (qT2_in 44 (by decide +kernel) rfl)
theorem wl_X2_26 : Cond.methodLink RX2 26 yX5_takeOver ∈ qG := (qT2_in 48 (by decide +kernel) rfl)
theorem wl_X5_48 : Cond.methodLink RX5 48 yX1_takeOver ∈ qG := (qT2_in 52 (by decide +kernel) rfl)
theorem wl_X10_318 : Cond.methodLink RX10 318 yX10_at ∈ qG := (qT2_in 59 (by decide +kernel) rfl)
theorem wl_X5_52 : Cond.methodLink RX5 52 yX8_takeOver ∈ qG := (qT2_in 62 (by decide +kernel) rfl)
theorem wl_X5_55 : Cond.methodLink RX5 55 yX7_takeOver ∈ qG := (qT2_in 67 (by decide +kernel) rfl)
theorem wl_X10_81 : Cond.methodLink RX10 81 yX5_addBlock ∈ qG := (qT2_in 72 (by decide +kernel) rfl)
theorem wl_X5_58 : Cond.methodLink RX5 58 yX5_isWeight ∈ qG := (qT2_in 76 (by decide +kernel) rfl)
theorem wl_X5_65 : Cond.methodLink RX5 65 yX6_refuse ∈ qG := (qT2_in 79 (by decide +kernel) rfl)
theorem wl_X5_71 : Cond.methodLink RX5 71 yX1_add ∈ qG := (qT2_in 83 (by decide +kernel) rfl)
theorem wl_X10_85 : Cond.methodLink RX10 85 yX10_settled ∈ qG := (qT2_in 88 (by decide +kernel) rfl)
theorem wl_X10_136 : Cond.methodLink RX10 136 yX2_keepDraft ∈ qG := (qT2_in 92 (by decide +kernel) rfl)
theorem wl_X2_33 : Cond.methodLink RX2 33 yJ9_min_7cf53 ∈ qG := (qT2_in 96 (by decide +kernel) rfl)
theorem wl_L_47 : Cond.methodLink RL 47 yX10_hang ∈ qG := (qT2_in 99 (by decide +kernel) rfl)
theorem wl_X10_89 : Cond.methodLink RX10 89 yX5_hangOn ∈ qG := (qT2_in 103 (by decide +kernel) rfl)
theorem wl_X5_75 : Cond.methodLink RX5 75 yX1_isThere ∈ qG := (qT2_in 107 (by decide +kernel) rfl)
theorem wl_X5_78 : Cond.methodLink RX5 78 yX1_holderOf ∈ qG := (qT2_in 111 (by decide +kernel) rfl)
theorem wl_X5_81 : Cond.methodLink RX5 81 yX1_rootByHolders ∈ qG := (qT2_in 116 (by decide +kernel) rfl)
theorem wl_X5_84 : Cond.methodLink RX5 84 yX5_expose ∈ qG := (qT2_in 123 (by decide +kernel) rfl)
theorem wl_X5_105 : Cond.methodLink RX5 105 yX8_splay ∈ qG := (qT2_in 127 (by decide +kernel) rfl)
theorem wl_X8_48 : Cond.methodLink RX8 48 yX8_upperOf ∈ qG := (qT2_in 131 (by decide +kernel) rfl)
theorem wl_X8_71 : Cond.methodLink RX8 71 yX8_leftOf ∈ qG := (qT2_in 136 (by decide +kernel) rfl)
theorem wl_X8_81 : Cond.methodLink RX8 81 yX8_turn ∈ qG := (qT2_in 140 (by decide +kernel) rfl)
theorem wl_X8_74 : Cond.methodLink RX8 74 yX8_link ∈ qG := (qT2_in 144 (by decide +kernel) rfl)
theorem wl_X5_134 : Cond.methodLink RX5 134 yX8_takeRightOff ∈ qG := (qT2_in 149 (by decide +kernel) rfl)
theorem wl_X8_85 : Cond.methodLink RX8 85 yX8_rightOf ∈ qG := (qT2_in 153 (by decide +kernel) rfl)
theorem wl_X5_137 : Cond.methodLink RX5 137 yX8_topOf ∈ qG := (qT2_in 157 (by decide +kernel) rfl)
theorem wl_X8_40 : Cond.methodLink RX8 40 yX8_headOf ∈ qG := (qT2_in 161 (by decide +kernel) rfl)
theorem wl_X5_140 : Cond.methodLink RX5 140 yX8_joinRight ∈ qG := (qT2_in 166 (by decide +kernel) rfl)
theorem wl_X5_96 : Cond.methodLink RX5 96 yX1_depthOf ∈ qG := (qT2_in 171 (by decide +kernel) rfl)
theorem wl_L_50 : Cond.methodLink RL 50 yX10_walk ∈ qG := (qT2_in 178 (by decide +kernel) rfl)
theorem wl_X10_96 : Cond.methodLink RX10 96 yX5_walkTo ∈ qG := (qT2_in 182 (by decide +kernel) rfl)
theorem wl_X5_102 : Cond.methodLink RX5 102 yX1_sumByHolders ∈ qG := (qT2_in 186 (by decide +kernel) rfl)
theorem wl_X1_44 : Cond.methodLink RX1 44 yX1_weightOf ∈ qG := (qT2_in 190 (by decide +kernel) rfl)
theorem wl_X1_48 : Cond.methodLink RX1 48 yX1_holderOf ∈ qG := (qT2_in 194 (by decide +kernel) rfl)
theorem wl_L_138 : Cond.methodLink RL 138 yX10_up ∈ qG := (qT2_in 195 (by decide +kernel) rfl)
theorem wl_X10_99 : Cond.methodLink RX10 99 yX5_goUp ∈ qG := (qT2_in 199 (by decide +kernel) rfl)
theorem wl_L_53 : Cond.methodLink RL 53 yX10_sledge ∈ qG := (qT2_in 203 (by decide +kernel) rfl)
theorem wl_X10_105 : Cond.methodLink RX10 105 yX5_setSledge ∈ qG := (qT2_in 207 (by decide +kernel) rfl)
theorem wl_X5_108 : Cond.methodLink RX5 108 yX1_weightOf ∈ qG := (qT2_in 211 (by decide +kernel) rfl)
theorem wl_X5_115 : Cond.methodLink RX5 115 yX7_add ∈ qG := (qT2_in 212 (by decide +kernel) rfl)
theorem wl_L_144 : Cond.methodLink RL 144 yX10_pull ∈ qG := (qT2_in 217 (by decide +kernel) rfl)
theorem wl_X10_108 : Cond.methodLink RX10 108 yX5_pullSledges ∈ qG := (qT2_in 221 (by decide +kernel) rfl)
theorem wl_X5_117 : Cond.methodLink RX5 117 yX7_countUnderway ∈ qG := (qT2_in 225 (by decide +kernel) rfl)
theorem wl_X7_44 : Cond.methodLink RX7 44 yX7_countArrived ∈ qG := (qT2_in 229 (by decide +kernel) rfl)
theorem wl_X5_121 : Cond.methodLink RX5 121 yX7_countArrived ∈ qG := (qT2_in 234 (by decide +kernel) rfl)
theorem wl_X5_124 : Cond.methodLink RX5 124 yX7_isUnderway ∈ qG := (qT2_in 235 (by decide +kernel) rfl)
theorem wl_X5_127 : Cond.methodLink RX5 127 yX7_placeAt ∈ qG := (qT2_in 239 (by decide +kernel) rfl)
theorem wl_X5_130 : Cond.methodLink RX5 130 yX7_drag ∈ qG := (qT3_in 3 (by decide +kernel) rfl)
theorem wl_L_23 : Cond.methodLink RL 23 yX10_read ∈ qG := (qT3_in 7 (by decide +kernel) rfl)
theorem wl_X10_112 : Cond.methodLink RX10 112 yX3_takeApart ∈ qG := (qT3_in 11 (by decide +kernel) rfl)
theorem wl_X3_41 : Cond.methodLink RX3 41 yX3_takeCommand ∈ qG := (qT3_in 15 (by decide +kernel) rfl)
theorem wl_X3_49 : Cond.methodLink RX3 49 yX3_takeWord ∈ qG := (qT3_in 19 (by decide +kernel) rfl)
theorem wl_X3_71 : Cond.methodLink RX3 71 yX3_sameLetters ∈ qG := (qT3_in 25 (by decide +kernel) rfl)
theorem wl_X3_75 : Cond.methodLink RX3 75 yJ0_length_8abf5 ∈ qG := (qT3_in 29 (by decide +kernel) rfl)
theorem wl_X3_85 : Cond.methodLink RX3 85 yX3_codeAt ∈ qG := (qT3_in 39 (by decide +kernel) rfl)
theorem wl_X3_89 : Cond.methodLink RX3 89 yJ0_charAt_5068e ∈ qG := (qT3_in 44 (by decide +kernel) rfl)
theorem wl_X3_79 : Cond.methodLink RX3 79 yJ9_max_7cf53 ∈ qG := (qT3_in 82 (by decide +kernel) rfl)
theorem wl_X3_56 : Cond.methodLink RX3 56 yX3_takeNumber ∈ qG := (qT3_in 85 (by decide +kernel) rfl)
theorem wl_X3_93 : Cond.methodLink RX3 93 yX3_takeDigit ∈ qG := (qT3_in 89 (by decide +kernel) rfl)
theorem wl_X3_45 : Cond.methodLink RX3 45 yX3_takeSign ∈ qG := (qT3_in 93 (by decide +kernel) rfl)
theorem wl_X3_60 : Cond.methodLink RX3 60 yX3_addCommand ∈ qG := (qT3_in 97 (by decide +kernel) rfl)
theorem wl_X10_116 : Cond.methodLink RX10 116 yX3_makeEmpty ∈ qG := (qT3_in 101 (by decide +kernel) rfl)
theorem wl_X10_123 : Cond.methodLink RX10 123 yX10_carryOut ∈ qG := (qT3_in 105 (by decide +kernel) rfl)
theorem wl_X10_310 : Cond.methodLink RX10 310 yX3_wordOf ∈ qG := (qT3_in 109 (by decide +kernel) rfl)
theorem wf_X10_325 : Cond.fieldLink RX10 325 "QuarryRopes$1" "$SwitchMap$QuarryRopes$Word" "[I" ∈ qG := (qT3_in 113 (by decide +kernel) rfl)
theorem wl_X10_93 : Cond.methodLink RX10 93 yX5_cutOff ∈ qG := (qT3_in 121 (by decide +kernel) rfl)
theorem wl_X5_99 : Cond.methodLink RX5 99 yX8_takeLeftOff ∈ qG := (qT3_in 125 (by decide +kernel) rfl)
theorem wl_X10_102 : Cond.methodLink RX10 102 yX5_changeWeight ∈ qG := (qT3_in 129 (by decide +kernel) rfl)
theorem wl_X10_126 : Cond.methodLink RX10 126 yX2_dropDraft ∈ qG := (qT3_in 133 (by decide +kernel) rfl)
theorem wl_X10_129 : Cond.methodLink RX10 129 yX6_refuseBefore ∈ qG := (qT3_in 137 (by decide +kernel) rfl)
theorem wl_X10_133 : Cond.methodLink RX10 133 yX6_refuse ∈ qG := (qT3_in 141 (by decide +kernel) rfl)
theorem wl_L_182 : Cond.methodLink RL 182 yX10_fault ∈ qG := (qT3_in 142 (by decide +kernel) rfl)
theorem wl_L_84 : Cond.methodLink RL 84 yX10_blockOf ∈ qG := (qT3_in 146 (by decide +kernel) rfl)
theorem wl_X10_143 : Cond.methodLink RX10 143 yX1_isThere ∈ qG := (qT3_in 150 (by decide +kernel) rfl)
theorem wl_X10_147 : Cond.methodLink RX10 147 yX1_weightOf ∈ qG := (qT3_in 151 (by decide +kernel) rfl)
theorem wl_X10_150 : Cond.methodLink RX10 150 yX1_holderOf ∈ qG := (qT3_in 152 (by decide +kernel) rfl)
theorem wl_X10_153 : Cond.methodLink RX10 153 yX10_orNothing ∈ qG := (qT3_in 153 (by decide +kernel) rfl)
theorem wl_X10_156 : Cond.methodLink RX10 156 yX1_depthOf ∈ qG := (qT3_in 156 (by decide +kernel) rfl)
theorem wl_X10_159 : Cond.methodLink RX10 159 yX1_hangingAtOnce ∈ qG := (qT3_in 157 (by decide +kernel) rfl)
theorem wl_X10_162 : Cond.methodLink RX10 162 yX1_hangingInAll ∈ qG := (qT3_in 161 (by decide +kernel) rfl)
theorem wl_X10_165 : Cond.methodLink RX10 165 yX1_sizeOfHang ∈ qG := (qT3_in 168 (by decide +kernel) rfl)
theorem wl_X1_55 : Cond.methodLink RX1 55 yX1_rootByHolders ∈ qG := (qT3_in 172 (by decide +kernel) rfl)
theorem wl_X1_58 : Cond.methodLink RX1 58 yX1_hangingInAll ∈ qG := (qT3_in 173 (by decide +kernel) rfl)
theorem wl_X10_172 : Cond.methodLink RX10 172 yX7_countAt ∈ qG := (qT3_in 174 (by decide +kernel) rfl)
theorem wl_X7_48 : Cond.methodLink RX7 48 yX7_isUnderway ∈ qG := (qT3_in 178 (by decide +kernel) rfl)
theorem wl_X7_52 : Cond.methodLink RX7 52 yX7_placeAt ∈ qG := (qT3_in 179 (by decide +kernel) rfl)
theorem wl_L_87 : Cond.methodLink RL 87 yX10_treeOf ∈ qG := (qT3_in 180 (by decide +kernel) rfl)
theorem wl_X10_181 : Cond.methodLink RX10 181 yX8_leftOf ∈ qG := (qT3_in 184 (by decide +kernel) rfl)
theorem wl_X10_186 : Cond.methodLink RX10 186 yX8_rightOf ∈ qG := (qT3_in 185 (by decide +kernel) rfl)
theorem wl_X10_189 : Cond.methodLink RX10 189 yX8_upperOf ∈ qG := (qT3_in 186 (by decide +kernel) rfl)
theorem wl_X10_192 : Cond.methodLink RX10 192 yX8_headOf ∈ qG := (qT3_in 187 (by decide +kernel) rfl)
theorem wl_X10_195 : Cond.methodLink RX10 195 yX8_countAbove ∈ qG := (qT3_in 188 (by decide +kernel) rfl)
theorem wl_X10_198 : Cond.methodLink RX10 198 yX8_countBelow ∈ qG := (qT3_in 193 (by decide +kernel) rfl)
theorem wl_X8_58 : Cond.methodLink RX8 58 yX8_isAtOrBelow ∈ qG := (qT3_in 197 (by decide +kernel) rfl)
theorem wl_X10_201 : Cond.methodLink RX10 201 yX5_weightBelow ∈ qG := (qT3_in 202 (by decide +kernel) rfl)
theorem wl_X5_158 : Cond.methodLink RX5 158 yX8_isAtOrBelow ∈ qG := (qT3_in 206 (by decide +kernel) rfl)
theorem wl_L_132 : Cond.methodLink RL 132 yX10_ropes ∈ qG := (qT3_in 207 (by decide +kernel) rfl)
theorem wl_X10_210 : Cond.methodLink RX10 210 yX5_countRopes ∈ qG := (qT3_in 211 (by decide +kernel) rfl)
end
section
/-! the words that calls and fields want, by their places -/
theorem wl_X5_143 : Cond.methodLink RX5 143 yX8_upperOf ∈ qG := (qT3_in 215 (by decide +kernel) rfl)
theorem wl_L_126 : Cond.methodLink RL 126 yX10_sledgeOf ∈ qG := (qT3_in 216 (by decide +kernel) rfl)
theorem wl_X10_245 : Cond.methodLink RX10 245 yX7_tell ∈ qG := (qT3_in 220 (by decide +kernel) rfl)
theorem wl_L_81 : Cond.methodLink RL 81 yX10_account ∈ qG := (qT3_in 224 (by decide +kernel) rfl)
theorem wl_X10_280 : Cond.methodLink RX10 280 yX1_countRoots ∈ qG := (qT3_in 228 (by decide +kernel) rfl)
theorem wl_X1_61 : Cond.methodLink RX1 61 yX1_hangingAtOnce ∈ qG := (qT3_in 232 (by decide +kernel) rfl)
theorem wl_X10_283 : Cond.methodLink RX10 283 yX1_sumOfWeights ∈ qG := (qT3_in 233 (by decide +kernel) rfl)
theorem wl_X10_295 : Cond.methodLink RX10 295 yX7_countUnderway ∈ qG := (qT3_in 237 (by decide +kernel) rfl)
theorem wl_X10_298 : Cond.methodLink RX10 298 yX7_countArrived ∈ qG := (qT3_in 238 (by decide +kernel) rfl)
theorem wl_X10_301 : Cond.methodLink RX10 301 yX7_arrivedLoads ∈ qG := (qT3_in 239 (by decide +kernel) rfl)
theorem wl_L_194 : Cond.methodLink RL 194 yX10_undo ∈ qG := (qT4_in 3 (by decide +kernel) rfl)
theorem wl_X10_306 : Cond.methodLink RX10 306 yX2_takeBack ∈ qG := (qT4_in 7 (by decide +kernel) rfl)
theorem wl_X2_39 : Cond.methodLink RX2 39 yX2_dropDraft ∈ qG := (qT4_in 11 (by decide +kernel) rfl)
theorem wl_L_200 : Cond.methodLink RL 200 yX10_save ∈ qG := (qT4_in 12 (by decide +kernel) rfl)
theorem wl_X10_217 : Cond.methodLink RX10 217 yX5_takeOver ∈ qG := (qT4_in 16 (by decide +kernel) rfl)
theorem wl_L_197 : Cond.methodLink RL 197 yX10_restore ∈ qG := (qT4_in 17 (by decide +kernel) rfl)
theorem wl_X10_70 : Cond.methodLink RX10 70 yX2_forget ∈ qG := (qT4_in 21 (by decide +kernel) rfl)
theorem wl_L_34 : Cond.methodLink RL 34 yL_at ∈ qG := (qT4_in 25 (by decide +kernel) rfl)
theorem wl_L_176 : Cond.methodLink RL 176 yL_is ∈ qG := (qT4_in 28 (by decide +kernel) rfl)
theorem wl_L_26 : Cond.methodLink RL 26 yX10_reason ∈ qG := (qT4_in 31 (by decide +kernel) rfl)
theorem wl_X10_139 : Cond.methodLink RX10 139 yX6_tell ∈ qG := (qT4_in 35 (by decide +kernel) rfl)
theorem wl_L_203 : Cond.methodLink RL 203 yL_makes ∈ qG := (qT4_in 39 (by decide +kernel) rfl)
theorem wl_L_40 : Cond.methodLink RL 40 yL_some ∈ qG := (qT4_in 42 (by decide +kernel) rfl)
theorem wl_L_172 : Cond.methodLink RL 172 yL_asks ∈ qG := (qT4_in 45 (by decide +kernel) rfl)
theorem wl_L_58 : Cond.methodLink RL 58 yX10_rootShare ∈ qG := (qT4_in 49 (by decide +kernel) rfl)
theorem wl_L_62 : Cond.methodLink RL 62 yJxe99ae_doubleToLongBits_ccdee ∈ qG := (qT4_in 53 (by decide +kernel) rfl)
theorem wl_L_68 : Cond.methodLink RL 68 yX10_meanDepth ∈ qG := (qT4_in 63 (by decide +kernel) rfl)
theorem wl_X10_277 : Cond.methodLink RX10 277 yX1_sumOfDepths ∈ qG := (qT4_in 67 (by decide +kernel) rfl)
theorem wl_X1_64 : Cond.methodLink RX1 64 yX1_depthOf ∈ qG := (qT4_in 71 (by decide +kernel) rfl)
theorem wl_L_72 : Cond.methodLink RL 72 yJxf58ca_floatToIntBits_5c35a ∈ qG := (qT4_in 72 (by decide +kernel) rfl)
theorem wl_L_78 : Cond.methodLink RL 78 yX10_isWell ∈ qG := (qT4_in 82 (by decide +kernel) rfl)
theorem wl_X10_271 : Cond.methodLink RX10 271 yX5_doWaysAgree ∈ qG := (qT4_in 86 (by decide +kernel) rfl)
theorem wl_X5_165 : Cond.methodLink RX5 165 yX5_sumByRopes ∈ qG := (qT4_in 90 (by decide +kernel) rfl)
theorem wl_X5_146 : Cond.methodLink RX5 146 yX5_weightDownTo ∈ qG := (qT4_in 94 (by decide +kernel) rfl)
theorem wl_X5_149 : Cond.methodLink RX5 149 yX8_leftOf ∈ qG := (qT4_in 98 (by decide +kernel) rfl)
theorem wl_X5_152 : Cond.methodLink RX5 152 yX5_weightBelow ∈ qG := (qT4_in 99 (by decide +kernel) rfl)
theorem wl_X5_155 : Cond.methodLink RX5 155 yX8_rightOf ∈ qG := (qT4_in 100 (by decide +kernel) rfl)
theorem wl_X5_168 : Cond.methodLink RX5 168 yX5_rootByTops ∈ qG := (qT4_in 101 (by decide +kernel) rfl)
theorem wl_X5_171 : Cond.methodLink RX5 171 yX5_jointByRopes ∈ qG := (qT4_in 105 (by decide +kernel) rfl)
theorem wl_X5_162 : Cond.methodLink RX5 162 yX8_countAhead ∈ qG := (qT4_in 109 (by decide +kernel) rfl)
theorem wl_X8_62 : Cond.methodLink RX8 62 yX8_ahead ∈ qG := (qT4_in 113 (by decide +kernel) rfl)
theorem wl_X8_44 : Cond.methodLink RX8 44 yX8_neighbour ∈ qG := (qT4_in 117 (by decide +kernel) rfl)
theorem wl_X5_174 : Cond.methodLink RX5 174 yX1_jointByHolders ∈ qG := (qT4_in 121 (by decide +kernel) rfl)
theorem wl_X10_274 : Cond.methodLink RX10 274 yX5_areRopesWell ∈ qG := (qT4_in 125 (by decide +kernel) rfl)
theorem wl_X5_177 : Cond.methodLink RX5 177 yX8_ahead ∈ qG := (qT4_in 129 (by decide +kernel) rfl)
theorem wl_X5_180 : Cond.methodLink RX5 180 yX5_timesOnRopes ∈ qG := (qT4_in 130 (by decide +kernel) rfl)
theorem wl_X5_183 : Cond.methodLink RX5 183 yX8_behind ∈ qG := (qT4_in 134 (by decide +kernel) rfl)
theorem wl_L_90 : Cond.methodLink RL 90 yX10_placeOf ∈ qG := (qT4_in 138 (by decide +kernel) rfl)
theorem wl_X10_207 : Cond.methodLink RX10 207 yX8_countAhead ∈ qG := (qT4_in 142 (by decide +kernel) rfl)
theorem wl_L_93 : Cond.methodLink RL 93 yX10_ropesAbove ∈ qG := (qT4_in 143 (by decide +kernel) rfl)
theorem wl_X10_214 : Cond.methodLink RX10 214 yX5_countRopesUp ∈ qG := (qT4_in 147 (by decide +kernel) rfl)
theorem wl_L_96 : Cond.methodLink RL 96 yX10_turnsFor ∈ qG := (qT4_in 151 (by decide +kernel) rfl)
theorem wl_X10_220 : Cond.methodLink RX10 220 yX5_expose ∈ qG := (qT4_in 155 (by decide +kernel) rfl)
theorem wl_L_99 : Cond.methodLink RL 99 yX10_sum ∈ qG := (qT4_in 156 (by decide +kernel) rfl)
theorem wl_X10_227 : Cond.methodLink RX10 227 yX5_sumByRopes ∈ qG := (qT4_in 160 (by decide +kernel) rfl)
theorem wl_L_102 : Cond.methodLink RL 102 yX10_sumAgain ∈ qG := (qT4_in 161 (by decide +kernel) rfl)
theorem wl_X10_230 : Cond.methodLink RX10 230 yX1_sumByHolders ∈ qG := (qT4_in 165 (by decide +kernel) rfl)
theorem wl_L_105 : Cond.methodLink RL 105 yX10_ropeOf ∈ qG := (qT4_in 166 (by decide +kernel) rfl)
theorem wl_X10_204 : Cond.methodLink RX10 204 yX8_blockAt ∈ qG := (qT4_in 170 (by decide +kernel) rfl)
theorem wl_X8_65 : Cond.methodLink RX8 65 yX8_topOf ∈ qG := (qT4_in 174 (by decide +kernel) rfl)
theorem wl_X8_68 : Cond.methodLink RX8 68 yX8_behind ∈ qG := (qT4_in 175 (by decide +kernel) rfl)
theorem wl_L_108 : Cond.methodLink RL 108 yX10_root ∈ qG := (qT4_in 176 (by decide +kernel) rfl)
theorem wl_X10_233 : Cond.methodLink RX10 233 yX5_rootByTops ∈ qG := (qT4_in 180 (by decide +kernel) rfl)
theorem wl_L_111 : Cond.methodLink RL 111 yX10_rootAgain ∈ qG := (qT4_in 181 (by decide +kernel) rfl)
theorem wl_X10_236 : Cond.methodLink RX10 236 yX1_rootByHolders ∈ qG := (qT4_in 185 (by decide +kernel) rfl)
theorem wl_L_114 : Cond.methodLink RL 114 yX10_joint ∈ qG := (qT4_in 186 (by decide +kernel) rfl)
theorem wl_X10_239 : Cond.methodLink RX10 239 yX5_jointByRopes ∈ qG := (qT4_in 190 (by decide +kernel) rfl)
theorem wl_L_117 : Cond.methodLink RL 117 yX10_jointAgain ∈ qG := (qT4_in 191 (by decide +kernel) rfl)
theorem wl_X10_242 : Cond.methodLink RX10 242 yX1_jointByHolders ∈ qG := (qT4_in 195 (by decide +kernel) rfl)
theorem wl_L_120 : Cond.methodLink RL 120 yX10_ranked ∈ qG := (qT4_in 196 (by decide +kernel) rfl)
theorem wl_X10_247 : Cond.methodLink RX10 247 yX1_blockOfRank ∈ qG := (qT4_in 200 (by decide +kernel) rfl)
theorem wl_X1_67 : Cond.methodLink RX1 67 yX1_rankOf ∈ qG := (qT4_in 204 (by decide +kernel) rfl)
theorem wl_X1_70 : Cond.methodLink RX1 70 yX1_isBefore ∈ qG := (qT4_in 208 (by decide +kernel) rfl)
theorem wl_L_123 : Cond.methodLink RL 123 yX10_tellTree ∈ qG := (qT4_in 212 (by decide +kernel) rfl)
theorem wl_X10_250 : Cond.methodLink RX10 250 yX4_makeEmpty ∈ qG := (qT4_in 216 (by decide +kernel) rfl)
theorem wl_X10_251 : Cond.methodLink RX10 251 yX10_writeTree ∈ qG := (qT4_in 220 (by decide +kernel) rfl)
theorem wl_X10_261 : Cond.methodLink RX10 261 yX4_addSign ∈ qG := (qT4_in 223 (by decide +kernel) rfl)
theorem wl_X10_335 : Cond.methodLink RX10 335 yX4_addNumber ∈ qG := (qT4_in 228 (by decide +kernel) rfl)
theorem wl_X4_23 : Cond.methodLink RX4 23 yX4_addSign ∈ qG := (qT4_in 232 (by decide +kernel) rfl)
theorem wl_L_30 : Cond.methodLink RL 30 yX10_written ∈ qG := (qT4_in 233 (by decide +kernel) rfl)
theorem wl_X10_268 : Cond.methodLink RX10 268 yX4_codeAt ∈ qG := (qT4_in 237 (by decide +kernel) rfl)
theorem wl_L_129 : Cond.methodLink RL 129 yX10_tellRopes ∈ qG := (qT5_in 2 (by decide +kernel) rfl)
theorem wl_X10_258 : Cond.methodLink RX10 258 yX8_topOf ∈ qG := (qT5_in 6 (by decide +kernel) rfl)
theorem wl_X10_265 : Cond.methodLink RX10 265 yX10_writeRope ∈ qG := (qT5_in 7 (by decide +kernel) rfl)
theorem wl_X10_338 : Cond.methodLink RX10 338 yX8_behind ∈ qG := (qT5_in 11 (by decide +kernel) rfl)
theorem wl_L_211 : Cond.methodLink RL 211 yL_changes ∈ qG := (qT5_in 12 (by decide +kernel) rfl)
theorem wl_L_135 : Cond.methodLink RL 135 yX10_cut ∈ qG := (qT5_in 15 (by decide +kernel) rfl)
theorem wl_L_141 : Cond.methodLink RL 141 yX10_weigh ∈ qG := (qT5_in 19 (by decide +kernel) rfl)
theorem wc_L_147 : Cond.classLink RL 147 RJ4 ∈ qG := (qT5_in 23 (by decide +kernel) rfl)
theorem wl_L_149 : Cond.methodLink RL 149 yJ4_init_da8c8 ∈ qG := (qT5_in 25 (by decide +kernel) rfl)
theorem wl_L_152 : Cond.methodLink RL 152 yJ4_append_15ec4 ∈ qG := (qT5_in 55 (by decide +kernel) rfl)
theorem wl_L_155 : Cond.methodLink RL 155 yJ4_append_bf812 ∈ qG := (qT5_in 152 (by decide +kernel) rfl)
theorem wl_L_160 : Cond.methodLink RL 160 yJ4_toString_0e30d ∈ qG := (qT5_in 178 (by decide +kernel) rfl)
theorem wl_L_168 : Cond.methodLink RL 168 yL_reads ∈ qG := (qT5_in 237 (by decide +kernel) rfl)
theorem wl_L_7 : Cond.methodLink RL 7 yJ0_length_8abf5 ∈ qG := (qT6_in 0 (by decide +kernel) rfl)
theorem wl_L_13 : Cond.methodLink RL 13 yJ0_charAt_5068e ∈ qG := (qT6_in 1 (by decide +kernel) rfl)
theorem wl_L_207 : Cond.methodLink RL 207 yL_refused ∈ qG := (qT6_in 2 (by decide +kernel) rfl)
theorem wl_L_187 : Cond.methodLink RL 187 yL_isSeven ∈ qG := (qT6_in 7 (by decide +kernel) rfl)
theorem wl_L_215 : Cond.methodLink RL 215 yJ9_min_7cf53 ∈ qG := (qT6_in 11 (by decide +kernel) rfl)
theorem in_X1 : ∀ w ∈ u_ws RX1 TX1 3, w ∈ qG := fun w h => List.mem_filter.mpr ((by decide +kernel : ∀ w ∈ u_ws RX1 TX1 3, w ∈ lw_tbl ∧ goodWord w = true) w h)
theorem in_X2 : ∀ w ∈ u_ws RX2 TX2 3, w ∈ qG := fun w h => List.mem_filter.mpr ((by decide +kernel : ∀ w ∈ u_ws RX2 TX2 3, w ∈ lw_tbl ∧ goodWord w = true) w h)
theorem in_X3 : ∀ w ∈ u_ws RX3 TX3 7, w ∈ qG := fun w h => List.mem_filter.mpr ((by decide +kernel : ∀ w ∈ u_ws RX3 TX3 7, w ∈ lw_tbl ∧ goodWord w = true) w h)
theorem in_X4 : ∀ w ∈ u_ws RX4 TX4 2, w ∈ qG := fun w h => List.mem_filter.mpr ((by decide +kernel : ∀ w ∈ u_ws RX4 TX4 2, w ∈ lw_tbl ∧ goodWord w = true) w h)
theorem in_X5 : ∀ w ∈ u_ws RX5 TX5 6, w ∈ qG := fun w h => List.mem_filter.mpr ((by decide +kernel : ∀ w ∈ u_ws RX5 TX5 6, w ∈ lw_tbl ∧ goodWord w = true) w h)
theorem in_X6 : ∀ w ∈ u_ws RX6 TX6 4, w ∈ qG := fun w h => List.mem_filter.mpr ((by decide +kernel : ∀ w ∈ u_ws RX6 TX6 4, w ∈ lw_tbl ∧ goodWord w = true) w h)
theorem in_X7 : ∀ w ∈ u_ws RX7 TX7 5, w ∈ qG := fun w h => List.mem_filter.mpr ((by decide +kernel : ∀ w ∈ u_ws RX7 TX7 5, w ∈ lw_tbl ∧ goodWord w = true) w h)
theorem in_X8 : ∀ w ∈ u_ws RX8 TX8 4, w ∈ qG := fun w h => List.mem_filter.mpr ((by decide +kernel : ∀ w ∈ u_ws RX8 TX8 4, w ∈ lw_tbl ∧ goodWord w = true) w h)
theorem in_X10 : ∀ w ∈ u_ws RX10 TX10 9, w ∈ qG := fun w h => List.mem_filter.mpr ((by decide +kernel : ∀ w ∈ u_ws RX10 TX10 9, w ∈ lw_tbl ∧ goodWord w = true) w h)
end
section
/-! the four methods that touch rows -/
theorem rowAt_in {L : List Int32} {i : Int32} (h0 : ¬ i < 0) (h1 : ¬ Int32.ofNat L.length ≤ i) : rowAt L i = L.getD i.toNatClampNeg 0 := by
  rw [rowAt, if_pos ⟨q_nlt h0, q_nle h1⟩]
theorem rowAt_neg {L : List Int32} {i : Int32} (h0 : i < 0) : rowAt L i = -1 := by
  rw [rowAt, if_neg]
  rintro ⟨h, -⟩
  rw [Int32.lt_iff_toInt_lt] at h0
  rw [Int32.le_iff_toInt_le] at h
  omega
theorem rowAt_out {L : List Int32} {i : Int32} (h1 : Int32.ofNat L.length ≤ i) : rowAt L i = -1 := by
  rw [rowAt, if_neg]
  rintro ⟨-, h⟩
  rw [Int32.lt_iff_toInt_lt] at h
  rw [Int32.le_iff_toInt_le] at h1
  omega
theorem rowPut_in {L : List Int32} {i x : Int32} (h0 : ¬ i < 0) (h1 : ¬ Int32.ofNat L.length ≤ i) : rowPut L i x = L.set i.toNatClampNeg x := by
  rw [rowPut, if_pos ⟨q_nlt h0, q_nle h1⟩]
theorem rowPut_neg {L : List Int32} {i x : Int32} (h0 : i < 0) : rowPut L i x = L := by
  rw [rowPut, if_neg]
  rintro ⟨h, -⟩
  rw [Int32.lt_iff_toInt_lt] at h0
  rw [Int32.le_iff_toInt_le] at h
  omega
theorem rowPut_out {L : List Int32} {i x : Int32} (h1 : Int32.ofNat L.length ≤ i) : rowPut L i x = L := by
  rw [rowPut, if_neg]
  rintro ⟨-, h⟩
  rw [Int32.lt_iff_toInt_lt] at h
  rw [Int32.le_iff_toInt_le] at h1
  omega
theorem qRow.put {cs : qC} {M : qM} {r k : Nat} {L : List Int32} (h : qRow cs M r L k) {i : Nat} (x : Int32) (hi : i < L.length) : qRow cs (qUp M r (.inl (cs 0, L.length, .inl (upd (fun j => L.getD j 0) i x)))) r (L.set i x) k :=
  ⟨by rw [qUp_at, qrow_set _ x hi], by rw [List.length_set]; exact h.2.1, h.2.2⟩
theorem q_nIin {j k : Nat} (h : j < k) (hk : k < 2 ^ 31) : ¬ nI j < 0 ∧ ¬ Int32.ofNat k ≤ nI j :=
  ⟨nI_pos (by omega), nI_ge h hk⟩
theorem rowAt_nI {L : List Int32} {j : Nat} (h : j < L.length) (hk : L.length < 2 ^ 31) : rowAt L (nI j) = L.getD j 0 := by
  rw [rowAt_in (q_nIin h hk).1 (q_nIin h hk).2, nI_clamp (by omega)]
set_option maxHeartbeats 4000000 in
theorem c_X10_at (l : Launch) (D : va_G) (cs : qC) {M : qM} {N r k : Nat} {L : List Int32} (hr : qRow cs M r L k) (i : Int32) :
    qMet l D cs yX10_at (qws yX10_at cX10_at 2 (some .int)) { frames := 0, cells := 0, slots := 0, locals := 0 } M N [.ref r, .int i] (qRet M N (.int (rowAt L i))) 0 0 := by
  refine q_head (by decide) ?_ (Nat.le_of_ble_eq_true rfl)
  intro p e s m below meth c ls hx hb hret hlk hml hown hnm hg hK hN hI hl
  have hlt : L.length < 2 ^ 31 := by rw [hr.2.1]; exact hr.2.2
  have hl : lv_has ls 2 [(0, .ref r), (1, .int i)] := hl
  have hM := hr.1
  refine lv_aload_n hx hb dX10_at_0 rfl (lv_at hl 0 rfl) ?_
  refine lv_ifnull hx hb dX10_at_1 ?_
  refine lv_iload_n hx hb dX10_at_4 rfl (lv_at hl 1 rfl) ?_
  refine lv_if_lt (tgt := 20) hx hb dX10_at_5 (by decide) (fun c1 => ?_) (fun c1 => ?_)
  · refine lv_iconst (v := -1) hx hb dX10_at_20 (by decide) ?_
    exact q_iret hx hb hret hlk hN hI ⟨by rw [rowAt_neg c1], rfl, rfl⟩ dX10_at_21
  · refine lv_iload_n hx hb dX10_at_8 rfl (lv_at hl 1 rfl) ?_
    refine lv_aload_n hx hb dX10_at_9 rfl (lv_at hl 0 rfl) ?_
    refine q_alen hx hb hK hI 0 rfl hM rfl dX10_at_10 ?_
    refine lv_icmp_ge (tgt := 20) hx hb dX10_at_11 (by decide) (fun c2 => ?_) (fun c2 => ?_)
    · refine lv_iconst (v := -1) hx hb dX10_at_20 (by decide) ?_
      exact q_iret hx hb hret hlk hN hI ⟨by rw [rowAt_out c2], rfl, rfl⟩ dX10_at_21
    · refine lv_aload_n hx hb dX10_at_14 rfl (lv_at hl 0 rfl) ?_
      refine lv_iload_n hx hb dX10_at_15 rfl (lv_at hl 1 rfl) ?_
      refine q_iald hx hb hK hI hM (q_vpin hlt (q_nlt c1) (q_nle c2)) dX10_at_16 ?_
      refine lv_goto (tgt := 21) hx hb dX10_at_17 (by decide) ?_
      exact q_iret hx hb hret hlk hN hI ⟨by rw [rowAt_in c1 c2], rfl, rfl⟩ dX10_at_21
set_option maxHeartbeats 4000000 in
theorem c_X10_put (l : Launch) (D : va_G) (cs : qC) {M : qM} {N r k : Nat} {L : List Int32} (hr : qRow cs M r L k) (i x : Int32) :
    qMet l D cs yX10_put (qws yX10_put cX10_put 3 none) { frames := 0, cells := 0, slots := 0, locals := 0 } M N [.ref r, .int i, .int x] (qMod N none (fun M' => qRow cs M' r (rowPut L i x) k ∧ qFr (qIn r 1) M M')) 0 0 := by
  refine q_head (by decide) ?_ (Nat.le_of_ble_eq_true rfl)
  intro p e s m below meth c ls hx hb hret hlk hml hown hnm hg hK hN hI hl
  have hlt : L.length < 2 ^ 31 := by rw [hr.2.1]; exact hr.2.2
  have hl : lv_has ls 3 [(0, .ref r), (1, .int i), (2, .int x)] := hl
  have hM := hr.1
  refine lv_aload_n hx hb dX10_put_0 rfl (lv_at hl 0 rfl) ?_
  refine lv_ifnull hx hb dX10_put_1 ?_
  refine lv_iload_n hx hb dX10_put_4 rfl (lv_at hl 1 rfl) ?_
  refine lv_if_lt (tgt := 18) hx hb dX10_put_5 (by decide) (fun c1 => ?_) (fun c1 => ?_)
  · exact q_vret (st := []) hx hb hret hlk hN hI ⟨rfl, ⟨by rw [rowPut_neg c1]; exact hr, qFr.rf⟩, rfl⟩ dX10_put_18
  · refine lv_iload_n hx hb dX10_put_8 rfl (lv_at hl 1 rfl) ?_
    refine lv_aload_n hx hb dX10_put_9 rfl (lv_at hl 0 rfl) ?_
    refine q_alen hx hb hK hI 0 rfl hM rfl dX10_put_10 ?_
    refine lv_icmp_ge (tgt := 18) hx hb dX10_put_11 (by decide) (fun c2 => ?_) (fun c2 => ?_)
    · exact q_vret (st := []) hx hb hret hlk hN hI ⟨rfl, ⟨by rw [rowPut_out c2]; exact hr, qFr.rf⟩, rfl⟩ dX10_put_18
    · refine lv_aload_n hx hb dX10_put_14 rfl (lv_at hl 0 rfl) ?_
      refine lv_iload_n hx hb dX10_put_15 rfl (lv_at hl 1 rfl) ?_
      refine lv_iload_n hx hb dX10_put_16 rfl (lv_at hl 2 rfl) ?_
      refine q_iast hx hb hK hI hM (q_vpin hlt (q_nlt c1) (q_nle c2)) dX10_put_17 (fun H locs hI => ?_)
      exact q_vret (st := []) hx hb hret hlk hN hI ⟨rfl, ⟨by rw [rowPut_in c1 c2]; exact hr.put x (q_within hlt (q_nlt c1) (q_nle c2)), qFr.up (by decide)⟩, rfl⟩ dX10_put_18
theorem q_fillS {L : List Int32} {x : Int32} {j : Nat} (h : j < L.length) : (List.replicate j x ++ L.drop j).set j x = List.replicate (j + 1) x ++ L.drop (j + 1) := by
  rw [List.set_append_right _ _ (by simp)]
  simp only [List.length_replicate, Nat.sub_self]
  rw [List.drop_eq_getElem_cons h, List.set_cons_zero, List.replicate_succ', List.append_assoc]
  rfl
theorem q_copyS {L1 L2 : List Int32} {j : Nat} (h : j < L2.length) (he : L1.length = L2.length) : (L1.take j ++ L2.drop j).set j (L1.getD j 0) = L1.take (j + 1) ++ L2.drop (j + 1) := by
  have hj : (L1.take j).length = j := by rw [List.length_take]; omega
  rw [List.set_append_right _ _ (by omega), hj, Nat.sub_self, List.drop_eq_getElem_cons h, List.set_cons_zero]
  rw [List.take_succ_eq_append_getElem (by omega), List.append_assoc]
  have : L1.getD j 0 = L1[j] := by simp [List.getD, (by omega : j < L1.length)]
  rw [this]
  rfl
set_option maxHeartbeats 4000000 in
theorem c_X10_fill (l : Launch) (D : va_G) (cs : qC) {M : qM} {N r k : Nat} {L : List Int32} (hr : qRow cs M r L k) (x : Int32) :
    qMet l D cs yX10_fill (qws yX10_fill cX10_fill 3 none) { frames := 0, cells := 0, slots := 0, locals := 0 } M N [.ref r, .int x] (qMod N none (fun M' => qRow cs M' r (rowFill L x) k ∧ qFr (qIn r 1) M M')) 0 0 := by
  refine q_head (by decide) ?_ (Nat.le_of_ble_eq_true rfl)
  intro p e s m below meth c ls hx hb hret hlk hml hown hnm hg hK hN hI hl
  have hlt : L.length < 2 ^ 31 := by rw [hr.2.1]; exact hr.2.2
  have hl : lv_has ls 3 [(0, .ref r), (1, .int x)] := hl
  refine lv_iconst (v := nI 0) hx hb dX10_fill_0 (by decide) ?_
  refine lv_istore_n (lv' := [(2, .int (nI 0)), (0, .ref r), (1, .int x)]) hx hb dX10_fill_1 rfl hl (by decide) rfl (fun ls hl => ?_)
  have loop : ∀ (n j : Nat), n + j = L.length → ∀ (M1 : qM), qRow cs M1 r (List.replicate j x ++ L.drop j) k → qFr (qIn r 1) M M1 → ∀ (H : Heap) (locs : List Loc) (ls : Array Slot), qI D M s.heap M1 N H locs → lv_has ls 3 [(2, .int (nI j)), (0, .ref r), (1, .int x)] →
      W p l e { frames := 0, cells := 0, slots := 0, locals := 0 } s m [Value.ref r, Value.int x].toArray below meth c H locs 0 0 (MQ below (qQ D M N (qMod N none (fun M' => qRow cs M' r (rowFill L x) k ∧ qFr (qIn r 1) M M'))) [Value.ref r, Value.int x].toArray s 0 0 (qA M N)) (F0 m 2 ls []) := by
    intro n
    induction n with
    | zero =>
      intro j hj M1 hr1 hS H locs ls hI hl
      refine lv_aload_n hx hb dX10_fill_2 rfl (lv_at hl 1 rfl) ?_
      refine lv_ifnull hx hb dX10_fill_3 ?_
      refine lv_iload_n hx hb dX10_fill_6 rfl (lv_at hl 0 rfl) ?_
      refine lv_aload_n hx hb dX10_fill_7 rfl (lv_at hl 1 rfl) ?_
      refine q_alen hx hb hK hI 0 rfl hr1.1 rfl dX10_fill_8 ?_
      refine lv_icmp_ge (tgt := 22) hx hb dX10_fill_9 (by decide) (fun c2 => ?_) (fun c2 => ?_)
      · have e1 : List.replicate j x ++ L.drop j = rowFill L x := by
          rw [rowFill, show j = L.length by omega, List.drop_length, List.append_nil]
        exact q_vret (st := []) hx hb hret hlk hN hI ⟨rfl, ⟨by rw [← e1]; exact hr1, hS⟩, rfl⟩ dX10_fill_22
      · exact absurd (by show Int32.ofNat _ ≤ _; rw [hr1.2.1, ← hr.2.1]; exact nI_le (by omega) (by omega)) c2
    | succ n ih =>
      intro j hj M1 hr1 hS H locs ls hI hl
      refine lv_aload_n hx hb dX10_fill_2 rfl (lv_at hl 1 rfl) ?_
      refine lv_ifnull hx hb dX10_fill_3 ?_
      refine lv_iload_n hx hb dX10_fill_6 rfl (lv_at hl 0 rfl) ?_
      refine lv_aload_n hx hb dX10_fill_7 rfl (lv_at hl 1 rfl) ?_
      refine q_alen hx hb hK hI 0 rfl hr1.1 rfl dX10_fill_8 ?_
      have hlen : (List.replicate j x ++ L.drop j).length = L.length := by rw [hr1.2.1, hr.2.1]
      have hq := q_nIin (j := j) (k := (List.replicate j x ++ L.drop j).length) (by omega) (by omega)
      refine lv_icmp_ge (tgt := 22) hx hb dX10_fill_9 (by decide) (fun c2 => absurd c2 hq.2) (fun c2 => ?_)
      refine lv_aload_n hx hb dX10_fill_12 rfl (lv_at hl 1 rfl) ?_
      refine lv_iload_n hx hb dX10_fill_13 rfl (lv_at hl 0 rfl) ?_
      refine lv_iload_n hx hb dX10_fill_14 rfl (lv_at hl 2 rfl) ?_
      refine q_iast hx hb hK hI hr1.1 (q_vpin (by omega) (q_nlt hq.1) (q_nle hq.2)) dX10_fill_15 (fun H locs hI => ?_)
      refine lv_iinc (v := nI (j + 1)) (lv' := [(2, .int (nI (j + 1))), (0, .ref r), (1, .int x)]) hx hb dX10_fill_16 hl (k := 0) rfl (by rw [nI_succ]; rfl) (by decide) rfl (fun ls hl => ?_)
      refine lv_goto (tgt := 2) hx hb dX10_fill_19 (by decide) ?_
      have hr2 := hr1.put (i := (nI j).toNatClampNeg) x (by rw [nI_clamp (by omega)]; omega)
      refine ih (j + 1) (by omega) _ ?_ (hS.tr (qFr.up (by decide)) (fun q h => h)) H locs ls hI hl
      have e2 : (List.replicate j x ++ L.drop j).set (nI j).toNatClampNeg x = List.replicate (j + 1) x ++ L.drop (j + 1) := by
        rw [nI_clamp (by omega)]; exact q_fillS (by omega)
      rw [← e2]
      exact hr2
  exact loop L.length 0 (by omega) M hr qFr.rf _ _ _ hI hl
set_option maxHeartbeats 4000000 in
theorem c_X10_copyRow (l : Launch) (D : va_G) (cs : qC) {M : qM} {N r1 r2 k : Nat} {L1 L2 : List Int32} (hr1 : qRow cs M r1 L1 k) (hr2 : qRow cs M r2 L2 k) (hne : r1 ≠ r2) :
    qMet l D cs yX10_copyRow (qws yX10_copyRow cX10_copyRow 3 none) { frames := 1, cells := 0, slots := 0, locals := 21 } M N [.ref r1, .ref r2] (qMod N none (fun M' => qRow cs M' r2 L1 k ∧ qFr (qIn r2 1) M M')) 0 0 := by
  refine q_head (by decide) ?_ (Nat.le_of_ble_eq_true rfl)
  intro p e s m below meth c ls hx hb hret hlk hml hown hnm hg hK hN hI hl
  have hlt : L2.length < 2 ^ 31 := by rw [hr2.2.1]; exact hr2.2.2
  have hee : L1.length = L2.length := hr1.2.1.trans hr2.2.1.symm
  have hl : lv_has ls 3 [(0, .ref r1), (1, .ref r2)] := hl
  refine lv_iconst (v := nI 0) hx hb dX10_copyRow_0 (by decide) ?_
  refine lv_istore_n (lv' := [(2, .int (nI 0)), (0, .ref r1), (1, .ref r2)]) hx hb dX10_copyRow_1 rfl hl (by decide) rfl (fun ls hl => ?_)
  have loop : ∀ (n j : Nat), n + j = L2.length → ∀ (M1 : qM), qRow cs M1 r1 L1 k → qRow cs M1 r2 (L1.take j ++ L2.drop j) k → qFr (qIn r2 1) M M1 → ∀ (H : Heap) (locs : List Loc) (ls : Array Slot), qI D M s.heap M1 N H locs → lv_has ls 3 [(2, .int (nI j)), (0, .ref r1), (1, .ref r2)] →
      W p l e { frames := 1, cells := 0, slots := 0, locals := 21 } s m [Value.ref r1, Value.ref r2].toArray below meth c H locs 0 0 (MQ below (qQ D M N (qMod N none (fun M' => qRow cs M' r2 L1 k ∧ qFr (qIn r2 1) M M'))) [Value.ref r1, Value.ref r2].toArray s 0 0 (qA M N)) (F0 m 2 ls []) := by
    intro n
    induction n with
    | zero =>
      intro j hj M1 hr1 hr2' hS H locs ls hI hl
      refine lv_aload_n hx hb dX10_copyRow_2 rfl (lv_at hl 2 rfl) ?_
      refine lv_ifnull hx hb dX10_copyRow_3 ?_
      refine lv_iload_n hx hb dX10_copyRow_6 rfl (lv_at hl 0 rfl) ?_
      refine lv_aload_n hx hb dX10_copyRow_7 rfl (lv_at hl 2 rfl) ?_
      refine q_alen hx hb hK hI 0 rfl hr2'.1 rfl dX10_copyRow_8 ?_
      refine lv_icmp_ge (tgt := 26) hx hb dX10_copyRow_9 (by decide) (fun c2 => ?_) (fun c2 => ?_)
      · have e1 : L1.take j ++ L2.drop j = L1 := by
          rw [show j = L2.length by omega, List.drop_length, List.append_nil, ← hee, List.take_length]
        exact q_vret (st := []) hx hb hret hlk hN hI ⟨rfl, ⟨by rw [e1] at hr2'; exact hr2', hS⟩, rfl⟩ dX10_copyRow_26
      · exact absurd (by show Int32.ofNat _ ≤ _; rw [hr2'.2.1, ← hr2.2.1]; exact nI_le (by omega) (by omega)) c2
    | succ n ih =>
      intro j hj M1 hr1 hr2' hS H locs ls hI hl
      refine lv_aload_n hx hb dX10_copyRow_2 rfl (lv_at hl 2 rfl) ?_
      refine lv_ifnull hx hb dX10_copyRow_3 ?_
      refine lv_iload_n hx hb dX10_copyRow_6 rfl (lv_at hl 0 rfl) ?_
      refine lv_aload_n hx hb dX10_copyRow_7 rfl (lv_at hl 2 rfl) ?_
      refine q_alen hx hb hK hI 0 rfl hr2'.1 rfl dX10_copyRow_8 ?_
      have hlen : (L1.take j ++ L2.drop j).length = L2.length := by rw [hr2'.2.1, hr2.2.1]
      have hq := q_nIin (j := j) (k := (L1.take j ++ L2.drop j).length) (by omega) (by omega)
      refine lv_icmp_ge (tgt := 26) hx hb dX10_copyRow_9 (by decide) (fun c2 => absurd c2 hq.2) (fun c2 => ?_)
      refine lv_aload_n hx hb dX10_copyRow_12 rfl (lv_at hl 2 rfl) ?_
      refine lv_iload_n hx hb dX10_copyRow_13 rfl (lv_at hl 0 rfl) ?_
      refine lv_aload_n hx hb dX10_copyRow_14 rfl (lv_at hl 1 rfl) ?_
      refine lv_iload_n hx hb dX10_copyRow_15 rfl (lv_at hl 0 rfl) ?_
      refine q_goR (q_runS (As := [.ref r1, .int (nI j)]) (rest := [.int (nI j), .ref r2]) hx hb hml hown hg (c_X10_at l D cs hr1 (nI j)) v_X10_at wl_X10_318 rfl rfl ⟨Nat.le_of_ble_eq_true rfl, Nat.le_of_ble_eq_true rfl⟩ hI hK hl.1 rfl rfl (Nat.le_of_ble_eq_true rfl) dX10_copyRow_16 ⟨Nat.le_of_ble_eq_true rfl, Nat.le_of_ble_eq_true rfl⟩) hI (fun H locs hI => ?_)
      refine q_iast hx hb hK hI hr2'.1 (q_vpin (by omega) (q_nlt hq.1) (q_nle hq.2)) dX10_copyRow_19 (fun H locs hI => ?_)
      refine lv_iinc (v := nI (j + 1)) (lv' := [(2, .int (nI (j + 1))), (0, .ref r1), (1, .ref r2)]) hx hb dX10_copyRow_20 hl (k := 0) rfl (by rw [nI_succ]; rfl) (by decide) rfl (fun ls hl => ?_)
      refine lv_goto (tgt := 2) hx hb dX10_copyRow_23 (by decide) ?_
      have hr3 := hr2'.put (i := (nI j).toNatClampNeg) (rowAt L1 (nI j)) (by rw [nI_clamp (by omega)]; omega)
      refine ih (j + 1) (by omega) _ (hr1.same (qUp_ne hne)) ?_ (hS.tr (qFr.up (by decide)) (fun q h => h)) H locs ls hI hl
      have e2 : (L1.take j ++ L2.drop j).set (nI j).toNatClampNeg (rowAt L1 (nI j)) = L1.take (j + 1) ++ L2.drop (j + 1) := by
        rw [nI_clamp (by omega), rowAt_nI (by omega) (by omega)]; exact q_copyS (by omega) hee
      rw [← e2]
      exact hr3
  exact loop L2.length 0 (by omega) M hr1 hr2 qFr.rf _ _ _ hI hl
end
section
theorem q_nbi (b : Bool) : narrow .boolean (.int (qbi b)) = .int (qbi b) := by cases b <;> rfl
theorem q_tbl {x : Int32} {n : Nat} (hn : n < 2 ^ 31) (h : ∀ j : Nat, j ≤ n → ¬ x = nI j) : x.toInt < 0 ∨ (n : Int) < x.toInt := by
  rcases Int.lt_or_le x.toInt 0 with h0 | h0
  · exact Or.inl h0
  · rcases Int.lt_or_le (n : Int) x.toInt with h1 | h1
    · exact Or.inr h1
    · refine absurd ?_ (h x.toInt.toNat (by omega))
      rw [← Int32.toInt_inj, nI_toInt (by omega)]
      omega
def s_X10_lastAlong_L4 (L : List Int32) (p1 : Int32) : Nat → Int32 → Int32 → Int32
  | 0, _, _ => default
  | n + 1, x2h4, x3h4 => (if 16 ≤ x3h4 then x2h4 else (if (rowAt L x2h4) < 0 then x2h4 else (s_X10_lastAlong_L4 L p1 n (rowAt L x2h4) (x3h4 + 1))))
def s_X10_lastAlong (L : List Int32) (p1 : Int32) : Int32 := (s_X10_lastAlong_L4 L p1 ((16 : Int32).toInt.toNat + 1) p1 0)
set_option maxHeartbeats 4000000 in
set_option maxRecDepth 20000 in
theorem c_X10_lastAlong (l : Launch) (D : va_G) (cs : qC) {M0 : qM} {N r k : Nat} {L : List Int32} (hL0 : qRow cs M0 r L k) (p1 : Int32) :
    qMet l D cs yX10_lastAlong (qws yX10_lastAlong cX10_lastAlong 4 (some .int)) ({ frames := 1, cells := 0, slots := 0, locals := 21 } : Room) M0 N [.ref r, .int p1] (qRet M0 N (.int (s_X10_lastAlong L p1))) 0 0 := by
  obtain ⟨R, hR⟩ : ∃ R, s_X10_lastAlong L p1 = R := ⟨_, rfl⟩
  rw [hR]
  rw [s_X10_lastAlong] at hR
  refine q_head (by decide) ?_ (Nat.le_of_ble_eq_true rfl)
  intro p e s m below meth c ls hx hb hret hlk hml hown hnm hg hK hN hI hl
  have hl : lv_has ls 4 [(0, .ref r), (1, .int p1)] := hl
  refine lv_iload_n hx hb dX10_lastAlong_0 rfl (lv_at hl 1 rfl) ?_
  refine lv_istore_n (lv' := [(2, .int p1), (0, .ref r), (1, .int p1)]) hx hb dX10_lastAlong_1 rfl hl (by decide) rfl (fun ls hl => ?_)
  refine lv_iconst (v := 0) hx hb dX10_lastAlong_2 (by decide) ?_
  refine lv_istore_n (lv' := [(3, .int 0), (2, .int p1), (0, .ref r), (1, .int p1)]) hx hb dX10_lastAlong_3 rfl hl (by decide) rfl (fun ls hl => ?_)
  have loop4 : ∀ (n4 : Nat) (x2h4 : Int32) (x3h4 : Int32), qmu 16 x3h4 < n4 → s_X10_lastAlong_L4 L p1 n4 x2h4 x3h4 = R → ∀ (H : Heap) (locs : List Loc) (ls : Array Slot), qI D M0 s.heap M0 N H locs → lv_has ls 4 [(0, .ref r), (1, .int p1), (2, .int x2h4), (3, .int x3h4)] →
      W p l e ({ frames := 1, cells := 0, slots := 0, locals := 21 } : Room) s m [Value.ref r, Value.int p1].toArray below meth c H locs 0 0 (MQ below (qQ D M0 N (qRet M0 N (.int R))) [Value.ref r, Value.int p1].toArray s 0 0 (qA M0 N)) (F0 m 4 ls []) := by
    intro n4
    induction n4 with
    | zero => intro x2h4 x3h4 hm; exact absurd hm (Nat.not_lt_zero _)
    | succ n4 ih4 =>
      intro x2h4 x3h4 hm4 hR H locs ls  hI hl
      rw [s_X10_lastAlong_L4] at hR
      refine lv_iload_n hx hb dX10_lastAlong_4 rfl (lv_at hl 3 rfl) ?_
      refine lv_bipush (v := 16) hx hb dX10_lastAlong_5 (by decide) ?_
      refine lv_icmp_ge (tgt := 30) hx hb dX10_lastAlong_7 (by decide) (fun c1 => ?_) (fun c1 => ?_)
      · rw [if_pos c1] at hR
        refine lv_iload_n hx hb dX10_lastAlong_30 rfl (lv_at hl 2 rfl) ?_
        exact q_iret hx hb hret hlk hN hI (by subst hR; exact ⟨rfl, rfl, rfl⟩) dX10_lastAlong_31
      · rw [if_neg c1] at hR
        refine lv_aload_n hx hb dX10_lastAlong_10 rfl (lv_at hl 0 rfl) ?_
        refine lv_iload_n hx hb dX10_lastAlong_11 rfl (lv_at hl 2 rfl) ?_
        refine q_goR (q_runS (As := [.ref r, .int x2h4]) (rest := []) hx hb hml hown hg (c_X10_at l D cs hL0 x2h4) v_X10_at wl_X10_318 rfl rfl ⟨Nat.le_of_ble_eq_true rfl, Nat.le_of_ble_eq_true rfl⟩ hI hK hl.1 rfl rfl (Nat.le_of_ble_eq_true rfl) dX10_lastAlong_12 ⟨Nat.le_of_ble_eq_true rfl, Nat.le_of_ble_eq_true rfl⟩) hI (fun H locs hI => ?_)
        refine lv_if_lt (tgt := 30) hx hb dX10_lastAlong_15 (by decide) (fun c2 => ?_) (fun c2 => ?_)
        · rw [if_pos c2] at hR
          refine lv_iload_n hx hb dX10_lastAlong_30 rfl (lv_at hl 2 rfl) ?_
          exact q_iret hx hb hret hlk hN hI (by subst hR; exact ⟨rfl, rfl, rfl⟩) dX10_lastAlong_31
        · rw [if_neg c2] at hR
          refine lv_aload_n hx hb dX10_lastAlong_18 rfl (lv_at hl 0 rfl) ?_
          refine lv_iload_n hx hb dX10_lastAlong_19 rfl (lv_at hl 2 rfl) ?_
          refine q_goR (q_runS (As := [.ref r, .int x2h4]) (rest := []) hx hb hml hown hg (c_X10_at l D cs hL0 x2h4) v_X10_at wl_X10_318 rfl rfl ⟨Nat.le_of_ble_eq_true rfl, Nat.le_of_ble_eq_true rfl⟩ hI hK hl.1 rfl rfl (Nat.le_of_ble_eq_true rfl) dX10_lastAlong_20 ⟨Nat.le_of_ble_eq_true rfl, Nat.le_of_ble_eq_true rfl⟩) hI (fun H locs hI => ?_)
          refine lv_istore_n (lv' := [(2, .int (rowAt L x2h4)), (0, .ref r), (1, .int p1), (3, .int x3h4)]) hx hb dX10_lastAlong_23 rfl hl (by decide) rfl (fun ls hl => ?_)
          refine lv_iinc (v := x3h4 + 1) (lv' := [(3, .int (x3h4 + 1)), (2, .int (rowAt L x2h4)), (0, .ref r), (1, .int p1)]) hx hb dX10_lastAlong_24 hl (k := 3) rfl rfl (by decide) rfl (fun ls hl => ?_)
          refine lv_goto (tgt := 4) hx hb dX10_lastAlong_27 (by decide) ?_
          exact ih4 (rowAt L x2h4) (x3h4 + 1) (q_mu c1 hm4) hR _ _ _  hI (lv_sub hl [2, 3, 1, 0] rfl)
  exact loop4 _ p1 0 (q_fuel _) hR _ _ _  hI (lv_sub hl [2, 3, 1, 0] rfl)
def s_X10_stepsAlong_L8 (L : List Int32) (p1 : Int32) : Nat → Int32 → Int32 → Int32
  | 0, _, _ => default
  | n + 1, x2h8, x3h8 => (if 16 ≤ x2h8 then x2h8 else (if x3h8 < 0 then x2h8 else (s_X10_stepsAlong_L8 L p1 n (x2h8 + 1) (rowAt L x3h8))))
def s_X10_stepsAlong (L : List Int32) (p1 : Int32) : Int32 := (s_X10_stepsAlong_L8 L p1 ((16 : Int32).toInt.toNat + 1) 0 (rowAt L p1))
set_option maxHeartbeats 4000000 in
set_option maxRecDepth 20000 in
theorem c_X10_stepsAlong (l : Launch) (D : va_G) (cs : qC) {M0 : qM} {N r k : Nat} {L : List Int32} (hL0 : qRow cs M0 r L k) (p1 : Int32) :
    qMet l D cs yX10_stepsAlong (qws yX10_stepsAlong cX10_stepsAlong 4 (some .int)) ({ frames := 1, cells := 0, slots := 0, locals := 21 } : Room) M0 N [.ref r, .int p1] (qRet M0 N (.int (s_X10_stepsAlong L p1))) 0 0 := by
  obtain ⟨R, hR⟩ : ∃ R, s_X10_stepsAlong L p1 = R := ⟨_, rfl⟩
  rw [hR]
  rw [s_X10_stepsAlong] at hR
  refine q_head (by decide) ?_ (Nat.le_of_ble_eq_true rfl)
  intro p e s m below meth c ls hx hb hret hlk hml hown hnm hg hK hN hI hl
  have hl : lv_has ls 4 [(0, .ref r), (1, .int p1)] := hl
  refine lv_iconst (v := 0) hx hb dX10_stepsAlong_0 (by decide) ?_
  refine lv_istore_n (lv' := [(2, .int 0), (0, .ref r), (1, .int p1)]) hx hb dX10_stepsAlong_1 rfl hl (by decide) rfl (fun ls hl => ?_)
  refine lv_aload_n hx hb dX10_stepsAlong_2 rfl (lv_at hl 1 rfl) ?_
  refine lv_iload_n hx hb dX10_stepsAlong_3 rfl (lv_at hl 2 rfl) ?_
  refine q_goR (q_runS (As := [.ref r, .int p1]) (rest := []) hx hb hml hown hg (c_X10_at l D cs hL0 p1) v_X10_at wl_X10_318 rfl rfl ⟨Nat.le_of_ble_eq_true rfl, Nat.le_of_ble_eq_true rfl⟩ hI hK hl.1 rfl rfl (Nat.le_of_ble_eq_true rfl) dX10_stepsAlong_4 ⟨Nat.le_of_ble_eq_true rfl, Nat.le_of_ble_eq_true rfl⟩) hI (fun H locs hI => ?_)
  refine lv_istore_n (lv' := [(3, .int (rowAt L p1)), (2, .int 0), (0, .ref r), (1, .int p1)]) hx hb dX10_stepsAlong_7 rfl hl (by decide) rfl (fun ls hl => ?_)
  have loop8 : ∀ (n8 : Nat) (x2h8 : Int32) (x3h8 : Int32), qmu 16 x2h8 < n8 → s_X10_stepsAlong_L8 L p1 n8 x2h8 x3h8 = R → ∀ (H : Heap) (locs : List Loc) (ls : Array Slot), qI D M0 s.heap M0 N H locs → lv_has ls 4 [(0, .ref r), (1, .int p1), (2, .int x2h8), (3, .int x3h8)] →
      W p l e ({ frames := 1, cells := 0, slots := 0, locals := 21 } : Room) s m [Value.ref r, Value.int p1].toArray below meth c H locs 0 0 (MQ below (qQ D M0 N (qRet M0 N (.int R))) [Value.ref r, Value.int p1].toArray s 0 0 (qA M0 N)) (F0 m 8 ls []) := by
    intro n8
    induction n8 with
    | zero => intro x2h8 x3h8 hm; exact absurd hm (Nat.not_lt_zero _)
    | succ n8 ih8 =>
      intro x2h8 x3h8 hm8 hR H locs ls  hI hl
      rw [s_X10_stepsAlong_L8] at hR
      refine lv_iload_n hx hb dX10_stepsAlong_8 rfl (lv_at hl 2 rfl) ?_
      refine lv_bipush (v := 16) hx hb dX10_stepsAlong_9 (by decide) ?_
      refine lv_icmp_ge (tgt := 30) hx hb dX10_stepsAlong_11 (by decide) (fun c1 => ?_) (fun c1 => ?_)
      · rw [if_pos c1] at hR
        refine lv_iload_n hx hb dX10_stepsAlong_30 rfl (lv_at hl 2 rfl) ?_
        exact q_iret hx hb hret hlk hN hI (by subst hR; exact ⟨rfl, rfl, rfl⟩) dX10_stepsAlong_31
      · rw [if_neg c1] at hR
        refine lv_iload_n hx hb dX10_stepsAlong_14 rfl (lv_at hl 3 rfl) ?_
        refine lv_if_lt (tgt := 30) hx hb dX10_stepsAlong_15 (by decide) (fun c2 => ?_) (fun c2 => ?_)
        · rw [if_pos c2] at hR
          refine lv_iload_n hx hb dX10_stepsAlong_30 rfl (lv_at hl 2 rfl) ?_
          exact q_iret hx hb hret hlk hN hI (by subst hR; exact ⟨rfl, rfl, rfl⟩) dX10_stepsAlong_31
        · rw [if_neg c2] at hR
          refine lv_iinc (v := x2h8 + 1) (lv' := [(2, .int (x2h8 + 1)), (0, .ref r), (1, .int p1), (3, .int x3h8)]) hx hb dX10_stepsAlong_18 hl (k := 2) rfl rfl (by decide) rfl (fun ls hl => ?_)
          refine lv_aload_n hx hb dX10_stepsAlong_21 rfl (lv_at hl 1 rfl) ?_
          refine lv_iload_n hx hb dX10_stepsAlong_22 rfl (lv_at hl 3 rfl) ?_
          refine q_goR (q_runS (As := [.ref r, .int x3h8]) (rest := []) hx hb hml hown hg (c_X10_at l D cs hL0 x3h8) v_X10_at wl_X10_318 rfl rfl ⟨Nat.le_of_ble_eq_true rfl, Nat.le_of_ble_eq_true rfl⟩ hI hK hl.1 rfl rfl (Nat.le_of_ble_eq_true rfl) dX10_stepsAlong_23 ⟨Nat.le_of_ble_eq_true rfl, Nat.le_of_ble_eq_true rfl⟩) hI (fun H locs hI => ?_)
          refine lv_istore_n (lv' := [(3, .int (rowAt L x3h8)), (2, .int (x2h8 + 1)), (0, .ref r), (1, .int p1)]) hx hb dX10_stepsAlong_26 rfl hl (by decide) rfl (fun ls hl => ?_)
          refine lv_goto (tgt := 8) hx hb dX10_stepsAlong_27 (by decide) ?_
          exact ih8 (x2h8 + 1) (rowAt L x3h8) (q_mu c1 hm8) hR _ _ _  hI (lv_sub hl [2, 3, 1, 0] rfl)
  exact loop8 _ 0 (rowAt L p1) (q_fuel _) hR _ _ _  hI (lv_sub hl [2, 3, 1, 0] rfl)
def s_X10_isAlong_L5 (L : List Int32) (p1 : Int32) (p2 : Int32) : Nat → Int32 → Int32 → Bool
  | 0, _, _ => default
  | n + 1, x3h5, x4h5 => (if 16 ≤ x4h5 then false else (if x3h5 < 0 then false else (if x3h5 = p2 then true else (s_X10_isAlong_L5 L p1 p2 n (rowAt L x3h5) (x4h5 + 1)))))
def s_X10_isAlong (L : List Int32) (p1 : Int32) (p2 : Int32) : Bool := (s_X10_isAlong_L5 L p1 p2 ((16 : Int32).toInt.toNat + 1) p1 0)
set_option maxHeartbeats 4000000 in
set_option maxRecDepth 20000 in
theorem c_X10_isAlong (l : Launch) (D : va_G) (cs : qC) {M0 : qM} {N r k : Nat} {L : List Int32} (hL0 : qRow cs M0 r L k) (p1 : Int32) (p2 : Int32) :
    qMet l D cs yX10_isAlong (qws yX10_isAlong cX10_isAlong 5 (some .boolean)) ({ frames := 1, cells := 0, slots := 0, locals := 21 } : Room) M0 N [.ref r, .int p1, .int p2] (qRet M0 N (.int (qbi (s_X10_isAlong L p1 p2)))) 0 0 := by
  obtain ⟨R, hR⟩ : ∃ R, s_X10_isAlong L p1 p2 = R := ⟨_, rfl⟩
  rw [hR]
  rw [s_X10_isAlong] at hR
  refine q_head (by decide) ?_ (Nat.le_of_ble_eq_true rfl)
  intro p e s m below meth c ls hx hb hret hlk hml hown hnm hg hK hN hI hl
  have hl : lv_has ls 5 [(0, .ref r), (1, .int p1), (2, .int p2)] := hl
  refine lv_iload_n hx hb dX10_isAlong_0 rfl (lv_at hl 1 rfl) ?_
  refine lv_istore_n (lv' := [(3, .int p1), (0, .ref r), (1, .int p1), (2, .int p2)]) hx hb dX10_isAlong_1 rfl hl (by decide) rfl (fun ls hl => ?_)
  refine lv_iconst (v := 0) hx hb dX10_isAlong_2 (by decide) ?_
  refine lv_istore (lv' := [(4, .int 0), (3, .int p1), (0, .ref r), (1, .int p1), (2, .int p2)]) hx hb dX10_isAlong_3 hl (by decide) rfl (fun ls hl => ?_)
  have loop5 : ∀ (n5 : Nat) (x3h5 : Int32) (x4h5 : Int32), qmu 16 x4h5 < n5 → s_X10_isAlong_L5 L p1 p2 n5 x3h5 x4h5 = R → ∀ (H : Heap) (locs : List Loc) (ls : Array Slot), qI D M0 s.heap M0 N H locs → lv_has ls 5 [(0, .ref r), (1, .int p1), (2, .int p2), (3, .int x3h5), (4, .int x4h5)] →
      W p l e ({ frames := 1, cells := 0, slots := 0, locals := 21 } : Room) s m [Value.ref r, Value.int p1, Value.int p2].toArray below meth c H locs 0 0 (MQ below (qQ D M0 N (qRet M0 N (.int (qbi R)))) [Value.ref r, Value.int p1, Value.int p2].toArray s 0 0 (qA M0 N)) (F0 m 5 ls []) := by
    intro n5
    induction n5 with
    | zero => intro x3h5 x4h5 hm; exact absurd hm (Nat.not_lt_zero _)
    | succ n5 ih5 =>
      intro x3h5 x4h5 hm5 hR H locs ls  hI hl
      rw [s_X10_isAlong_L5] at hR
      refine lv_iload hx hb dX10_isAlong_5 (lv_at hl 4 rfl) ?_
      refine lv_bipush (v := 16) hx hb dX10_isAlong_7 (by decide) ?_
      refine lv_icmp_ge (tgt := 35) hx hb dX10_isAlong_9 (by decide) (fun c1 => ?_) (fun c1 => ?_)
      · rw [if_pos c1] at hR
        refine lv_iconst (v := 0) hx hb dX10_isAlong_35 (by decide) ?_
        exact q_zret hx hb hret rfl hlk hN hI (by subst hR; exact ⟨rfl, rfl, rfl⟩) dX10_isAlong_36
      · rw [if_neg c1] at hR
        refine lv_iload_n hx hb dX10_isAlong_12 rfl (lv_at hl 3 rfl) ?_
        refine lv_if_lt (tgt := 35) hx hb dX10_isAlong_13 (by decide) (fun c2 => ?_) (fun c2 => ?_)
        · rw [if_pos c2] at hR
          refine lv_iconst (v := 0) hx hb dX10_isAlong_35 (by decide) ?_
          exact q_zret hx hb hret rfl hlk hN hI (by subst hR; exact ⟨rfl, rfl, rfl⟩) dX10_isAlong_36
        · rw [if_neg c2] at hR
          refine lv_iload_n hx hb dX10_isAlong_16 rfl (lv_at hl 3 rfl) ?_
          refine lv_iload_n hx hb dX10_isAlong_17 rfl (lv_at hl 2 rfl) ?_
          refine lv_icmp_ne (tgt := 23) hx hb dX10_isAlong_18 (by decide) (fun c3 => ?_) (fun c3 => ?_)
          · rw [if_neg c3] at hR
            refine lv_aload_n hx hb dX10_isAlong_23 rfl (lv_at hl 0 rfl) ?_
            refine lv_iload_n hx hb dX10_isAlong_24 rfl (lv_at hl 3 rfl) ?_
            refine q_goR (q_runS (As := [.ref r, .int x3h5]) (rest := []) hx hb hml hown hg (c_X10_at l D cs hL0 x3h5) v_X10_at wl_X10_318 rfl rfl ⟨Nat.le_of_ble_eq_true rfl, Nat.le_of_ble_eq_true rfl⟩ hI hK hl.1 rfl rfl (Nat.le_of_ble_eq_true rfl) dX10_isAlong_25 ⟨Nat.le_of_ble_eq_true rfl, Nat.le_of_ble_eq_true rfl⟩) hI (fun H locs hI => ?_)
            refine lv_istore_n (lv' := [(3, .int (rowAt L x3h5)), (0, .ref r), (1, .int p1), (2, .int p2), (4, .int x4h5)]) hx hb dX10_isAlong_28 rfl hl (by decide) rfl (fun ls hl => ?_)
            refine lv_iinc (v := x4h5 + 1) (lv' := [(4, .int (x4h5 + 1)), (3, .int (rowAt L x3h5)), (0, .ref r), (1, .int p1), (2, .int p2)]) hx hb dX10_isAlong_29 hl (k := 4) rfl rfl (by decide) rfl (fun ls hl => ?_)
            refine lv_goto (tgt := 5) hx hb dX10_isAlong_32 (by decide) ?_
            exact ih5 (rowAt L x3h5) (x4h5 + 1) (q_mu c1 hm5) hR _ _ _  hI (lv_sub hl [2, 3, 4, 1, 0] rfl)
          · rw [if_pos c3] at hR
            refine lv_iconst (v := 1) hx hb dX10_isAlong_21 (by decide) ?_
            exact q_zret hx hb hret rfl hlk hN hI (by subst hR; exact ⟨rfl, rfl, rfl⟩) dX10_isAlong_22
  exact loop5 _ p1 0 (q_fuel _) hR _ _ _  hI (lv_sub hl [2, 3, 4, 1, 0] rfl)
def s_X10_orNothing  (p0 : Int32) : Int32 := (if 0 ≤ p0 then p0 else (-4))
set_option maxHeartbeats 4000000 in
set_option maxRecDepth 20000 in
theorem c_X10_orNothing (l : Launch) (D : va_G) (cs : qC) {M0 : qM} {N : Nat} (p0 : Int32) :
    qMet l D cs yX10_orNothing (qws yX10_orNothing cX10_orNothing 1 (some .int)) ({ frames := 0, cells := 0, slots := 0, locals := 0 } : Room) M0 N [.int p0] (qRet M0 N (.int (s_X10_orNothing p0))) 0 0 := by
  obtain ⟨R, hR⟩ : ∃ R, s_X10_orNothing p0 = R := ⟨_, rfl⟩
  rw [hR]
  rw [s_X10_orNothing] at hR
  refine q_head (by decide) ?_ (Nat.le_of_ble_eq_true rfl)
  intro p e s m below meth c ls hx hb hret hlk hml hown hnm hg hK hN hI hl
  have hl : lv_has ls 1 [(0, .int p0)] := hl
  refine lv_iload_n hx hb dX10_orNothing_0 rfl (lv_at hl 0 rfl) ?_
  refine lv_if_ge (tgt := 9) hx hb dX10_orNothing_1 (by decide) (fun c1 => ?_) (fun c1 => ?_)
  · rw [if_pos c1] at hR
    refine lv_iload_n hx hb dX10_orNothing_9 rfl (lv_at hl 0 rfl) ?_
    exact q_iret hx hb hret hlk hN hI (by subst hR; exact ⟨rfl, rfl, rfl⟩) dX10_orNothing_10
  · rw [if_neg c1] at hR
    refine lv_bipush (v := (-4)) hx hb dX10_orNothing_4 (by decide) ?_
    refine lv_goto (tgt := 10) hx hb dX10_orNothing_6 (by decide) ?_
    exact q_iret hx hb hret hlk hN hI (by subst hR; exact ⟨rfl, rfl, rfl⟩) dX10_orNothing_10
def s_X5_isWeight  (p0 : Int32) : Bool := (if p0 < 0 then false else (if 99 < p0 then false else true))
set_option maxHeartbeats 4000000 in
set_option maxRecDepth 20000 in
theorem c_X5_isWeight (l : Launch) (D : va_G) (cs : qC) {M0 : qM} {N : Nat} (p0 : Int32) :
    qMet l D cs yX5_isWeight (qws yX5_isWeight cX5_isWeight 1 (some .boolean)) ({ frames := 0, cells := 0, slots := 0, locals := 0 } : Room) M0 N [.int p0] (qRet M0 N (.int (qbi (s_X5_isWeight p0)))) 0 0 := by
  obtain ⟨R, hR⟩ : ∃ R, s_X5_isWeight p0 = R := ⟨_, rfl⟩
  rw [hR]
  rw [s_X5_isWeight] at hR
  refine q_head (by decide) ?_ (Nat.le_of_ble_eq_true rfl)
  intro p e s m below meth c ls hx hb hret hlk hml hown hnm hg hK hN hI hl
  have hl : lv_has ls 1 [(0, .int p0)] := hl
  refine lv_iload_n hx hb dX5_isWeight_0 rfl (lv_at hl 0 rfl) ?_
  refine lv_if_lt (tgt := 14) hx hb dX5_isWeight_1 (by decide) (fun c1 => ?_) (fun c1 => ?_)
  · rw [if_pos c1] at hR
    refine lv_iconst (v := 0) hx hb dX5_isWeight_14 (by decide) ?_
    exact q_zret hx hb hret rfl hlk hN hI (by subst hR; exact ⟨rfl, rfl, rfl⟩) dX5_isWeight_15
  · rw [if_neg c1] at hR
    refine lv_iload_n hx hb dX5_isWeight_4 rfl (lv_at hl 0 rfl) ?_
    refine lv_bipush (v := 99) hx hb dX5_isWeight_5 (by decide) ?_
    refine lv_icmp_gt (tgt := 14) hx hb dX5_isWeight_7 (by decide) (fun c2 => ?_) (fun c2 => ?_)
    · rw [if_pos c2] at hR
      refine lv_iconst (v := 0) hx hb dX5_isWeight_14 (by decide) ?_
      exact q_zret hx hb hret rfl hlk hN hI (by subst hR; exact ⟨rfl, rfl, rfl⟩) dX5_isWeight_15
    · rw [if_neg c2] at hR
      refine lv_iconst (v := 1) hx hb dX5_isWeight_10 (by decide) ?_
      refine lv_goto (tgt := 15) hx hb dX5_isWeight_11 (by decide) ?_
      exact q_zret hx hb hret rfl hlk hN hI (by subst hR; exact ⟨rfl, rfl, rfl⟩) dX5_isWeight_15
end
section
def s_X1_makeEmpty (v : qBV)  : qBV := ((rowFill v.1 0), (rowFill v.2.1 (-1)), 0)
set_option maxHeartbeats 4000000 in
set_option maxRecDepth 20000 in
theorem c_X1_makeEmpty (l : Launch) (D : va_G) (cs : qC) {M0 : qM} {N a : Nat} {v : qBV} (hL0 : qLB cs M0 a v) :
    qMet l D cs yX1_makeEmpty (qws yX1_makeEmpty cX1_makeEmpty 1 none) ({ frames := 1, cells := 0, slots := 0, locals := 22 } : Room) M0 N [.ref a] (qMod N none (fun M' => qLB cs M' a (s_X1_makeEmpty v) ∧ qFr (qIn a 3) M0 M')) 0 0 := by
  obtain ⟨R, hR⟩ : ∃ R, s_X1_makeEmpty v = R := ⟨_, rfl⟩
  rw [hR]
  rw [s_X1_makeEmpty] at hR
  refine q_head (by decide) ?_ (Nat.le_of_ble_eq_true rfl)
  intro p e s m below meth c ls hx hb hret hlk hml hown hnm hg hK hN hI hl
  have hl : lv_has ls 1 [(0, .ref a)] := hl
  have hS : qFr (qIn a 3) M0 M0 := qFr.rf
  refine lv_aload_n hx hb dX1_makeEmpty_0 rfl (lv_at hl 0 rfl) ?_
  refine lv_iconst (v := 0) hx hb dX1_makeEmpty_1 (by decide) ?_
  have hn := qLB.i2 0 hL0
  refine q_put (v := .int 0) hx hb hg in_X1 tyX1_ok nmX1 hown hK hI hL0.1 rfl 2 (by decide) (hg _ wf_X1_18) (fun _ h9 => h9) rfl rfl rfl (Nat.le_of_ble_eq_true rfl) dX1_makeEmpty_2 (fun H locs hI => ?_)
  obtain ⟨M, hn, hF, hI⟩ : ∃ Mx : qM, qLB cs Mx a (v.1, v.2.1, 0) ∧ qFr (qIn a 1) M0 Mx ∧ qI D M0 s.heap Mx N H locs := ⟨_, hn, qFr.up (by decide), hI⟩
  have hL0 := hn
  have hS := hS.tr hF (fun q hq => by omega)
  refine lv_aload_n hx hb dX1_makeEmpty_5 rfl (lv_at hl 0 rfl) ?_
  refine q_get hx hb hg in_X1 hown hK hI hL0.1 rfl 0 (by decide) (hg _ wf_X1_9) (fun _ h9 => h9) rfl dX1_makeEmpty_6 ?_
  refine lv_iconst (v := 0) hx hb dX1_makeEmpty_9 (by decide) ?_
  refine q_goN (q_runSN (As := [.ref (a + 1), .int 0]) (rest := []) hx hb hml hown hg (c_X10_fill l D cs hL0.2.1 0) v_X10_fill (hK.2 _ (List.mem_of_getElem? (i := 9) rfl)) rfl rfl ⟨Nat.le_of_ble_eq_true rfl, Nat.le_of_ble_eq_true rfl⟩ hI hK hl.1 rfl rfl (Nat.le_of_ble_eq_true rfl) dX1_makeEmpty_10 ⟨Nat.le_of_ble_eq_true rfl, Nat.le_of_ble_eq_true rfl⟩) hI (fun M H locs hp hI => ?_)
  obtain ⟨hn0, hF⟩ := hp
  generalize heg1 : rowFill v.1 0 = g1 at hn0 hR
  have hn := hn0
  have hn : qLB cs M a (g1, v.2.1, 0) := qLB.s0 (v := (v.1, v.2.1, 0)) hL0 hn (qFr.rf.tr hF (fun q hq => by omega))
  have hL0 := hn
  have hS := hS.tr hF (fun q hq => by omega)
  refine lv_aload_n hx hb dX1_makeEmpty_13 rfl (lv_at hl 0 rfl) ?_
  refine q_get hx hb hg in_X1 hown hK hI hL0.1 rfl 1 (by decide) (hg _ wf_X1_15) (fun _ h9 => h9) rfl dX1_makeEmpty_14 ?_
  refine lv_iconst (v := (-1)) hx hb dX1_makeEmpty_17 (by decide) ?_
  refine q_goN (q_runSN (As := [.ref (a + 2), .int (-1)]) (rest := []) hx hb hml hown hg (c_X10_fill l D cs hL0.2.2 (-1)) v_X10_fill (hK.2 _ (List.mem_of_getElem? (i := 9) rfl)) rfl rfl ⟨Nat.le_of_ble_eq_true rfl, Nat.le_of_ble_eq_true rfl⟩ hI hK hl.1 rfl rfl (Nat.le_of_ble_eq_true rfl) dX1_makeEmpty_18 ⟨Nat.le_of_ble_eq_true rfl, Nat.le_of_ble_eq_true rfl⟩) hI (fun M H locs hp hI => ?_)
  obtain ⟨hn0, hF⟩ := hp
  generalize heg2 : rowFill v.2.1 (-1) = g2 at hn0 hR
  have hn := hn0
  have hn : qLB cs M a (g1, g2, 0) := qLB.s1 (v := (g1, v.2.1, 0)) hL0 hn (qFr.rf.tr hF (fun q hq => by omega))
  have hL0 := hn
  have hS := hS.tr hF (fun q hq => by omega)
  exact q_vret (st := []) hx hb hret hlk hN hI (by subst hR; exact ⟨rfl, ⟨hL0, hS⟩, rfl⟩) dX1_makeEmpty_21
def s_X1_add (v : qBV) (p1 : Int32) : Int32 × qBV := (v.2.2, ((rowPut v.1 v.2.2 p1), (rowPut v.2.1 v.2.2 (-1)), v.2.2 + 1))
set_option maxHeartbeats 4000000 in
set_option maxRecDepth 20000 in
theorem c_X1_add (l : Launch) (D : va_G) (cs : qC) {M0 : qM} {N a : Nat} {v : qBV} (hL0 : qLB cs M0 a v) (p1 : Int32) :
    qMet l D cs yX1_add (qws yX1_add cX1_add 3 (some .int)) ({ frames := 1, cells := 0, slots := 0, locals := 22 } : Room) M0 N [.ref a, .int p1] (qMod N (some (.int ((s_X1_add v p1).1))) (fun M' => qLB cs M' a ((s_X1_add v p1).2) ∧ qFr (qIn a 3) M0 M')) 0 0 := by
  obtain ⟨R, hR⟩ : ∃ R, s_X1_add v p1 = R := ⟨_, rfl⟩
  rw [hR]
  rw [s_X1_add] at hR
  refine q_head (by decide) ?_ (Nat.le_of_ble_eq_true rfl)
  intro p e s m below meth c ls hx hb hret hlk hml hown hnm hg hK hN hI hl
  have hl : lv_has ls 3 [(0, .ref a), (1, .int p1)] := hl
  have hS : qFr (qIn a 3) M0 M0 := qFr.rf
  refine lv_aload_n hx hb dX1_add_0 rfl (lv_at hl 0 rfl) ?_
  refine q_get hx hb hg in_X1 hown hK hI hL0.1 rfl 2 (by decide) (hg _ wf_X1_18) (fun _ h9 => h9) rfl dX1_add_1 ?_
  refine lv_istore_n (lv' := [(2, .int v.2.2), (0, .ref a), (1, .int p1)]) hx hb dX1_add_4 rfl hl (by decide) rfl (fun ls hl => ?_)
  refine lv_aload_n hx hb dX1_add_5 rfl (lv_at hl 1 rfl) ?_
  refine q_get hx hb hg in_X1 hown hK hI hL0.1 rfl 0 (by decide) (hg _ wf_X1_9) (fun _ h9 => h9) rfl dX1_add_6 ?_
  refine lv_iload_n hx hb dX1_add_9 rfl (lv_at hl 0 rfl) ?_
  refine lv_iload_n hx hb dX1_add_10 rfl (lv_at hl 2 rfl) ?_
  refine q_goN (q_runSN (As := [.ref (a + 1), .int v.2.2, .int p1]) (rest := []) hx hb hml hown hg (c_X10_put l D cs hL0.2.1 v.2.2 p1) v_X10_put (hK.2 _ (List.mem_of_getElem? (i := 32) rfl)) rfl rfl ⟨Nat.le_of_ble_eq_true rfl, Nat.le_of_ble_eq_true rfl⟩ hI hK hl.1 rfl rfl (Nat.le_of_ble_eq_true rfl) dX1_add_11 ⟨Nat.le_of_ble_eq_true rfl, Nat.le_of_ble_eq_true rfl⟩) hI (fun M H locs hp hI => ?_)
  obtain ⟨hn0, hF⟩ := hp
  generalize heg1 : rowPut v.1 v.2.2 p1 = g1 at hn0 hR
  have hn := hn0
  have hn : qLB cs M a (g1, v.2.1, v.2.2) := qLB.s0 (v := v) hL0 hn (qFr.rf.tr hF (fun q hq => by omega))
  have hL0 := hn
  have hS := hS.tr hF (fun q hq => by omega)
  refine lv_aload_n hx hb dX1_add_14 rfl (lv_at hl 1 rfl) ?_
  refine q_get hx hb hg in_X1 hown hK hI hL0.1 rfl 1 (by decide) (hg _ wf_X1_15) (fun _ h9 => h9) rfl dX1_add_15 ?_
  refine lv_iload_n hx hb dX1_add_18 rfl (lv_at hl 0 rfl) ?_
  refine lv_iconst (v := (-1)) hx hb dX1_add_19 (by decide) ?_
  refine q_goN (q_runSN (As := [.ref (a + 2), .int v.2.2, .int (-1)]) (rest := []) hx hb hml hown hg (c_X10_put l D cs hL0.2.2 v.2.2 (-1)) v_X10_put (hK.2 _ (List.mem_of_getElem? (i := 32) rfl)) rfl rfl ⟨Nat.le_of_ble_eq_true rfl, Nat.le_of_ble_eq_true rfl⟩ hI hK hl.1 rfl rfl (Nat.le_of_ble_eq_true rfl) dX1_add_20 ⟨Nat.le_of_ble_eq_true rfl, Nat.le_of_ble_eq_true rfl⟩) hI (fun M H locs hp hI => ?_)
  obtain ⟨hn0, hF⟩ := hp
  generalize heg2 : rowPut v.2.1 v.2.2 (-1) = g2 at hn0 hR
  have hn := hn0
  have hn : qLB cs M a (g1, g2, v.2.2) := qLB.s1 (v := (g1, v.2.1, v.2.2)) hL0 hn (qFr.rf.tr hF (fun q hq => by omega))
  have hL0 := hn
  have hS := hS.tr hF (fun q hq => by omega)
  refine lv_aload_n hx hb dX1_add_23 rfl (lv_at hl 1 rfl) ?_
  refine lv_dup hx hb dX1_add_24 rfl ?_
  refine q_get hx hb hg in_X1 hown hK hI hL0.1 rfl 2 (by decide) (hg _ wf_X1_18) (fun _ h9 => h9) rfl dX1_add_25 ?_
  refine lv_iconst (v := 1) hx hb dX1_add_28 (by decide) ?_
  refine lv_iadd hx hb dX1_add_29 ?_
  have hn := qLB.i2 (v.2.2 + 1) hL0
  refine q_put (v := .int (v.2.2 + 1)) hx hb hg in_X1 tyX1_ok nmX1 hown hK hI hL0.1 rfl 2 (by decide) (hg _ wf_X1_18) (fun _ h9 => h9) rfl rfl rfl (Nat.le_of_ble_eq_true rfl) dX1_add_30 (fun H locs hI => ?_)
  obtain ⟨M, hn, hF, hI⟩ : ∃ Mx : qM, qLB cs Mx a (g1, g2, v.2.2 + 1) ∧ qFr (qIn a 1) M Mx ∧ qI D M0 s.heap Mx N H locs := ⟨_, hn, qFr.up (by decide), hI⟩
  have hL0 := hn
  have hS := hS.tr hF (fun q hq => by omega)
  refine lv_iload_n hx hb dX1_add_33 rfl (lv_at hl 0 rfl) ?_
  exact q_iret hx hb hret hlk hN hI (by subst hR; exact ⟨rfl, ⟨hL0, hS⟩, rfl⟩) dX1_add_34
def s_X1_isThere (v : qBV) (p1 : Int32) : Bool := (if p1 < 0 then false else (if v.2.2 ≤ p1 then false else true))
set_option maxHeartbeats 4000000 in
set_option maxRecDepth 20000 in
theorem c_X1_isThere (l : Launch) (D : va_G) (cs : qC) {M0 : qM} {N a : Nat} {v : qBV} (hL0 : qLB cs M0 a v) (p1 : Int32) :
    qMet l D cs yX1_isThere (qws yX1_isThere cX1_isThere 2 (some .boolean)) ({ frames := 0, cells := 0, slots := 0, locals := 0 } : Room) M0 N [.ref a, .int p1] (qRet M0 N (.int (qbi (s_X1_isThere v p1)))) 0 0 := by
  obtain ⟨R, hR⟩ : ∃ R, s_X1_isThere v p1 = R := ⟨_, rfl⟩
  rw [hR]
  rw [s_X1_isThere] at hR
  refine q_head (by decide) ?_ (Nat.le_of_ble_eq_true rfl)
  intro p e s m below meth c ls hx hb hret hlk hml hown hnm hg hK hN hI hl
  have hl : lv_has ls 2 [(0, .ref a), (1, .int p1)] := hl
  refine lv_iload_n hx hb dX1_isThere_0 rfl (lv_at hl 1 rfl) ?_
  refine lv_if_lt (tgt := 16) hx hb dX1_isThere_1 (by decide) (fun c1 => ?_) (fun c1 => ?_)
  · rw [if_pos c1] at hR
    refine lv_iconst (v := 0) hx hb dX1_isThere_16 (by decide) ?_
    exact q_zret hx hb hret rfl hlk hN hI (by subst hR; exact ⟨rfl, rfl, rfl⟩) dX1_isThere_17
  · rw [if_neg c1] at hR
    refine lv_iload_n hx hb dX1_isThere_4 rfl (lv_at hl 1 rfl) ?_
    refine lv_aload_n hx hb dX1_isThere_5 rfl (lv_at hl 0 rfl) ?_
    refine q_get hx hb hg in_X1 hown hK hI hL0.1 rfl 2 (by decide) (hg _ wf_X1_18) (fun _ h9 => h9) rfl dX1_isThere_6 ?_
    refine lv_icmp_ge (tgt := 16) hx hb dX1_isThere_9 (by decide) (fun c2 => ?_) (fun c2 => ?_)
    · rw [if_pos c2] at hR
      refine lv_iconst (v := 0) hx hb dX1_isThere_16 (by decide) ?_
      exact q_zret hx hb hret rfl hlk hN hI (by subst hR; exact ⟨rfl, rfl, rfl⟩) dX1_isThere_17
    · rw [if_neg c2] at hR
      refine lv_iconst (v := 1) hx hb dX1_isThere_12 (by decide) ?_
      refine lv_goto (tgt := 17) hx hb dX1_isThere_13 (by decide) ?_
      exact q_zret hx hb hret rfl hlk hN hI (by subst hR; exact ⟨rfl, rfl, rfl⟩) dX1_isThere_17
def s_X1_weightOf (v : qBV) (p1 : Int32) : Int32 := rowAt v.1 p1
set_option maxHeartbeats 4000000 in
set_option maxRecDepth 20000 in
theorem c_X1_weightOf (l : Launch) (D : va_G) (cs : qC) {M0 : qM} {N a : Nat} {v : qBV} (hL0 : qLB cs M0 a v) (p1 : Int32) :
    qMet l D cs yX1_weightOf (qws yX1_weightOf cX1_weightOf 2 (some .int)) ({ frames := 1, cells := 0, slots := 0, locals := 21 } : Room) M0 N [.ref a, .int p1] (qRet M0 N (.int (s_X1_weightOf v p1))) 0 0 := by
  obtain ⟨R, hR⟩ : ∃ R, s_X1_weightOf v p1 = R := ⟨_, rfl⟩
  rw [hR]
  rw [s_X1_weightOf] at hR
  refine q_head (by decide) ?_ (Nat.le_of_ble_eq_true rfl)
  intro p e s m below meth c ls hx hb hret hlk hml hown hnm hg hK hN hI hl
  have hl : lv_has ls 2 [(0, .ref a), (1, .int p1)] := hl
  refine lv_aload_n hx hb dX1_weightOf_0 rfl (lv_at hl 0 rfl) ?_
  refine q_get hx hb hg in_X1 hown hK hI hL0.1 rfl 0 (by decide) (hg _ wf_X1_9) (fun _ h9 => h9) rfl dX1_weightOf_1 ?_
  refine lv_iload_n hx hb dX1_weightOf_4 rfl (lv_at hl 1 rfl) ?_
  refine q_goR (q_runSN (As := [.ref (a + 1), .int p1]) (rest := []) hx hb hml hown hg (c_X10_at l D cs hL0.2.1 p1) v_X10_at (hK.2 _ (List.mem_of_getElem? (i := 33) rfl)) rfl rfl ⟨Nat.le_of_ble_eq_true rfl, Nat.le_of_ble_eq_true rfl⟩ hI hK hl.1 rfl rfl (Nat.le_of_ble_eq_true rfl) dX1_weightOf_5 ⟨Nat.le_of_ble_eq_true rfl, Nat.le_of_ble_eq_true rfl⟩) hI (fun H locs hI => ?_)
  exact q_iret hx hb hret hlk hN hI (by subst hR; exact ⟨rfl, rfl, rfl⟩) dX1_weightOf_8
def s_X1_holderOf (v : qBV) (p1 : Int32) : Int32 := rowAt v.2.1 p1
set_option maxHeartbeats 4000000 in
set_option maxRecDepth 20000 in
theorem c_X1_holderOf (l : Launch) (D : va_G) (cs : qC) {M0 : qM} {N a : Nat} {v : qBV} (hL0 : qLB cs M0 a v) (p1 : Int32) :
    qMet l D cs yX1_holderOf (qws yX1_holderOf cX1_holderOf 2 (some .int)) ({ frames := 1, cells := 0, slots := 0, locals := 21 } : Room) M0 N [.ref a, .int p1] (qRet M0 N (.int (s_X1_holderOf v p1))) 0 0 := by
  obtain ⟨R, hR⟩ : ∃ R, s_X1_holderOf v p1 = R := ⟨_, rfl⟩
  rw [hR]
  rw [s_X1_holderOf] at hR
  refine q_head (by decide) ?_ (Nat.le_of_ble_eq_true rfl)
  intro p e s m below meth c ls hx hb hret hlk hml hown hnm hg hK hN hI hl
  have hl : lv_has ls 2 [(0, .ref a), (1, .int p1)] := hl
  refine lv_aload_n hx hb dX1_holderOf_0 rfl (lv_at hl 0 rfl) ?_
  refine q_get hx hb hg in_X1 hown hK hI hL0.1 rfl 1 (by decide) (hg _ wf_X1_15) (fun _ h9 => h9) rfl dX1_holderOf_1 ?_
  refine lv_iload_n hx hb dX1_holderOf_4 rfl (lv_at hl 1 rfl) ?_
  refine q_goR (q_runSN (As := [.ref (a + 2), .int p1]) (rest := []) hx hb hml hown hg (c_X10_at l D cs hL0.2.2 p1) v_X10_at (hK.2 _ (List.mem_of_getElem? (i := 33) rfl)) rfl rfl ⟨Nat.le_of_ble_eq_true rfl, Nat.le_of_ble_eq_true rfl⟩ hI hK hl.1 rfl rfl (Nat.le_of_ble_eq_true rfl) dX1_holderOf_5 ⟨Nat.le_of_ble_eq_true rfl, Nat.le_of_ble_eq_true rfl⟩) hI (fun H locs hI => ?_)
  exact q_iret hx hb hret hlk hN hI (by subst hR; exact ⟨rfl, rfl, rfl⟩) dX1_holderOf_8
def s_X1_depthOf (v : qBV) (p1 : Int32) : Int32 := s_X10_stepsAlong v.2.1 p1
set_option maxHeartbeats 4000000 in
set_option maxRecDepth 20000 in
theorem c_X1_depthOf (l : Launch) (D : va_G) (cs : qC) {M0 : qM} {N a : Nat} {v : qBV} (hL0 : qLB cs M0 a v) (p1 : Int32) :
    qMet l D cs yX1_depthOf (qws yX1_depthOf cX1_depthOf 2 (some .int)) ({ frames := 2, cells := 0, slots := 0, locals := 44 } : Room) M0 N [.ref a, .int p1] (qRet M0 N (.int (s_X1_depthOf v p1))) 0 0 := by
  obtain ⟨R, hR⟩ : ∃ R, s_X1_depthOf v p1 = R := ⟨_, rfl⟩
  rw [hR]
  rw [s_X1_depthOf] at hR
  refine q_head (by decide) ?_ (Nat.le_of_ble_eq_true rfl)
  intro p e s m below meth c ls hx hb hret hlk hml hown hnm hg hK hN hI hl
  have hl : lv_has ls 2 [(0, .ref a), (1, .int p1)] := hl
  refine lv_aload_n hx hb dX1_depthOf_0 rfl (lv_at hl 0 rfl) ?_
  refine q_get hx hb hg in_X1 hown hK hI hL0.1 rfl 1 (by decide) (hg _ wf_X1_15) (fun _ h9 => h9) rfl dX1_depthOf_1 ?_
  refine lv_iload_n hx hb dX1_depthOf_4 rfl (lv_at hl 1 rfl) ?_
  refine q_goR (q_runSN (As := [.ref (a + 2), .int p1]) (rest := []) hx hb hml hown hg (c_X10_stepsAlong l D cs hL0.2.2 p1) v_X10_stepsAlong (hK.2 _ (List.mem_of_getElem? (i := 39) rfl)) rfl rfl ⟨Nat.le_of_ble_eq_true rfl, Nat.le_of_ble_eq_true rfl⟩ hI hK hl.1 rfl rfl (Nat.le_of_ble_eq_true rfl) dX1_depthOf_5 ⟨Nat.le_of_ble_eq_true rfl, Nat.le_of_ble_eq_true rfl⟩) hI (fun H locs hI => ?_)
  exact q_iret hx hb hret hlk hN hI (by subst hR; exact ⟨rfl, rfl, rfl⟩) dX1_depthOf_8
def s_X1_rootByHolders (v : qBV) (p1 : Int32) : Int32 := s_X10_lastAlong v.2.1 p1
set_option maxHeartbeats 4000000 in
set_option maxRecDepth 20000 in
theorem c_X1_rootByHolders (l : Launch) (D : va_G) (cs : qC) {M0 : qM} {N a : Nat} {v : qBV} (hL0 : qLB cs M0 a v) (p1 : Int32) :
    qMet l D cs yX1_rootByHolders (qws yX1_rootByHolders cX1_rootByHolders 2 (some .int)) ({ frames := 2, cells := 0, slots := 0, locals := 44 } : Room) M0 N [.ref a, .int p1] (qRet M0 N (.int (s_X1_rootByHolders v p1))) 0 0 := by
  obtain ⟨R, hR⟩ : ∃ R, s_X1_rootByHolders v p1 = R := ⟨_, rfl⟩
  rw [hR]
  rw [s_X1_rootByHolders] at hR
  refine q_head (by decide) ?_ (Nat.le_of_ble_eq_true rfl)
  intro p e s m below meth c ls hx hb hret hlk hml hown hnm hg hK hN hI hl
  have hl : lv_has ls 2 [(0, .ref a), (1, .int p1)] := hl
  refine lv_aload_n hx hb dX1_rootByHolders_0 rfl (lv_at hl 0 rfl) ?_
  refine q_get hx hb hg in_X1 hown hK hI hL0.1 rfl 1 (by decide) (hg _ wf_X1_15) (fun _ h9 => h9) rfl dX1_rootByHolders_1 ?_
  refine lv_iload_n hx hb dX1_rootByHolders_4 rfl (lv_at hl 1 rfl) ?_
  refine q_goR (q_runSN (As := [.ref (a + 2), .int p1]) (rest := []) hx hb hml hown hg (c_X10_lastAlong l D cs hL0.2.2 p1) v_X10_lastAlong (hK.2 _ (List.mem_of_getElem? (i := 34) rfl)) rfl rfl ⟨Nat.le_of_ble_eq_true rfl, Nat.le_of_ble_eq_true rfl⟩ hI hK hl.1 rfl rfl (Nat.le_of_ble_eq_true rfl) dX1_rootByHolders_5 ⟨Nat.le_of_ble_eq_true rfl, Nat.le_of_ble_eq_true rfl⟩) hI (fun H locs hI => ?_)
  exact q_iret hx hb hret hlk hN hI (by subst hR; exact ⟨rfl, rfl, rfl⟩) dX1_rootByHolders_8
def s_X1_sumByHolders_L7 (v : qBV) (p1 : Int32) : Nat → Int32 → Int32 → Int32 → Int32
  | 0, _, _, _ => default
  | n + 1, x2h7, x3h7, x4h7 => (if 16 ≤ x4h7 then x2h7 else (if x3h7 < 0 then x2h7 else (s_X1_sumByHolders_L7 v p1 n (x2h7 + (s_X1_weightOf v x3h7)) (s_X1_holderOf v x3h7) (x4h7 + 1))))
def s_X1_sumByHolders (v : qBV) (p1 : Int32) : Int32 := (s_X1_sumByHolders_L7 v p1 ((16 : Int32).toInt.toNat + 1) 0 p1 0)
set_option maxHeartbeats 4000000 in
set_option maxRecDepth 20000 in
theorem c_X1_sumByHolders (l : Launch) (D : va_G) (cs : qC) {M0 : qM} {N a : Nat} {v : qBV} (hL0 : qLB cs M0 a v) (p1 : Int32) :
    qMet l D cs yX1_sumByHolders (qws yX1_sumByHolders cX1_sumByHolders 5 (some .int)) ({ frames := 2, cells := 0, slots := 0, locals := 42 } : Room) M0 N [.ref a, .int p1] (qRet M0 N (.int (s_X1_sumByHolders v p1))) 0 0 := by
  obtain ⟨R, hR⟩ : ∃ R, s_X1_sumByHolders v p1 = R := ⟨_, rfl⟩
  rw [hR]
  rw [s_X1_sumByHolders] at hR
  refine q_head (by decide) ?_ (Nat.le_of_ble_eq_true rfl)
  intro p e s m below meth c ls hx hb hret hlk hml hown hnm hg hK hN hI hl
  have hl : lv_has ls 5 [(0, .ref a), (1, .int p1)] := hl
  refine lv_iconst (v := 0) hx hb dX1_sumByHolders_0 (by decide) ?_
  refine lv_istore_n (lv' := [(2, .int 0), (0, .ref a), (1, .int p1)]) hx hb dX1_sumByHolders_1 rfl hl (by decide) rfl (fun ls hl => ?_)
  refine lv_iload_n hx hb dX1_sumByHolders_2 rfl (lv_at hl 2 rfl) ?_
  refine lv_istore_n (lv' := [(3, .int p1), (2, .int 0), (0, .ref a), (1, .int p1)]) hx hb dX1_sumByHolders_3 rfl hl (by decide) rfl (fun ls hl => ?_)
  refine lv_iconst (v := 0) hx hb dX1_sumByHolders_4 (by decide) ?_
  refine lv_istore (lv' := [(4, .int 0), (3, .int p1), (2, .int 0), (0, .ref a), (1, .int p1)]) hx hb dX1_sumByHolders_5 hl (by decide) rfl (fun ls hl => ?_)
  have loop7 : ∀ (n7 : Nat) (x2h7 : Int32) (x3h7 : Int32) (x4h7 : Int32), qmu 16 x4h7 < n7 → s_X1_sumByHolders_L7 v p1 n7 x2h7 x3h7 x4h7 = R → ∀ (H : Heap) (locs : List Loc) (ls : Array Slot), qI D M0 s.heap M0 N H locs → lv_has ls 5 [(0, .ref a), (1, .int p1), (2, .int x2h7), (3, .int x3h7), (4, .int x4h7)] →
      W p l e ({ frames := 2, cells := 0, slots := 0, locals := 42 } : Room) s m [Value.ref a, Value.int p1].toArray below meth c H locs 0 0 (MQ below (qQ D M0 N (qRet M0 N (.int R))) [Value.ref a, Value.int p1].toArray s 0 0 (qA M0 N)) (F0 m 7 ls []) := by
    intro n7
    induction n7 with
    | zero => intro x2h7 x3h7 x4h7 hm; exact absurd hm (Nat.not_lt_zero _)
    | succ n7 ih7 =>
      intro x2h7 x3h7 x4h7 hm7 hR H locs ls  hI hl
      rw [s_X1_sumByHolders_L7] at hR
      refine lv_iload hx hb dX1_sumByHolders_7 (lv_at hl 4 rfl) ?_
      refine lv_bipush (v := 16) hx hb dX1_sumByHolders_9 (by decide) ?_
      refine lv_icmp_ge (tgt := 38) hx hb dX1_sumByHolders_11 (by decide) (fun c1 => ?_) (fun c1 => ?_)
      · rw [if_pos c1] at hR
        refine lv_iload_n hx hb dX1_sumByHolders_38 rfl (lv_at hl 2 rfl) ?_
        exact q_iret hx hb hret hlk hN hI (by subst hR; exact ⟨rfl, rfl, rfl⟩) dX1_sumByHolders_39
      · rw [if_neg c1] at hR
        refine lv_iload_n hx hb dX1_sumByHolders_14 rfl (lv_at hl 3 rfl) ?_
        refine lv_if_lt (tgt := 38) hx hb dX1_sumByHolders_15 (by decide) (fun c2 => ?_) (fun c2 => ?_)
        · rw [if_pos c2] at hR
          refine lv_iload_n hx hb dX1_sumByHolders_38 rfl (lv_at hl 2 rfl) ?_
          exact q_iret hx hb hret hlk hN hI (by subst hR; exact ⟨rfl, rfl, rfl⟩) dX1_sumByHolders_39
        · rw [if_neg c2] at hR
          refine lv_iload_n hx hb dX1_sumByHolders_18 rfl (lv_at hl 2 rfl) ?_
          refine lv_aload_n hx hb dX1_sumByHolders_19 rfl (lv_at hl 0 rfl) ?_
          refine lv_iload_n hx hb dX1_sumByHolders_20 rfl (lv_at hl 3 rfl) ?_
          refine q_goR (q_runV (As := [.int x3h7]) (rest := [.int x2h7]) hx hb hml hown hg (c_X1_weightOf l D cs hL0 x3h7) v_X1_weightOf wl_X1_44 rfl rfl ⟨Nat.le_of_ble_eq_true rfl, Nat.le_of_ble_eq_true rfl⟩ hI hK 2 hL0.1 rfl hl.1 rfl rfl (Nat.le_of_ble_eq_true rfl) dX1_sumByHolders_21 ⟨Nat.le_of_ble_eq_true rfl, Nat.le_of_ble_eq_true rfl⟩) hI (fun H locs hI => ?_)
          refine lv_iadd hx hb dX1_sumByHolders_24 ?_
          refine lv_istore_n (lv' := [(2, .int (x2h7 + (s_X1_weightOf v x3h7))), (0, .ref a), (1, .int p1), (3, .int x3h7), (4, .int x4h7)]) hx hb dX1_sumByHolders_25 rfl hl (by decide) rfl (fun ls hl => ?_)
          refine lv_aload_n hx hb dX1_sumByHolders_26 rfl (lv_at hl 1 rfl) ?_
          refine lv_iload_n hx hb dX1_sumByHolders_27 rfl (lv_at hl 3 rfl) ?_
          refine q_goR (q_runV (As := [.int x3h7]) (rest := []) hx hb hml hown hg (c_X1_holderOf l D cs hL0 x3h7) v_X1_holderOf wl_X1_48 rfl rfl ⟨Nat.le_of_ble_eq_true rfl, Nat.le_of_ble_eq_true rfl⟩ hI hK 2 hL0.1 rfl hl.1 rfl rfl (Nat.le_of_ble_eq_true rfl) dX1_sumByHolders_28 ⟨Nat.le_of_ble_eq_true rfl, Nat.le_of_ble_eq_true rfl⟩) hI (fun H locs hI => ?_)
          refine lv_istore_n (lv' := [(3, .int (s_X1_holderOf v x3h7)), (2, .int (x2h7 + (s_X1_weightOf v x3h7))), (0, .ref a), (1, .int p1), (4, .int x4h7)]) hx hb dX1_sumByHolders_31 rfl hl (by decide) rfl (fun ls hl => ?_)
          refine lv_iinc (v := x4h7 + 1) (lv' := [(4, .int (x4h7 + 1)), (3, .int (s_X1_holderOf v x3h7)), (2, .int (x2h7 + (s_X1_weightOf v x3h7))), (0, .ref a), (1, .int p1)]) hx hb dX1_sumByHolders_32 hl (k := 4) rfl rfl (by decide) rfl (fun ls hl => ?_)
          refine lv_goto (tgt := 7) hx hb dX1_sumByHolders_35 (by decide) ?_
          exact ih7 (x2h7 + (s_X1_weightOf v x3h7)) (s_X1_holderOf v x3h7) (x4h7 + 1) (q_mu c1 hm7) hR _ _ _  hI (lv_sub hl [3, 4, 2, 1, 0] rfl)
  exact loop7 _ 0 p1 0 (q_fuel _) hR _ _ _  hI (lv_sub hl [3, 4, 2, 1, 0] rfl)
def s_X1_jointByHolders_L5 (v : qBV) (p1 : Int32) (p2 : Int32) : Nat → Int32 → Int32 → Int32
  | 0, _, _ => default
  | n + 1, x3h5, x4h5 => (if 16 ≤ x4h5 then (-4) else (if x3h5 < 0 then (-4) else (if (qbi (s_X10_isAlong v.2.1 p2 x3h5)) = 0 then (s_X1_jointByHolders_L5 v p1 p2 n (s_X1_holderOf v x3h5) (x4h5 + 1)) else x3h5)))
def s_X1_jointByHolders (v : qBV) (p1 : Int32) (p2 : Int32) : Int32 := (s_X1_jointByHolders_L5 v p1 p2 ((16 : Int32).toInt.toNat + 1) p1 0)
set_option maxHeartbeats 4000000 in
set_option maxRecDepth 20000 in
theorem c_X1_jointByHolders (l : Launch) (D : va_G) (cs : qC) {M0 : qM} {N a : Nat} {v : qBV} (hL0 : qLB cs M0 a v) (p1 : Int32) (p2 : Int32) :
    qMet l D cs yX1_jointByHolders (qws yX1_jointByHolders cX1_jointByHolders 5 (some .int)) ({ frames := 2, cells := 0, slots := 0, locals := 45 } : Room) M0 N [.ref a, .int p1, .int p2] (qRet M0 N (.int (s_X1_jointByHolders v p1 p2))) 0 0 := by
  obtain ⟨R, hR⟩ : ∃ R, s_X1_jointByHolders v p1 p2 = R := ⟨_, rfl⟩
  rw [hR]
  rw [s_X1_jointByHolders] at hR
  refine q_head (by decide) ?_ (Nat.le_of_ble_eq_true rfl)
  intro p e s m below meth c ls hx hb hret hlk hml hown hnm hg hK hN hI hl
  have hl : lv_has ls 5 [(0, .ref a), (1, .int p1), (2, .int p2)] := hl
  refine lv_iload_n hx hb dX1_jointByHolders_0 rfl (lv_at hl 1 rfl) ?_
  refine lv_istore_n (lv' := [(3, .int p1), (0, .ref a), (1, .int p1), (2, .int p2)]) hx hb dX1_jointByHolders_1 rfl hl (by decide) rfl (fun ls hl => ?_)
  refine lv_iconst (v := 0) hx hb dX1_jointByHolders_2 (by decide) ?_
  refine lv_istore (lv' := [(4, .int 0), (3, .int p1), (0, .ref a), (1, .int p1), (2, .int p2)]) hx hb dX1_jointByHolders_3 hl (by decide) rfl (fun ls hl => ?_)
  have loop5 : ∀ (n5 : Nat) (x3h5 : Int32) (x4h5 : Int32), qmu 16 x4h5 < n5 → s_X1_jointByHolders_L5 v p1 p2 n5 x3h5 x4h5 = R → ∀ (H : Heap) (locs : List Loc) (ls : Array Slot), qI D M0 s.heap M0 N H locs → lv_has ls 5 [(0, .ref a), (1, .int p1), (2, .int p2), (3, .int x3h5), (4, .int x4h5)] →
      W p l e ({ frames := 2, cells := 0, slots := 0, locals := 45 } : Room) s m [Value.ref a, Value.int p1, Value.int p2].toArray below meth c H locs 0 0 (MQ below (qQ D M0 N (qRet M0 N (.int R))) [Value.ref a, Value.int p1, Value.int p2].toArray s 0 0 (qA M0 N)) (F0 m 5 ls []) := by
    intro n5
    induction n5 with
    | zero => intro x3h5 x4h5 hm; exact absurd hm (Nat.not_lt_zero _)
    | succ n5 ih5 =>
      intro x3h5 x4h5 hm5 hR H locs ls  hI hl
      rw [s_X1_jointByHolders_L5] at hR
      refine lv_iload hx hb dX1_jointByHolders_5 (lv_at hl 4 rfl) ?_
      refine lv_bipush (v := 16) hx hb dX1_jointByHolders_7 (by decide) ?_
      refine lv_icmp_ge (tgt := 42) hx hb dX1_jointByHolders_9 (by decide) (fun c1 => ?_) (fun c1 => ?_)
      · rw [if_pos c1] at hR
        refine lv_bipush (v := (-4)) hx hb dX1_jointByHolders_42 (by decide) ?_
        exact q_iret hx hb hret hlk hN hI (by subst hR; exact ⟨rfl, rfl, rfl⟩) dX1_jointByHolders_44
      · rw [if_neg c1] at hR
        refine lv_iload_n hx hb dX1_jointByHolders_12 rfl (lv_at hl 3 rfl) ?_
        refine lv_if_lt (tgt := 42) hx hb dX1_jointByHolders_13 (by decide) (fun c2 => ?_) (fun c2 => ?_)
        · rw [if_pos c2] at hR
          refine lv_bipush (v := (-4)) hx hb dX1_jointByHolders_42 (by decide) ?_
          exact q_iret hx hb hret hlk hN hI (by subst hR; exact ⟨rfl, rfl, rfl⟩) dX1_jointByHolders_44
        · rw [if_neg c2] at hR
          refine lv_aload_n hx hb dX1_jointByHolders_16 rfl (lv_at hl 0 rfl) ?_
          refine q_get hx hb hg in_X1 hown hK hI hL0.1 rfl 1 (by decide) (hg _ wf_X1_15) (fun _ h9 => h9) rfl dX1_jointByHolders_17 ?_
          refine lv_iload_n hx hb dX1_jointByHolders_20 rfl (lv_at hl 2 rfl) ?_
          refine lv_iload_n hx hb dX1_jointByHolders_21 rfl (lv_at hl 3 rfl) ?_
          refine q_goR (q_runSN (As := [.ref (a + 2), .int p2, .int x3h5]) (rest := []) hx hb hml hown hg (c_X10_isAlong l D cs hL0.2.2 p2 x3h5) v_X10_isAlong (hK.2 _ (List.mem_of_getElem? (i := 44) rfl)) rfl rfl ⟨Nat.le_of_ble_eq_true rfl, Nat.le_of_ble_eq_true rfl⟩ hI hK hl.1 rfl rfl (Nat.le_of_ble_eq_true rfl) dX1_jointByHolders_22 ⟨Nat.le_of_ble_eq_true rfl, Nat.le_of_ble_eq_true rfl⟩) hI (fun H locs hI => ?_)
          refine lv_if_eq (tgt := 30) hx hb dX1_jointByHolders_25 (by decide) (fun c3 => ?_) (fun c3 => ?_)
          · rw [if_pos c3] at hR
            refine lv_aload_n hx hb dX1_jointByHolders_30 rfl (lv_at hl 0 rfl) ?_
            refine lv_iload_n hx hb dX1_jointByHolders_31 rfl (lv_at hl 3 rfl) ?_
            refine q_goR (q_runV (As := [.int x3h5]) (rest := []) hx hb hml hown hg (c_X1_holderOf l D cs hL0 x3h5) v_X1_holderOf wl_X1_48 rfl rfl ⟨Nat.le_of_ble_eq_true rfl, Nat.le_of_ble_eq_true rfl⟩ hI hK 2 hL0.1 rfl hl.1 rfl rfl (Nat.le_of_ble_eq_true rfl) dX1_jointByHolders_32 ⟨Nat.le_of_ble_eq_true rfl, Nat.le_of_ble_eq_true rfl⟩) hI (fun H locs hI => ?_)
            refine lv_istore_n (lv' := [(3, .int (s_X1_holderOf v x3h5)), (0, .ref a), (1, .int p1), (2, .int p2), (4, .int x4h5)]) hx hb dX1_jointByHolders_35 rfl hl (by decide) rfl (fun ls hl => ?_)
            refine lv_iinc (v := x4h5 + 1) (lv' := [(4, .int (x4h5 + 1)), (3, .int (s_X1_holderOf v x3h5)), (0, .ref a), (1, .int p1), (2, .int p2)]) hx hb dX1_jointByHolders_36 hl (k := 4) rfl rfl (by decide) rfl (fun ls hl => ?_)
            refine lv_goto (tgt := 5) hx hb dX1_jointByHolders_39 (by decide) ?_
            exact ih5 (s_X1_holderOf v x3h5) (x4h5 + 1) (q_mu c1 hm5) hR _ _ _  hI (lv_sub hl [2, 3, 4, 1, 0] rfl)
          · rw [if_neg c3] at hR
            refine lv_iload_n hx hb dX1_jointByHolders_28 rfl (lv_at hl 3 rfl) ?_
            exact q_iret hx hb hret hlk hN hI (by subst hR; exact ⟨rfl, rfl, rfl⟩) dX1_jointByHolders_29
  exact loop5 _ p1 0 (q_fuel _) hR _ _ _  hI (lv_sub hl [2, 3, 4, 1, 0] rfl)
def s_X1_hangingAtOnce_L4 (v : qBV) (p1 : Int32) : Nat → Int32 → Int32 → Int32
  | 0, _, _ => default
  | n + 1, x2h4, x3h4 => (if v.2.2 ≤ x3h4 then x2h4 else (if (s_X1_holderOf v x3h4) = p1 then (s_X1_hangingAtOnce_L4 v p1 n (x2h4 + 1) (x3h4 + 1)) else (s_X1_hangingAtOnce_L4 v p1 n (x2h4 + 0) (x3h4 + 1))))
def s_X1_hangingAtOnce (v : qBV) (p1 : Int32) : Int32 := (s_X1_hangingAtOnce_L4 v p1 (v.2.2.toInt.toNat + 1) 0 0)
set_option maxHeartbeats 4000000 in
set_option maxRecDepth 20000 in
theorem c_X1_hangingAtOnce (l : Launch) (D : va_G) (cs : qC) {M0 : qM} {N a : Nat} {v : qBV} (hL0 : qLB cs M0 a v) (p1 : Int32) :
    qMet l D cs yX1_hangingAtOnce (qws yX1_hangingAtOnce cX1_hangingAtOnce 4 (some .int)) ({ frames := 2, cells := 0, slots := 0, locals := 42 } : Room) M0 N [.ref a, .int p1] (qRet M0 N (.int (s_X1_hangingAtOnce v p1))) 0 0 := by
  obtain ⟨R, hR⟩ : ∃ R, s_X1_hangingAtOnce v p1 = R := ⟨_, rfl⟩
  rw [hR]
  rw [s_X1_hangingAtOnce] at hR
  refine q_head (by decide) ?_ (Nat.le_of_ble_eq_true rfl)
  intro p e s m below meth c ls hx hb hret hlk hml hown hnm hg hK hN hI hl
  have hl : lv_has ls 4 [(0, .ref a), (1, .int p1)] := hl
  refine lv_iconst (v := 0) hx hb dX1_hangingAtOnce_0 (by decide) ?_
  refine lv_istore_n (lv' := [(2, .int 0), (0, .ref a), (1, .int p1)]) hx hb dX1_hangingAtOnce_1 rfl hl (by decide) rfl (fun ls hl => ?_)
  refine lv_iconst (v := 0) hx hb dX1_hangingAtOnce_2 (by decide) ?_
  refine lv_istore_n (lv' := [(3, .int 0), (2, .int 0), (0, .ref a), (1, .int p1)]) hx hb dX1_hangingAtOnce_3 rfl hl (by decide) rfl (fun ls hl => ?_)
  have loop4 : ∀ (n4 : Nat) (x2h4 : Int32) (x3h4 : Int32), qmu v.2.2 x3h4 < n4 → s_X1_hangingAtOnce_L4 v p1 n4 x2h4 x3h4 = R → ∀ (H : Heap) (locs : List Loc) (ls : Array Slot), qI D M0 s.heap M0 N H locs → lv_has ls 4 [(0, .ref a), (1, .int p1), (2, .int x2h4), (3, .int x3h4)] →
      W p l e ({ frames := 2, cells := 0, slots := 0, locals := 42 } : Room) s m [Value.ref a, Value.int p1].toArray below meth c H locs 0 0 (MQ below (qQ D M0 N (qRet M0 N (.int R))) [Value.ref a, Value.int p1].toArray s 0 0 (qA M0 N)) (F0 m 4 ls []) := by
    intro n4
    induction n4 with
    | zero => intro x2h4 x3h4 hm; exact absurd hm (Nat.not_lt_zero _)
    | succ n4 ih4 =>
      intro x2h4 x3h4 hm4 hR H locs ls  hI hl
      rw [s_X1_hangingAtOnce_L4] at hR
      refine lv_iload_n hx hb dX1_hangingAtOnce_4 rfl (lv_at hl 3 rfl) ?_
      refine lv_aload_n hx hb dX1_hangingAtOnce_5 rfl (lv_at hl 0 rfl) ?_
      refine q_get hx hb hg in_X1 hown hK hI hL0.1 rfl 2 (by decide) (hg _ wf_X1_18) (fun _ h9 => h9) rfl dX1_hangingAtOnce_6 ?_
      refine lv_icmp_ge (tgt := 35) hx hb dX1_hangingAtOnce_9 (by decide) (fun c1 => ?_) (fun c1 => ?_)
      · rw [if_pos c1] at hR
        refine lv_iload_n hx hb dX1_hangingAtOnce_35 rfl (lv_at hl 2 rfl) ?_
        exact q_iret hx hb hret hlk hN hI (by subst hR; exact ⟨rfl, rfl, rfl⟩) dX1_hangingAtOnce_36
      · rw [if_neg c1] at hR
        refine lv_iload_n hx hb dX1_hangingAtOnce_12 rfl (lv_at hl 2 rfl) ?_
        refine lv_aload_n hx hb dX1_hangingAtOnce_13 rfl (lv_at hl 0 rfl) ?_
        refine lv_iload_n hx hb dX1_hangingAtOnce_14 rfl (lv_at hl 3 rfl) ?_
        refine q_goR (q_runV (As := [.int x3h4]) (rest := [.int x2h4]) hx hb hml hown hg (c_X1_holderOf l D cs hL0 x3h4) v_X1_holderOf wl_X1_48 rfl rfl ⟨Nat.le_of_ble_eq_true rfl, Nat.le_of_ble_eq_true rfl⟩ hI hK 2 hL0.1 rfl hl.1 rfl rfl (Nat.le_of_ble_eq_true rfl) dX1_hangingAtOnce_15 ⟨Nat.le_of_ble_eq_true rfl, Nat.le_of_ble_eq_true rfl⟩) hI (fun H locs hI => ?_)
        refine lv_iload_n hx hb dX1_hangingAtOnce_18 rfl (lv_at hl 1 rfl) ?_
        refine lv_icmp_ne (tgt := 26) hx hb dX1_hangingAtOnce_19 (by decide) (fun c2 => ?_) (fun c2 => ?_)
        · rw [if_neg c2] at hR
          refine lv_iconst (v := 0) hx hb dX1_hangingAtOnce_26 (by decide) ?_
          refine lv_iadd hx hb dX1_hangingAtOnce_27 ?_
          refine lv_istore_n (lv' := [(2, .int (x2h4 + 0)), (0, .ref a), (1, .int p1), (3, .int x3h4)]) hx hb dX1_hangingAtOnce_28 rfl hl (by decide) rfl (fun ls hl => ?_)
          refine lv_iinc (v := x3h4 + 1) (lv' := [(3, .int (x3h4 + 1)), (2, .int (x2h4 + 0)), (0, .ref a), (1, .int p1)]) hx hb dX1_hangingAtOnce_29 hl (k := 3) rfl rfl (by decide) rfl (fun ls hl => ?_)
          refine lv_goto (tgt := 4) hx hb dX1_hangingAtOnce_32 (by decide) ?_
          exact ih4 (x2h4 + 0) (x3h4 + 1) (q_mu c1 hm4) hR _ _ _  hI (lv_sub hl [2, 3, 1, 0] rfl)
        · rw [if_pos c2] at hR
          refine lv_iconst (v := 1) hx hb dX1_hangingAtOnce_22 (by decide) ?_
          refine lv_goto (tgt := 27) hx hb dX1_hangingAtOnce_23 (by decide) ?_
          refine lv_iadd hx hb dX1_hangingAtOnce_27 ?_
          refine lv_istore_n (lv' := [(2, .int (x2h4 + 1)), (0, .ref a), (1, .int p1), (3, .int x3h4)]) hx hb dX1_hangingAtOnce_28 rfl hl (by decide) rfl (fun ls hl => ?_)
          refine lv_iinc (v := x3h4 + 1) (lv' := [(3, .int (x3h4 + 1)), (2, .int (x2h4 + 1)), (0, .ref a), (1, .int p1)]) hx hb dX1_hangingAtOnce_29 hl (k := 3) rfl rfl (by decide) rfl (fun ls hl => ?_)
          refine lv_goto (tgt := 4) hx hb dX1_hangingAtOnce_32 (by decide) ?_
          exact ih4 (x2h4 + 1) (x3h4 + 1) (q_mu c1 hm4) hR _ _ _  hI (lv_sub hl [2, 3, 1, 0] rfl)
  exact loop4 _ 0 0 (q_fuel _) hR _ _ _  hI (lv_sub hl [2, 3, 1, 0] rfl)
def s_X1_hangingInAll_L4 (v : qBV) (p1 : Int32) : Nat → Int32 → Int32 → Int32
  | 0, _, _ => default
  | n + 1, x2h4, x3h4 => (if v.2.2 ≤ x3h4 then x2h4 else (if x3h4 = p1 then (s_X1_hangingInAll_L4 v p1 n (x2h4 + 0) (x3h4 + 1)) else (if (qbi (s_X10_isAlong v.2.1 x3h4 p1)) = 0 then (s_X1_hangingInAll_L4 v p1 n (x2h4 + 0) (x3h4 + 1)) else (s_X1_hangingInAll_L4 v p1 n (x2h4 + 1) (x3h4 + 1)))))
def s_X1_hangingInAll (v : qBV) (p1 : Int32) : Int32 := (s_X1_hangingInAll_L4 v p1 (v.2.2.toInt.toNat + 1) 0 0)
set_option maxHeartbeats 4000000 in
set_option maxRecDepth 20000 in
theorem c_X1_hangingInAll (l : Launch) (D : va_G) (cs : qC) {M0 : qM} {N a : Nat} {v : qBV} (hL0 : qLB cs M0 a v) (p1 : Int32) :
    qMet l D cs yX1_hangingInAll (qws yX1_hangingInAll cX1_hangingInAll 4 (some .int)) ({ frames := 2, cells := 0, slots := 0, locals := 45 } : Room) M0 N [.ref a, .int p1] (qRet M0 N (.int (s_X1_hangingInAll v p1))) 0 0 := by
  obtain ⟨R, hR⟩ : ∃ R, s_X1_hangingInAll v p1 = R := ⟨_, rfl⟩
  rw [hR]
  rw [s_X1_hangingInAll] at hR
  refine q_head (by decide) ?_ (Nat.le_of_ble_eq_true rfl)
  intro p e s m below meth c ls hx hb hret hlk hml hown hnm hg hK hN hI hl
  have hl : lv_has ls 4 [(0, .ref a), (1, .int p1)] := hl
  refine lv_iconst (v := 0) hx hb dX1_hangingInAll_0 (by decide) ?_
  refine lv_istore_n (lv' := [(2, .int 0), (0, .ref a), (1, .int p1)]) hx hb dX1_hangingInAll_1 rfl hl (by decide) rfl (fun ls hl => ?_)
  refine lv_iconst (v := 0) hx hb dX1_hangingInAll_2 (by decide) ?_
  refine lv_istore_n (lv' := [(3, .int 0), (2, .int 0), (0, .ref a), (1, .int p1)]) hx hb dX1_hangingInAll_3 rfl hl (by decide) rfl (fun ls hl => ?_)
  have loop4 : ∀ (n4 : Nat) (x2h4 : Int32) (x3h4 : Int32), qmu v.2.2 x3h4 < n4 → s_X1_hangingInAll_L4 v p1 n4 x2h4 x3h4 = R → ∀ (H : Heap) (locs : List Loc) (ls : Array Slot), qI D M0 s.heap M0 N H locs → lv_has ls 4 [(0, .ref a), (1, .int p1), (2, .int x2h4), (3, .int x3h4)] →
      W p l e ({ frames := 2, cells := 0, slots := 0, locals := 45 } : Room) s m [Value.ref a, Value.int p1].toArray below meth c H locs 0 0 (MQ below (qQ D M0 N (qRet M0 N (.int R))) [Value.ref a, Value.int p1].toArray s 0 0 (qA M0 N)) (F0 m 4 ls []) := by
    intro n4
    induction n4 with
    | zero => intro x2h4 x3h4 hm; exact absurd hm (Nat.not_lt_zero _)
    | succ n4 ih4 =>
      intro x2h4 x3h4 hm4 hR H locs ls  hI hl
      rw [s_X1_hangingInAll_L4] at hR
      refine lv_iload_n hx hb dX1_hangingInAll_4 rfl (lv_at hl 3 rfl) ?_
      refine lv_aload_n hx hb dX1_hangingInAll_5 rfl (lv_at hl 0 rfl) ?_
      refine q_get hx hb hg in_X1 hown hK hI hL0.1 rfl 2 (by decide) (hg _ wf_X1_18) (fun _ h9 => h9) rfl dX1_hangingInAll_6 ?_
      refine lv_icmp_ge (tgt := 43) hx hb dX1_hangingInAll_9 (by decide) (fun c1 => ?_) (fun c1 => ?_)
      · rw [if_pos c1] at hR
        refine lv_iload_n hx hb dX1_hangingInAll_43 rfl (lv_at hl 2 rfl) ?_
        exact q_iret hx hb hret hlk hN hI (by subst hR; exact ⟨rfl, rfl, rfl⟩) dX1_hangingInAll_44
      · rw [if_neg c1] at hR
        refine lv_iload_n hx hb dX1_hangingInAll_12 rfl (lv_at hl 2 rfl) ?_
        refine lv_iload_n hx hb dX1_hangingInAll_13 rfl (lv_at hl 3 rfl) ?_
        refine lv_iload_n hx hb dX1_hangingInAll_14 rfl (lv_at hl 1 rfl) ?_
        refine lv_icmp_eq (tgt := 34) hx hb dX1_hangingInAll_15 (by decide) (fun c2 => ?_) (fun c2 => ?_)
        · rw [if_pos c2] at hR
          refine lv_iconst (v := 0) hx hb dX1_hangingInAll_34 (by decide) ?_
          refine lv_iadd hx hb dX1_hangingInAll_35 ?_
          refine lv_istore_n (lv' := [(2, .int (x2h4 + 0)), (0, .ref a), (1, .int p1), (3, .int x3h4)]) hx hb dX1_hangingInAll_36 rfl hl (by decide) rfl (fun ls hl => ?_)
          refine lv_iinc (v := x3h4 + 1) (lv' := [(3, .int (x3h4 + 1)), (2, .int (x2h4 + 0)), (0, .ref a), (1, .int p1)]) hx hb dX1_hangingInAll_37 hl (k := 3) rfl rfl (by decide) rfl (fun ls hl => ?_)
          refine lv_goto (tgt := 4) hx hb dX1_hangingInAll_40 (by decide) ?_
          exact ih4 (x2h4 + 0) (x3h4 + 1) (q_mu c1 hm4) hR _ _ _  hI (lv_sub hl [2, 3, 1, 0] rfl)
        · rw [if_neg c2] at hR
          refine lv_aload_n hx hb dX1_hangingInAll_18 rfl (lv_at hl 0 rfl) ?_
          refine q_get hx hb hg in_X1 hown hK hI hL0.1 rfl 1 (by decide) (hg _ wf_X1_15) (fun _ h9 => h9) rfl dX1_hangingInAll_19 ?_
          refine lv_iload_n hx hb dX1_hangingInAll_22 rfl (lv_at hl 3 rfl) ?_
          refine lv_iload_n hx hb dX1_hangingInAll_23 rfl (lv_at hl 1 rfl) ?_
          refine q_goR (q_runSN (As := [.ref (a + 2), .int x3h4, .int p1]) (rest := [.int x2h4]) hx hb hml hown hg (c_X10_isAlong l D cs hL0.2.2 x3h4 p1) v_X10_isAlong (hK.2 _ (List.mem_of_getElem? (i := 44) rfl)) rfl rfl ⟨Nat.le_of_ble_eq_true rfl, Nat.le_of_ble_eq_true rfl⟩ hI hK hl.1 rfl rfl (Nat.le_of_ble_eq_true rfl) dX1_hangingInAll_24 ⟨Nat.le_of_ble_eq_true rfl, Nat.le_of_ble_eq_true rfl⟩) hI (fun H locs hI => ?_)
          refine lv_if_eq (tgt := 34) hx hb dX1_hangingInAll_27 (by decide) (fun c3 => ?_) (fun c3 => ?_)
          · rw [if_pos c3] at hR
            refine lv_iconst (v := 0) hx hb dX1_hangingInAll_34 (by decide) ?_
            refine lv_iadd hx hb dX1_hangingInAll_35 ?_
            refine lv_istore_n (lv' := [(2, .int (x2h4 + 0)), (0, .ref a), (1, .int p1), (3, .int x3h4)]) hx hb dX1_hangingInAll_36 rfl hl (by decide) rfl (fun ls hl => ?_)
            refine lv_iinc (v := x3h4 + 1) (lv' := [(3, .int (x3h4 + 1)), (2, .int (x2h4 + 0)), (0, .ref a), (1, .int p1)]) hx hb dX1_hangingInAll_37 hl (k := 3) rfl rfl (by decide) rfl (fun ls hl => ?_)
            refine lv_goto (tgt := 4) hx hb dX1_hangingInAll_40 (by decide) ?_
            exact ih4 (x2h4 + 0) (x3h4 + 1) (q_mu c1 hm4) hR _ _ _  hI (lv_sub hl [2, 3, 1, 0] rfl)
          · rw [if_neg c3] at hR
            refine lv_iconst (v := 1) hx hb dX1_hangingInAll_30 (by decide) ?_
            refine lv_goto (tgt := 35) hx hb dX1_hangingInAll_31 (by decide) ?_
            refine lv_iadd hx hb dX1_hangingInAll_35 ?_
            refine lv_istore_n (lv' := [(2, .int (x2h4 + 1)), (0, .ref a), (1, .int p1), (3, .int x3h4)]) hx hb dX1_hangingInAll_36 rfl hl (by decide) rfl (fun ls hl => ?_)
            refine lv_iinc (v := x3h4 + 1) (lv' := [(3, .int (x3h4 + 1)), (2, .int (x2h4 + 1)), (0, .ref a), (1, .int p1)]) hx hb dX1_hangingInAll_37 hl (k := 3) rfl rfl (by decide) rfl (fun ls hl => ?_)
            refine lv_goto (tgt := 4) hx hb dX1_hangingInAll_40 (by decide) ?_
            exact ih4 (x2h4 + 1) (x3h4 + 1) (q_mu c1 hm4) hR _ _ _  hI (lv_sub hl [2, 3, 1, 0] rfl)
  exact loop4 _ 0 0 (q_fuel _) hR _ _ _  hI (lv_sub hl [2, 3, 1, 0] rfl)
def s_X1_sizeOfHang (v : qBV) (p1 : Int32) : Int32 := (s_X1_hangingInAll v (s_X1_rootByHolders v p1)) + 1
set_option maxHeartbeats 4000000 in
set_option maxRecDepth 20000 in
theorem c_X1_sizeOfHang (l : Launch) (D : va_G) (cs : qC) {M0 : qM} {N a : Nat} {v : qBV} (hL0 : qLB cs M0 a v) (p1 : Int32) :
    qMet l D cs yX1_sizeOfHang (qws yX1_sizeOfHang cX1_sizeOfHang 2 (some .int)) ({ frames := 3, cells := 0, slots := 0, locals := 68 } : Room) M0 N [.ref a, .int p1] (qRet M0 N (.int (s_X1_sizeOfHang v p1))) 0 0 := by
  obtain ⟨R, hR⟩ : ∃ R, s_X1_sizeOfHang v p1 = R := ⟨_, rfl⟩
  rw [hR]
  rw [s_X1_sizeOfHang] at hR
  refine q_head (by decide) ?_ (Nat.le_of_ble_eq_true rfl)
  intro p e s m below meth c ls hx hb hret hlk hml hown hnm hg hK hN hI hl
  have hl : lv_has ls 2 [(0, .ref a), (1, .int p1)] := hl
  refine lv_aload_n hx hb dX1_sizeOfHang_0 rfl (lv_at hl 0 rfl) ?_
  refine lv_aload_n hx hb dX1_sizeOfHang_1 rfl (lv_at hl 0 rfl) ?_
  refine lv_iload_n hx hb dX1_sizeOfHang_2 rfl (lv_at hl 1 rfl) ?_
  refine q_goR (q_runV (As := [.int p1]) (rest := [.ref a]) hx hb hml hown hg (c_X1_rootByHolders l D cs hL0 p1) v_X1_rootByHolders wl_X1_55 rfl rfl ⟨Nat.le_of_ble_eq_true rfl, Nat.le_of_ble_eq_true rfl⟩ hI hK 2 hL0.1 rfl hl.1 rfl rfl (Nat.le_of_ble_eq_true rfl) dX1_sizeOfHang_3 ⟨Nat.le_of_ble_eq_true rfl, Nat.le_of_ble_eq_true rfl⟩) hI (fun H locs hI => ?_)
  refine q_goR (q_runV (As := [.int (s_X1_rootByHolders v p1)]) (rest := []) hx hb hml hown hg (c_X1_hangingInAll l D cs hL0 (s_X1_rootByHolders v p1)) v_X1_hangingInAll wl_X1_58 rfl rfl ⟨Nat.le_of_ble_eq_true rfl, Nat.le_of_ble_eq_true rfl⟩ hI hK 2 hL0.1 rfl hl.1 rfl rfl (Nat.le_of_ble_eq_true rfl) dX1_sizeOfHang_6 ⟨Nat.le_of_ble_eq_true rfl, Nat.le_of_ble_eq_true rfl⟩) hI (fun H locs hI => ?_)
  refine lv_iconst (v := 1) hx hb dX1_sizeOfHang_9 (by decide) ?_
  refine lv_iadd hx hb dX1_sizeOfHang_10 ?_
  exact q_iret hx hb hret hlk hN hI (by subst hR; exact ⟨rfl, rfl, rfl⟩) dX1_sizeOfHang_11
def s_X1_countRoots (v : qBV)  : Int32 := s_X1_hangingAtOnce v (-1)
set_option maxHeartbeats 4000000 in
set_option maxRecDepth 20000 in
theorem c_X1_countRoots (l : Launch) (D : va_G) (cs : qC) {M0 : qM} {N a : Nat} {v : qBV} (hL0 : qLB cs M0 a v) :
    qMet l D cs yX1_countRoots (qws yX1_countRoots cX1_countRoots 1 (some .int)) ({ frames := 3, cells := 0, slots := 0, locals := 65 } : Room) M0 N [.ref a] (qRet M0 N (.int (s_X1_countRoots v))) 0 0 := by
  obtain ⟨R, hR⟩ : ∃ R, s_X1_countRoots v = R := ⟨_, rfl⟩
  rw [hR]
  rw [s_X1_countRoots] at hR
  refine q_head (by decide) ?_ (Nat.le_of_ble_eq_true rfl)
  intro p e s m below meth c ls hx hb hret hlk hml hown hnm hg hK hN hI hl
  have hl : lv_has ls 1 [(0, .ref a)] := hl
  refine lv_aload_n hx hb dX1_countRoots_0 rfl (lv_at hl 0 rfl) ?_
  refine lv_iconst (v := (-1)) hx hb dX1_countRoots_1 (by decide) ?_
  refine q_goR (q_runV (As := [.int (-1)]) (rest := []) hx hb hml hown hg (c_X1_hangingAtOnce l D cs hL0 (-1)) v_X1_hangingAtOnce wl_X1_61 rfl rfl ⟨Nat.le_of_ble_eq_true rfl, Nat.le_of_ble_eq_true rfl⟩ hI hK 2 hL0.1 rfl hl.1 rfl rfl (Nat.le_of_ble_eq_true rfl) dX1_countRoots_2 ⟨Nat.le_of_ble_eq_true rfl, Nat.le_of_ble_eq_true rfl⟩) hI (fun H locs hI => ?_)
  exact q_iret hx hb hret hlk hN hI (by subst hR; exact ⟨rfl, rfl, rfl⟩) dX1_countRoots_5
def s_X1_sumOfDepths_L4 (v : qBV) : Nat → Int32 → Int32 → Int32
  | 0, _, _ => default
  | n + 1, x1h4, x2h4 => (if v.2.2 ≤ x2h4 then x1h4 else (s_X1_sumOfDepths_L4 v n (x1h4 + (s_X1_depthOf v x2h4)) (x2h4 + 1)))
def s_X1_sumOfDepths (v : qBV)  : Int32 := (s_X1_sumOfDepths_L4 v (v.2.2.toInt.toNat + 1) 0 0)
set_option maxHeartbeats 4000000 in
set_option maxRecDepth 20000 in
theorem c_X1_sumOfDepths (l : Launch) (D : va_G) (cs : qC) {M0 : qM} {N a : Nat} {v : qBV} (hL0 : qLB cs M0 a v) :
    qMet l D cs yX1_sumOfDepths (qws yX1_sumOfDepths cX1_sumOfDepths 3 (some .int)) ({ frames := 3, cells := 0, slots := 0, locals := 65 } : Room) M0 N [.ref a] (qRet M0 N (.int (s_X1_sumOfDepths v))) 0 0 := by
  obtain ⟨R, hR⟩ : ∃ R, s_X1_sumOfDepths v = R := ⟨_, rfl⟩
  rw [hR]
  rw [s_X1_sumOfDepths] at hR
  refine q_head (by decide) ?_ (Nat.le_of_ble_eq_true rfl)
  intro p e s m below meth c ls hx hb hret hlk hml hown hnm hg hK hN hI hl
  have hl : lv_has ls 3 [(0, .ref a)] := hl
  refine lv_iconst (v := 0) hx hb dX1_sumOfDepths_0 (by decide) ?_
  refine lv_istore_n (lv' := [(1, .int 0), (0, .ref a)]) hx hb dX1_sumOfDepths_1 rfl hl (by decide) rfl (fun ls hl => ?_)
  refine lv_iconst (v := 0) hx hb dX1_sumOfDepths_2 (by decide) ?_
  refine lv_istore_n (lv' := [(2, .int 0), (1, .int 0), (0, .ref a)]) hx hb dX1_sumOfDepths_3 rfl hl (by decide) rfl (fun ls hl => ?_)
  have loop4 : ∀ (n4 : Nat) (x1h4 : Int32) (x2h4 : Int32), qmu v.2.2 x2h4 < n4 → s_X1_sumOfDepths_L4 v n4 x1h4 x2h4 = R → ∀ (H : Heap) (locs : List Loc) (ls : Array Slot), qI D M0 s.heap M0 N H locs → lv_has ls 3 [(0, .ref a), (1, .int x1h4), (2, .int x2h4)] →
      W p l e ({ frames := 3, cells := 0, slots := 0, locals := 65 } : Room) s m [Value.ref a].toArray below meth c H locs 0 0 (MQ below (qQ D M0 N (qRet M0 N (.int R))) [Value.ref a].toArray s 0 0 (qA M0 N)) (F0 m 4 ls []) := by
    intro n4
    induction n4 with
    | zero => intro x1h4 x2h4 hm; exact absurd hm (Nat.not_lt_zero _)
    | succ n4 ih4 =>
      intro x1h4 x2h4 hm4 hR H locs ls  hI hl
      rw [s_X1_sumOfDepths_L4] at hR
      refine lv_iload_n hx hb dX1_sumOfDepths_4 rfl (lv_at hl 2 rfl) ?_
      refine lv_aload_n hx hb dX1_sumOfDepths_5 rfl (lv_at hl 0 rfl) ?_
      refine q_get hx hb hg in_X1 hown hK hI hL0.1 rfl 2 (by decide) (hg _ wf_X1_18) (fun _ h9 => h9) rfl dX1_sumOfDepths_6 ?_
      refine lv_icmp_ge (tgt := 26) hx hb dX1_sumOfDepths_9 (by decide) (fun c1 => ?_) (fun c1 => ?_)
      · rw [if_pos c1] at hR
        refine lv_iload_n hx hb dX1_sumOfDepths_26 rfl (lv_at hl 1 rfl) ?_
        exact q_iret hx hb hret hlk hN hI (by subst hR; exact ⟨rfl, rfl, rfl⟩) dX1_sumOfDepths_27
      · rw [if_neg c1] at hR
        refine lv_iload_n hx hb dX1_sumOfDepths_12 rfl (lv_at hl 1 rfl) ?_
        refine lv_aload_n hx hb dX1_sumOfDepths_13 rfl (lv_at hl 0 rfl) ?_
        refine lv_iload_n hx hb dX1_sumOfDepths_14 rfl (lv_at hl 2 rfl) ?_
        refine q_goR (q_runV (As := [.int x2h4]) (rest := [.int x1h4]) hx hb hml hown hg (c_X1_depthOf l D cs hL0 x2h4) v_X1_depthOf wl_X1_64 rfl rfl ⟨Nat.le_of_ble_eq_true rfl, Nat.le_of_ble_eq_true rfl⟩ hI hK 2 hL0.1 rfl hl.1 rfl rfl (Nat.le_of_ble_eq_true rfl) dX1_sumOfDepths_15 ⟨Nat.le_of_ble_eq_true rfl, Nat.le_of_ble_eq_true rfl⟩) hI (fun H locs hI => ?_)
        refine lv_iadd hx hb dX1_sumOfDepths_18 ?_
        refine lv_istore_n (lv' := [(1, .int (x1h4 + (s_X1_depthOf v x2h4))), (0, .ref a), (2, .int x2h4)]) hx hb dX1_sumOfDepths_19 rfl hl (by decide) rfl (fun ls hl => ?_)
        refine lv_iinc (v := x2h4 + 1) (lv' := [(2, .int (x2h4 + 1)), (1, .int (x1h4 + (s_X1_depthOf v x2h4))), (0, .ref a)]) hx hb dX1_sumOfDepths_20 hl (k := 2) rfl rfl (by decide) rfl (fun ls hl => ?_)
        refine lv_goto (tgt := 4) hx hb dX1_sumOfDepths_23 (by decide) ?_
        exact ih4 (x1h4 + (s_X1_depthOf v x2h4)) (x2h4 + 1) (q_mu c1 hm4) hR _ _ _  hI (lv_sub hl [2, 1, 0] rfl)
  exact loop4 _ 0 0 (q_fuel _) hR _ _ _  hI (lv_sub hl [2, 1, 0] rfl)
def s_X1_sumOfWeights_L4 (v : qBV) : Nat → Int32 → Int32 → Int32
  | 0, _, _ => default
  | n + 1, x1h4, x2h4 => (if v.2.2 ≤ x2h4 then x1h4 else (s_X1_sumOfWeights_L4 v n (x1h4 + (s_X1_weightOf v x2h4)) (x2h4 + 1)))
def s_X1_sumOfWeights (v : qBV)  : Int32 := (s_X1_sumOfWeights_L4 v (v.2.2.toInt.toNat + 1) 0 0)
set_option maxHeartbeats 4000000 in
set_option maxRecDepth 20000 in
theorem c_X1_sumOfWeights (l : Launch) (D : va_G) (cs : qC) {M0 : qM} {N a : Nat} {v : qBV} (hL0 : qLB cs M0 a v) :
    qMet l D cs yX1_sumOfWeights (qws yX1_sumOfWeights cX1_sumOfWeights 3 (some .int)) ({ frames := 2, cells := 0, slots := 0, locals := 42 } : Room) M0 N [.ref a] (qRet M0 N (.int (s_X1_sumOfWeights v))) 0 0 := by
  obtain ⟨R, hR⟩ : ∃ R, s_X1_sumOfWeights v = R := ⟨_, rfl⟩
  rw [hR]
  rw [s_X1_sumOfWeights] at hR
  refine q_head (by decide) ?_ (Nat.le_of_ble_eq_true rfl)
  intro p e s m below meth c ls hx hb hret hlk hml hown hnm hg hK hN hI hl
  have hl : lv_has ls 3 [(0, .ref a)] := hl
  refine lv_iconst (v := 0) hx hb dX1_sumOfWeights_0 (by decide) ?_
  refine lv_istore_n (lv' := [(1, .int 0), (0, .ref a)]) hx hb dX1_sumOfWeights_1 rfl hl (by decide) rfl (fun ls hl => ?_)
  refine lv_iconst (v := 0) hx hb dX1_sumOfWeights_2 (by decide) ?_
  refine lv_istore_n (lv' := [(2, .int 0), (1, .int 0), (0, .ref a)]) hx hb dX1_sumOfWeights_3 rfl hl (by decide) rfl (fun ls hl => ?_)
  have loop4 : ∀ (n4 : Nat) (x1h4 : Int32) (x2h4 : Int32), qmu v.2.2 x2h4 < n4 → s_X1_sumOfWeights_L4 v n4 x1h4 x2h4 = R → ∀ (H : Heap) (locs : List Loc) (ls : Array Slot), qI D M0 s.heap M0 N H locs → lv_has ls 3 [(0, .ref a), (1, .int x1h4), (2, .int x2h4)] →
      W p l e ({ frames := 2, cells := 0, slots := 0, locals := 42 } : Room) s m [Value.ref a].toArray below meth c H locs 0 0 (MQ below (qQ D M0 N (qRet M0 N (.int R))) [Value.ref a].toArray s 0 0 (qA M0 N)) (F0 m 4 ls []) := by
    intro n4
    induction n4 with
    | zero => intro x1h4 x2h4 hm; exact absurd hm (Nat.not_lt_zero _)
    | succ n4 ih4 =>
      intro x1h4 x2h4 hm4 hR H locs ls  hI hl
      rw [s_X1_sumOfWeights_L4] at hR
      refine lv_iload_n hx hb dX1_sumOfWeights_4 rfl (lv_at hl 2 rfl) ?_
      refine lv_aload_n hx hb dX1_sumOfWeights_5 rfl (lv_at hl 0 rfl) ?_
      refine q_get hx hb hg in_X1 hown hK hI hL0.1 rfl 2 (by decide) (hg _ wf_X1_18) (fun _ h9 => h9) rfl dX1_sumOfWeights_6 ?_
      refine lv_icmp_ge (tgt := 26) hx hb dX1_sumOfWeights_9 (by decide) (fun c1 => ?_) (fun c1 => ?_)
      · rw [if_pos c1] at hR
        refine lv_iload_n hx hb dX1_sumOfWeights_26 rfl (lv_at hl 1 rfl) ?_
        exact q_iret hx hb hret hlk hN hI (by subst hR; exact ⟨rfl, rfl, rfl⟩) dX1_sumOfWeights_27
      · rw [if_neg c1] at hR
        refine lv_iload_n hx hb dX1_sumOfWeights_12 rfl (lv_at hl 1 rfl) ?_
        refine lv_aload_n hx hb dX1_sumOfWeights_13 rfl (lv_at hl 0 rfl) ?_
        refine lv_iload_n hx hb dX1_sumOfWeights_14 rfl (lv_at hl 2 rfl) ?_
        refine q_goR (q_runV (As := [.int x2h4]) (rest := [.int x1h4]) hx hb hml hown hg (c_X1_weightOf l D cs hL0 x2h4) v_X1_weightOf wl_X1_44 rfl rfl ⟨Nat.le_of_ble_eq_true rfl, Nat.le_of_ble_eq_true rfl⟩ hI hK 2 hL0.1 rfl hl.1 rfl rfl (Nat.le_of_ble_eq_true rfl) dX1_sumOfWeights_15 ⟨Nat.le_of_ble_eq_true rfl, Nat.le_of_ble_eq_true rfl⟩) hI (fun H locs hI => ?_)
        refine lv_iadd hx hb dX1_sumOfWeights_18 ?_
        refine lv_istore_n (lv' := [(1, .int (x1h4 + (s_X1_weightOf v x2h4))), (0, .ref a), (2, .int x2h4)]) hx hb dX1_sumOfWeights_19 rfl hl (by decide) rfl (fun ls hl => ?_)
        refine lv_iinc (v := x2h4 + 1) (lv' := [(2, .int (x2h4 + 1)), (1, .int (x1h4 + (s_X1_weightOf v x2h4))), (0, .ref a)]) hx hb dX1_sumOfWeights_20 hl (k := 2) rfl rfl (by decide) rfl (fun ls hl => ?_)
        refine lv_goto (tgt := 4) hx hb dX1_sumOfWeights_23 (by decide) ?_
        exact ih4 (x1h4 + (s_X1_weightOf v x2h4)) (x2h4 + 1) (q_mu c1 hm4) hR _ _ _  hI (lv_sub hl [2, 1, 0] rfl)
  exact loop4 _ 0 0 (q_fuel _) hR _ _ _  hI (lv_sub hl [2, 1, 0] rfl)
def s_X1_isBefore (v : qBV) (p1 : Int32) (p2 : Int32) : Bool := (if (s_X1_weightOf v p1) = (s_X1_weightOf v p2) then (if (s_X1_depthOf v p1) = (s_X1_depthOf v p2) then (if p2 ≤ p1 then false else true) else (if (s_X1_depthOf v p2) ≤ (s_X1_depthOf v p1) then false else true)) else (if (s_X1_weightOf v p1) ≤ (s_X1_weightOf v p2) then false else true))
set_option maxHeartbeats 4000000 in
set_option maxRecDepth 20000 in
theorem c_X1_isBefore (l : Launch) (D : va_G) (cs : qC) {M0 : qM} {N a : Nat} {v : qBV} (hL0 : qLB cs M0 a v) (p1 : Int32) (p2 : Int32) :
    qMet l D cs yX1_isBefore (qws yX1_isBefore cX1_isBefore 5 (some .boolean)) ({ frames := 3, cells := 0, slots := 0, locals := 65 } : Room) M0 N [.ref a, .int p1, .int p2] (qRet M0 N (.int (qbi (s_X1_isBefore v p1 p2)))) 0 0 := by
  obtain ⟨R, hR⟩ : ∃ R, s_X1_isBefore v p1 p2 = R := ⟨_, rfl⟩
  rw [hR]
  rw [s_X1_isBefore] at hR
  refine q_head (by decide) ?_ (Nat.le_of_ble_eq_true rfl)
  intro p e s m below meth c ls hx hb hret hlk hml hown hnm hg hK hN hI hl
  have hl : lv_has ls 5 [(0, .ref a), (1, .int p1), (2, .int p2)] := hl
  refine lv_aload_n hx hb dX1_isBefore_0 rfl (lv_at hl 0 rfl) ?_
  refine lv_iload_n hx hb dX1_isBefore_1 rfl (lv_at hl 1 rfl) ?_
  refine q_goR (q_runV (As := [.int p1]) (rest := []) hx hb hml hown hg (c_X1_weightOf l D cs hL0 p1) v_X1_weightOf wl_X1_44 rfl rfl ⟨Nat.le_of_ble_eq_true rfl, Nat.le_of_ble_eq_true rfl⟩ hI hK 2 hL0.1 rfl hl.1 rfl rfl (Nat.le_of_ble_eq_true rfl) dX1_isBefore_2 ⟨Nat.le_of_ble_eq_true rfl, Nat.le_of_ble_eq_true rfl⟩) hI (fun H locs hI => ?_)
  refine lv_aload_n hx hb dX1_isBefore_5 rfl (lv_at hl 0 rfl) ?_
  refine lv_iload_n hx hb dX1_isBefore_6 rfl (lv_at hl 2 rfl) ?_
  refine q_goR (q_runV (As := [.int p2]) (rest := [.int (s_X1_weightOf v p1)]) hx hb hml hown hg (c_X1_weightOf l D cs hL0 p2) v_X1_weightOf wl_X1_44 rfl rfl ⟨Nat.le_of_ble_eq_true rfl, Nat.le_of_ble_eq_true rfl⟩ hI hK 2 hL0.1 rfl hl.1 rfl rfl (Nat.le_of_ble_eq_true rfl) dX1_isBefore_7 ⟨Nat.le_of_ble_eq_true rfl, Nat.le_of_ble_eq_true rfl⟩) hI (fun H locs hI => ?_)
  refine lv_icmp_eq (tgt := 32) hx hb dX1_isBefore_10 (by decide) (fun c1 => ?_) (fun c1 => ?_)
  · rw [if_pos c1] at hR
    refine lv_aload_n hx hb dX1_isBefore_32 rfl (lv_at hl 0 rfl) ?_
    refine lv_iload_n hx hb dX1_isBefore_33 rfl (lv_at hl 1 rfl) ?_
    refine q_goR (q_runV (As := [.int p1]) (rest := []) hx hb hml hown hg (c_X1_depthOf l D cs hL0 p1) v_X1_depthOf wl_X1_64 rfl rfl ⟨Nat.le_of_ble_eq_true rfl, Nat.le_of_ble_eq_true rfl⟩ hI hK 2 hL0.1 rfl hl.1 rfl rfl (Nat.le_of_ble_eq_true rfl) dX1_isBefore_34 ⟨Nat.le_of_ble_eq_true rfl, Nat.le_of_ble_eq_true rfl⟩) hI (fun H locs hI => ?_)
    refine lv_istore_n (lv' := [(3, .int (s_X1_depthOf v p1)), (0, .ref a), (1, .int p1), (2, .int p2)]) hx hb dX1_isBefore_37 rfl hl (by decide) rfl (fun ls hl => ?_)
    refine lv_aload_n hx hb dX1_isBefore_38 rfl (lv_at hl 1 rfl) ?_
    refine lv_iload_n hx hb dX1_isBefore_39 rfl (lv_at hl 3 rfl) ?_
    refine q_goR (q_runV (As := [.int p2]) (rest := []) hx hb hml hown hg (c_X1_depthOf l D cs hL0 p2) v_X1_depthOf wl_X1_64 rfl rfl ⟨Nat.le_of_ble_eq_true rfl, Nat.le_of_ble_eq_true rfl⟩ hI hK 2 hL0.1 rfl hl.1 rfl rfl (Nat.le_of_ble_eq_true rfl) dX1_isBefore_40 ⟨Nat.le_of_ble_eq_true rfl, Nat.le_of_ble_eq_true rfl⟩) hI (fun H locs hI => ?_)
    refine lv_istore (lv' := [(4, .int (s_X1_depthOf v p2)), (3, .int (s_X1_depthOf v p1)), (0, .ref a), (1, .int p1), (2, .int p2)]) hx hb dX1_isBefore_43 hl (by decide) rfl (fun ls hl => ?_)
    refine lv_iload_n hx hb dX1_isBefore_45 rfl (lv_at hl 1 rfl) ?_
    refine lv_iload hx hb dX1_isBefore_46 (lv_at hl 0 rfl) ?_
    refine lv_icmp_eq (tgt := 65) hx hb dX1_isBefore_48 (by decide) (fun c2 => ?_) (fun c2 => ?_)
    · rw [if_pos c2] at hR
      refine lv_iload_n hx hb dX1_isBefore_65 rfl (lv_at hl 3 rfl) ?_
      refine lv_iload_n hx hb dX1_isBefore_66 rfl (lv_at hl 4 rfl) ?_
      refine lv_icmp_ge (tgt := 74) hx hb dX1_isBefore_67 (by decide) (fun c3 => ?_) (fun c3 => ?_)
      · rw [if_pos c3] at hR
        refine lv_iconst (v := 0) hx hb dX1_isBefore_74 (by decide) ?_
        exact q_zret hx hb hret rfl hlk hN hI (by subst hR; exact ⟨rfl, rfl, rfl⟩) dX1_isBefore_75
      · rw [if_neg c3] at hR
        refine lv_iconst (v := 1) hx hb dX1_isBefore_70 (by decide) ?_
        refine lv_goto (tgt := 75) hx hb dX1_isBefore_71 (by decide) ?_
        exact q_zret hx hb hret rfl hlk hN hI (by subst hR; exact ⟨rfl, rfl, rfl⟩) dX1_isBefore_75
    · rw [if_neg c2] at hR
      refine lv_iload_n hx hb dX1_isBefore_51 rfl (lv_at hl 1 rfl) ?_
      refine lv_iload hx hb dX1_isBefore_52 (lv_at hl 0 rfl) ?_
      refine lv_icmp_ge (tgt := 61) hx hb dX1_isBefore_54 (by decide) (fun c4 => ?_) (fun c4 => ?_)
      · rw [if_pos c4] at hR
        refine lv_iconst (v := 0) hx hb dX1_isBefore_61 (by decide) ?_
        refine lv_goto (tgt := 75) hx hb dX1_isBefore_62 (by decide) ?_
        exact q_zret hx hb hret rfl hlk hN hI (by subst hR; exact ⟨rfl, rfl, rfl⟩) dX1_isBefore_75
      · rw [if_neg c4] at hR
        refine lv_iconst (v := 1) hx hb dX1_isBefore_57 (by decide) ?_
        refine lv_goto (tgt := 75) hx hb dX1_isBefore_58 (by decide) ?_
        exact q_zret hx hb hret rfl hlk hN hI (by subst hR; exact ⟨rfl, rfl, rfl⟩) dX1_isBefore_75
  · rw [if_neg c1] at hR
    refine lv_aload_n hx hb dX1_isBefore_13 rfl (lv_at hl 0 rfl) ?_
    refine lv_iload_n hx hb dX1_isBefore_14 rfl (lv_at hl 1 rfl) ?_
    refine q_goR (q_runV (As := [.int p1]) (rest := []) hx hb hml hown hg (c_X1_weightOf l D cs hL0 p1) v_X1_weightOf wl_X1_44 rfl rfl ⟨Nat.le_of_ble_eq_true rfl, Nat.le_of_ble_eq_true rfl⟩ hI hK 2 hL0.1 rfl hl.1 rfl rfl (Nat.le_of_ble_eq_true rfl) dX1_isBefore_15 ⟨Nat.le_of_ble_eq_true rfl, Nat.le_of_ble_eq_true rfl⟩) hI (fun H locs hI => ?_)
    refine lv_aload_n hx hb dX1_isBefore_18 rfl (lv_at hl 0 rfl) ?_
    refine lv_iload_n hx hb dX1_isBefore_19 rfl (lv_at hl 2 rfl) ?_
    refine q_goR (q_runV (As := [.int p2]) (rest := [.int (s_X1_weightOf v p1)]) hx hb hml hown hg (c_X1_weightOf l D cs hL0 p2) v_X1_weightOf wl_X1_44 rfl rfl ⟨Nat.le_of_ble_eq_true rfl, Nat.le_of_ble_eq_true rfl⟩ hI hK 2 hL0.1 rfl hl.1 rfl rfl (Nat.le_of_ble_eq_true rfl) dX1_isBefore_20 ⟨Nat.le_of_ble_eq_true rfl, Nat.le_of_ble_eq_true rfl⟩) hI (fun H locs hI => ?_)
    refine lv_icmp_le (tgt := 30) hx hb dX1_isBefore_23 (by decide) (fun c5 => ?_) (fun c5 => ?_)
    · rw [if_pos c5] at hR
      refine lv_iconst (v := 0) hx hb dX1_isBefore_30 (by decide) ?_
      exact q_zret hx hb hret rfl hlk hN hI (by subst hR; exact ⟨rfl, rfl, rfl⟩) dX1_isBefore_31
    · rw [if_neg c5] at hR
      refine lv_iconst (v := 1) hx hb dX1_isBefore_26 (by decide) ?_
      refine lv_goto (tgt := 31) hx hb dX1_isBefore_27 (by decide) ?_
      exact q_zret hx hb hret rfl hlk hN hI (by subst hR; exact ⟨rfl, rfl, rfl⟩) dX1_isBefore_31
def s_X1_rankOf_L4 (v : qBV) (p1 : Int32) : Nat → Int32 → Int32 → Int32
  | 0, _, _ => default
  | n + 1, x2h4, x3h4 => (if v.2.2 ≤ x3h4 then x2h4 else (if (qbi (s_X1_isBefore v x3h4 p1)) = 0 then (s_X1_rankOf_L4 v p1 n (x2h4 + 0) (x3h4 + 1)) else (s_X1_rankOf_L4 v p1 n (x2h4 + 1) (x3h4 + 1))))
def s_X1_rankOf (v : qBV) (p1 : Int32) : Int32 := (s_X1_rankOf_L4 v p1 (v.2.2.toInt.toNat + 1) 0 0)
set_option maxHeartbeats 4000000 in
set_option maxRecDepth 20000 in
theorem c_X1_rankOf (l : Launch) (D : va_G) (cs : qC) {M0 : qM} {N a : Nat} {v : qBV} (hL0 : qLB cs M0 a v) (p1 : Int32) :
    qMet l D cs yX1_rankOf (qws yX1_rankOf cX1_rankOf 4 (some .int)) ({ frames := 4, cells := 0, slots := 0, locals := 89 } : Room) M0 N [.ref a, .int p1] (qRet M0 N (.int (s_X1_rankOf v p1))) 0 0 := by
  obtain ⟨R, hR⟩ : ∃ R, s_X1_rankOf v p1 = R := ⟨_, rfl⟩
  rw [hR]
  rw [s_X1_rankOf] at hR
  refine q_head (by decide) ?_ (Nat.le_of_ble_eq_true rfl)
  intro p e s m below meth c ls hx hb hret hlk hml hown hnm hg hK hN hI hl
  have hl : lv_has ls 4 [(0, .ref a), (1, .int p1)] := hl
  refine lv_iconst (v := 0) hx hb dX1_rankOf_0 (by decide) ?_
  refine lv_istore_n (lv' := [(2, .int 0), (0, .ref a), (1, .int p1)]) hx hb dX1_rankOf_1 rfl hl (by decide) rfl (fun ls hl => ?_)
  refine lv_iconst (v := 0) hx hb dX1_rankOf_2 (by decide) ?_
  refine lv_istore_n (lv' := [(3, .int 0), (2, .int 0), (0, .ref a), (1, .int p1)]) hx hb dX1_rankOf_3 rfl hl (by decide) rfl (fun ls hl => ?_)
  have loop4 : ∀ (n4 : Nat) (x2h4 : Int32) (x3h4 : Int32), qmu v.2.2 x3h4 < n4 → s_X1_rankOf_L4 v p1 n4 x2h4 x3h4 = R → ∀ (H : Heap) (locs : List Loc) (ls : Array Slot), qI D M0 s.heap M0 N H locs → lv_has ls 4 [(0, .ref a), (1, .int p1), (2, .int x2h4), (3, .int x3h4)] →
      W p l e ({ frames := 4, cells := 0, slots := 0, locals := 89 } : Room) s m [Value.ref a, Value.int p1].toArray below meth c H locs 0 0 (MQ below (qQ D M0 N (qRet M0 N (.int R))) [Value.ref a, Value.int p1].toArray s 0 0 (qA M0 N)) (F0 m 4 ls []) := by
    intro n4
    induction n4 with
    | zero => intro x2h4 x3h4 hm; exact absurd hm (Nat.not_lt_zero _)
    | succ n4 ih4 =>
      intro x2h4 x3h4 hm4 hR H locs ls  hI hl
      rw [s_X1_rankOf_L4] at hR
      refine lv_iload_n hx hb dX1_rankOf_4 rfl (lv_at hl 3 rfl) ?_
      refine lv_aload_n hx hb dX1_rankOf_5 rfl (lv_at hl 0 rfl) ?_
      refine q_get hx hb hg in_X1 hown hK hI hL0.1 rfl 2 (by decide) (hg _ wf_X1_18) (fun _ h9 => h9) rfl dX1_rankOf_6 ?_
      refine lv_icmp_ge (tgt := 35) hx hb dX1_rankOf_9 (by decide) (fun c1 => ?_) (fun c1 => ?_)
      · rw [if_pos c1] at hR
        refine lv_iload_n hx hb dX1_rankOf_35 rfl (lv_at hl 2 rfl) ?_
        exact q_iret hx hb hret hlk hN hI (by subst hR; exact ⟨rfl, rfl, rfl⟩) dX1_rankOf_36
      · rw [if_neg c1] at hR
        refine lv_iload_n hx hb dX1_rankOf_12 rfl (lv_at hl 2 rfl) ?_
        refine lv_aload_n hx hb dX1_rankOf_13 rfl (lv_at hl 0 rfl) ?_
        refine lv_iload_n hx hb dX1_rankOf_14 rfl (lv_at hl 3 rfl) ?_
        refine lv_iload_n hx hb dX1_rankOf_15 rfl (lv_at hl 1 rfl) ?_
        refine q_goR (q_runV (As := [.int x3h4, .int p1]) (rest := [.int x2h4]) hx hb hml hown hg (c_X1_isBefore l D cs hL0 x3h4 p1) v_X1_isBefore wl_X1_70 rfl rfl ⟨Nat.le_of_ble_eq_true rfl, Nat.le_of_ble_eq_true rfl⟩ hI hK 2 hL0.1 rfl hl.1 rfl rfl (Nat.le_of_ble_eq_true rfl) dX1_rankOf_16 ⟨Nat.le_of_ble_eq_true rfl, Nat.le_of_ble_eq_true rfl⟩) hI (fun H locs hI => ?_)
        refine lv_if_eq (tgt := 26) hx hb dX1_rankOf_19 (by decide) (fun c2 => ?_) (fun c2 => ?_)
        · rw [if_pos c2] at hR
          refine lv_iconst (v := 0) hx hb dX1_rankOf_26 (by decide) ?_
          refine lv_iadd hx hb dX1_rankOf_27 ?_
          refine lv_istore_n (lv' := [(2, .int (x2h4 + 0)), (0, .ref a), (1, .int p1), (3, .int x3h4)]) hx hb dX1_rankOf_28 rfl hl (by decide) rfl (fun ls hl => ?_)
          refine lv_iinc (v := x3h4 + 1) (lv' := [(3, .int (x3h4 + 1)), (2, .int (x2h4 + 0)), (0, .ref a), (1, .int p1)]) hx hb dX1_rankOf_29 hl (k := 3) rfl rfl (by decide) rfl (fun ls hl => ?_)
          refine lv_goto (tgt := 4) hx hb dX1_rankOf_32 (by decide) ?_
          exact ih4 (x2h4 + 0) (x3h4 + 1) (q_mu c1 hm4) hR _ _ _  hI (lv_sub hl [2, 3, 1, 0] rfl)
        · rw [if_neg c2] at hR
          refine lv_iconst (v := 1) hx hb dX1_rankOf_22 (by decide) ?_
          refine lv_goto (tgt := 27) hx hb dX1_rankOf_23 (by decide) ?_
          refine lv_iadd hx hb dX1_rankOf_27 ?_
          refine lv_istore_n (lv' := [(2, .int (x2h4 + 1)), (0, .ref a), (1, .int p1), (3, .int x3h4)]) hx hb dX1_rankOf_28 rfl hl (by decide) rfl (fun ls hl => ?_)
          refine lv_iinc (v := x3h4 + 1) (lv' := [(3, .int (x3h4 + 1)), (2, .int (x2h4 + 1)), (0, .ref a), (1, .int p1)]) hx hb dX1_rankOf_29 hl (k := 3) rfl rfl (by decide) rfl (fun ls hl => ?_)
          refine lv_goto (tgt := 4) hx hb dX1_rankOf_32 (by decide) ?_
          exact ih4 (x2h4 + 1) (x3h4 + 1) (q_mu c1 hm4) hR _ _ _  hI (lv_sub hl [2, 3, 1, 0] rfl)
  exact loop4 _ 0 0 (q_fuel _) hR _ _ _  hI (lv_sub hl [2, 3, 1, 0] rfl)
def s_X1_blockOfRank_L2 (v : qBV) (p1 : Int32) : Nat → Int32 → Int32
  | 0, _ => default
  | n + 1, x2h2 => (if v.2.2 ≤ x2h2 then (-1) else (if (s_X1_rankOf v x2h2) = p1 then x2h2 else (s_X1_blockOfRank_L2 v p1 n (x2h2 + 1))))
def s_X1_blockOfRank (v : qBV) (p1 : Int32) : Int32 := (s_X1_blockOfRank_L2 v p1 (v.2.2.toInt.toNat + 1) 0)
set_option maxHeartbeats 4000000 in
set_option maxRecDepth 20000 in
theorem c_X1_blockOfRank (l : Launch) (D : va_G) (cs : qC) {M0 : qM} {N a : Nat} {v : qBV} (hL0 : qLB cs M0 a v) (p1 : Int32) :
    qMet l D cs yX1_blockOfRank (qws yX1_blockOfRank cX1_blockOfRank 3 (some .int)) ({ frames := 5, cells := 0, slots := 0, locals := 112 } : Room) M0 N [.ref a, .int p1] (qRet M0 N (.int (s_X1_blockOfRank v p1))) 0 0 := by
  obtain ⟨R, hR⟩ : ∃ R, s_X1_blockOfRank v p1 = R := ⟨_, rfl⟩
  rw [hR]
  rw [s_X1_blockOfRank] at hR
  refine q_head (by decide) ?_ (Nat.le_of_ble_eq_true rfl)
  intro p e s m below meth c ls hx hb hret hlk hml hown hnm hg hK hN hI hl
  have hl : lv_has ls 3 [(0, .ref a), (1, .int p1)] := hl
  refine lv_iconst (v := 0) hx hb dX1_blockOfRank_0 (by decide) ?_
  refine lv_istore_n (lv' := [(2, .int 0), (0, .ref a), (1, .int p1)]) hx hb dX1_blockOfRank_1 rfl hl (by decide) rfl (fun ls hl => ?_)
  have loop2 : ∀ (n2 : Nat) (x2h2 : Int32), qmu v.2.2 x2h2 < n2 → s_X1_blockOfRank_L2 v p1 n2 x2h2 = R → ∀ (H : Heap) (locs : List Loc) (ls : Array Slot), qI D M0 s.heap M0 N H locs → lv_has ls 3 [(0, .ref a), (1, .int p1), (2, .int x2h2)] →
      W p l e ({ frames := 5, cells := 0, slots := 0, locals := 112 } : Room) s m [Value.ref a, Value.int p1].toArray below meth c H locs 0 0 (MQ below (qQ D M0 N (qRet M0 N (.int R))) [Value.ref a, Value.int p1].toArray s 0 0 (qA M0 N)) (F0 m 2 ls []) := by
    intro n2
    induction n2 with
    | zero => intro x2h2 hm; exact absurd hm (Nat.not_lt_zero _)
    | succ n2 ih2 =>
      intro x2h2 hm2 hR H locs ls  hI hl
      rw [s_X1_blockOfRank_L2] at hR
      refine lv_iload_n hx hb dX1_blockOfRank_2 rfl (lv_at hl 2 rfl) ?_
      refine lv_aload_n hx hb dX1_blockOfRank_3 rfl (lv_at hl 0 rfl) ?_
      refine q_get hx hb hg in_X1 hown hK hI hL0.1 rfl 2 (by decide) (hg _ wf_X1_18) (fun _ h9 => h9) rfl dX1_blockOfRank_4 ?_
      refine lv_icmp_ge (tgt := 27) hx hb dX1_blockOfRank_7 (by decide) (fun c1 => ?_) (fun c1 => ?_)
      · rw [if_pos c1] at hR
        refine lv_iconst (v := (-1)) hx hb dX1_blockOfRank_27 (by decide) ?_
        exact q_iret hx hb hret hlk hN hI (by subst hR; exact ⟨rfl, rfl, rfl⟩) dX1_blockOfRank_28
      · rw [if_neg c1] at hR
        refine lv_aload_n hx hb dX1_blockOfRank_10 rfl (lv_at hl 0 rfl) ?_
        refine lv_iload_n hx hb dX1_blockOfRank_11 rfl (lv_at hl 2 rfl) ?_
        refine q_goR (q_runV (As := [.int x2h2]) (rest := []) hx hb hml hown hg (c_X1_rankOf l D cs hL0 x2h2) v_X1_rankOf wl_X1_67 rfl rfl ⟨Nat.le_of_ble_eq_true rfl, Nat.le_of_ble_eq_true rfl⟩ hI hK 2 hL0.1 rfl hl.1 rfl rfl (Nat.le_of_ble_eq_true rfl) dX1_blockOfRank_12 ⟨Nat.le_of_ble_eq_true rfl, Nat.le_of_ble_eq_true rfl⟩) hI (fun H locs hI => ?_)
        refine lv_iload_n hx hb dX1_blockOfRank_15 rfl (lv_at hl 1 rfl) ?_
        refine lv_icmp_ne (tgt := 21) hx hb dX1_blockOfRank_16 (by decide) (fun c2 => ?_) (fun c2 => ?_)
        · rw [if_neg c2] at hR
          refine lv_iinc (v := x2h2 + 1) (lv' := [(2, .int (x2h2 + 1)), (0, .ref a), (1, .int p1)]) hx hb dX1_blockOfRank_21 hl (k := 2) rfl rfl (by decide) rfl (fun ls hl => ?_)
          refine lv_goto (tgt := 2) hx hb dX1_blockOfRank_24 (by decide) ?_
          exact ih2 (x2h2 + 1) (q_mu c1 hm2) hR _ _ _  hI (lv_sub hl [1, 2, 0] rfl)
        · rw [if_pos c2] at hR
          refine lv_iload_n hx hb dX1_blockOfRank_19 rfl (lv_at hl 2 rfl) ?_
          exact q_iret hx hb hret hlk hN hI (by subst hR; exact ⟨rfl, rfl, rfl⟩) dX1_blockOfRank_20
  exact loop2 _ 0 (q_fuel _) hR _ _ _  hI (lv_sub hl [1, 2, 0] rfl)
end
section
def s_X8_makeEmpty (v : qTV)  : qTV := ((rowFill v.1 (-1)), (rowFill v.2.1 (-1)), (rowFill v.2.2.1 (-1)), 0)
set_option maxHeartbeats 4000000 in
set_option maxRecDepth 20000 in
theorem c_X8_makeEmpty (l : Launch) (D : va_G) (cs : qC) {M0 : qM} {N a : Nat} {v : qTV} (hL0 : qLT cs M0 a v) :
    qMet l D cs yX8_makeEmpty (qws yX8_makeEmpty cX8_makeEmpty 1 none) ({ frames := 1, cells := 0, slots := 0, locals := 22 } : Room) M0 N [.ref a] (qMod N none (fun M' => qLT cs M' a (s_X8_makeEmpty v) ∧ qFr (qIn a 4) M0 M')) 0 0 := by
  obtain ⟨R, hR⟩ : ∃ R, s_X8_makeEmpty v = R := ⟨_, rfl⟩
  rw [hR]
  rw [s_X8_makeEmpty] at hR
  refine q_head (by decide) ?_ (Nat.le_of_ble_eq_true rfl)
  intro p e s m below meth c ls hx hb hret hlk hml hown hnm hg hK hN hI hl
  have hl : lv_has ls 1 [(0, .ref a)] := hl
  have hS : qFr (qIn a 4) M0 M0 := qFr.rf
  refine lv_aload_n hx hb dX8_makeEmpty_0 rfl (lv_at hl 0 rfl) ?_
  refine lv_iconst (v := 0) hx hb dX8_makeEmpty_1 (by decide) ?_
  have hn := qLT.i3 0 hL0
  refine q_put (v := .int 0) hx hb hg in_X8 tyX8_ok nmX8 hown hK hI hL0.1 rfl 3 (by decide) (hg _ wf_X8_21) (fun _ h9 => h9) rfl rfl rfl (Nat.le_of_ble_eq_true rfl) dX8_makeEmpty_2 (fun H locs hI => ?_)
  obtain ⟨M, hn, hF, hI⟩ : ∃ Mx : qM, qLT cs Mx a (v.1, v.2.1, v.2.2.1, 0) ∧ qFr (qIn a 1) M0 Mx ∧ qI D M0 s.heap Mx N H locs := ⟨_, hn, qFr.up (by decide), hI⟩
  have hL0 := hn
  have hS := hS.tr hF (fun q hq => by omega)
  refine lv_aload_n hx hb dX8_makeEmpty_5 rfl (lv_at hl 0 rfl) ?_
  refine q_get hx hb hg in_X8 hown hK hI hL0.1 rfl 0 (by decide) (hg _ wf_X8_9) (fun _ h9 => h9) rfl dX8_makeEmpty_6 ?_
  refine lv_iconst (v := (-1)) hx hb dX8_makeEmpty_9 (by decide) ?_
  refine q_goN (q_runSN (As := [.ref (a + 1), .int (-1)]) (rest := []) hx hb hml hown hg (c_X10_fill l D cs hL0.2.1 (-1)) v_X10_fill (hK.2 _ (List.mem_of_getElem? (i := 10) rfl)) rfl rfl ⟨Nat.le_of_ble_eq_true rfl, Nat.le_of_ble_eq_true rfl⟩ hI hK hl.1 rfl rfl (Nat.le_of_ble_eq_true rfl) dX8_makeEmpty_10 ⟨Nat.le_of_ble_eq_true rfl, Nat.le_of_ble_eq_true rfl⟩) hI (fun M H locs hp hI => ?_)
  obtain ⟨hn0, hF⟩ := hp
  generalize heg1 : rowFill v.1 (-1) = g1 at hn0 hR
  have hn := hn0
  have hn : qLT cs M a (g1, v.2.1, v.2.2.1, 0) := qLT.s0 (v := (v.1, v.2.1, v.2.2.1, 0)) hL0 hn (qFr.rf.tr hF (fun q hq => by omega))
  have hL0 := hn
  have hS := hS.tr hF (fun q hq => by omega)
  refine lv_aload_n hx hb dX8_makeEmpty_13 rfl (lv_at hl 0 rfl) ?_
  refine q_get hx hb hg in_X8 hown hK hI hL0.1 rfl 1 (by decide) (hg _ wf_X8_15) (fun _ h9 => h9) rfl dX8_makeEmpty_14 ?_
  refine lv_iconst (v := (-1)) hx hb dX8_makeEmpty_17 (by decide) ?_
  refine q_goN (q_runSN (As := [.ref (a + 2), .int (-1)]) (rest := []) hx hb hml hown hg (c_X10_fill l D cs hL0.2.2.1 (-1)) v_X10_fill (hK.2 _ (List.mem_of_getElem? (i := 10) rfl)) rfl rfl ⟨Nat.le_of_ble_eq_true rfl, Nat.le_of_ble_eq_true rfl⟩ hI hK hl.1 rfl rfl (Nat.le_of_ble_eq_true rfl) dX8_makeEmpty_18 ⟨Nat.le_of_ble_eq_true rfl, Nat.le_of_ble_eq_true rfl⟩) hI (fun M H locs hp hI => ?_)
  obtain ⟨hn0, hF⟩ := hp
  generalize heg2 : rowFill v.2.1 (-1) = g2 at hn0 hR
  have hn := hn0
  have hn : qLT cs M a (g1, g2, v.2.2.1, 0) := qLT.s1 (v := (g1, v.2.1, v.2.2.1, 0)) hL0 hn (qFr.rf.tr hF (fun q hq => by omega))
  have hL0 := hn
  have hS := hS.tr hF (fun q hq => by omega)
  refine lv_aload_n hx hb dX8_makeEmpty_21 rfl (lv_at hl 0 rfl) ?_
  refine q_get hx hb hg in_X8 hown hK hI hL0.1 rfl 2 (by decide) (hg _ wf_X8_18) (fun _ h9 => h9) rfl dX8_makeEmpty_22 ?_
  refine lv_iconst (v := (-1)) hx hb dX8_makeEmpty_25 (by decide) ?_
  refine q_goN (q_runSN (As := [.ref (a + 3), .int (-1)]) (rest := []) hx hb hml hown hg (c_X10_fill l D cs hL0.2.2.2 (-1)) v_X10_fill (hK.2 _ (List.mem_of_getElem? (i := 10) rfl)) rfl rfl ⟨Nat.le_of_ble_eq_true rfl, Nat.le_of_ble_eq_true rfl⟩ hI hK hl.1 rfl rfl (Nat.le_of_ble_eq_true rfl) dX8_makeEmpty_26 ⟨Nat.le_of_ble_eq_true rfl, Nat.le_of_ble_eq_true rfl⟩) hI (fun M H locs hp hI => ?_)
  obtain ⟨hn0, hF⟩ := hp
  generalize heg3 : rowFill v.2.2.1 (-1) = g3 at hn0 hR
  have hn := hn0
  have hn : qLT cs M a (g1, g2, g3, 0) := qLT.s2 (v := (g1, g2, v.2.2.1, 0)) hL0 hn (qFr.rf.tr hF (fun q hq => by omega))
  have hL0 := hn
  have hS := hS.tr hF (fun q hq => by omega)
  exact q_vret (st := []) hx hb hret hlk hN hI (by subst hR; exact ⟨rfl, ⟨hL0, hS⟩, rfl⟩) dX8_makeEmpty_29
def s_X8_leftOf (v : qTV) (p1 : Int32) : Int32 := rowAt v.1 p1
set_option maxHeartbeats 4000000 in
set_option maxRecDepth 20000 in
theorem c_X8_leftOf (l : Launch) (D : va_G) (cs : qC) {M0 : qM} {N a : Nat} {v : qTV} (hL0 : qLT cs M0 a v) (p1 : Int32) :
    qMet l D cs yX8_leftOf (qws yX8_leftOf cX8_leftOf 2 (some .int)) ({ frames := 1, cells := 0, slots := 0, locals := 21 } : Room) M0 N [.ref a, .int p1] (qRet M0 N (.int (s_X8_leftOf v p1))) 0 0 := by
  obtain ⟨R, hR⟩ : ∃ R, s_X8_leftOf v p1 = R := ⟨_, rfl⟩
  rw [hR]
  rw [s_X8_leftOf] at hR
  refine q_head (by decide) ?_ (Nat.le_of_ble_eq_true rfl)
  intro p e s m below meth c ls hx hb hret hlk hml hown hnm hg hK hN hI hl
  have hl : lv_has ls 2 [(0, .ref a), (1, .int p1)] := hl
  refine lv_aload_n hx hb dX8_leftOf_0 rfl (lv_at hl 0 rfl) ?_
  refine q_get hx hb hg in_X8 hown hK hI hL0.1 rfl 0 (by decide) (hg _ wf_X8_9) (fun _ h9 => h9) rfl dX8_leftOf_1 ?_
  refine lv_iload_n hx hb dX8_leftOf_4 rfl (lv_at hl 1 rfl) ?_
  refine q_goR (q_runSN (As := [.ref (a + 1), .int p1]) (rest := []) hx hb hml hown hg (c_X10_at l D cs hL0.2.1 p1) v_X10_at (hK.2 _ (List.mem_of_getElem? (i := 35) rfl)) rfl rfl ⟨Nat.le_of_ble_eq_true rfl, Nat.le_of_ble_eq_true rfl⟩ hI hK hl.1 rfl rfl (Nat.le_of_ble_eq_true rfl) dX8_leftOf_5 ⟨Nat.le_of_ble_eq_true rfl, Nat.le_of_ble_eq_true rfl⟩) hI (fun H locs hI => ?_)
  exact q_iret hx hb hret hlk hN hI (by subst hR; exact ⟨rfl, rfl, rfl⟩) dX8_leftOf_8
def s_X8_rightOf (v : qTV) (p1 : Int32) : Int32 := rowAt v.2.1 p1
set_option maxHeartbeats 4000000 in
set_option maxRecDepth 20000 in
theorem c_X8_rightOf (l : Launch) (D : va_G) (cs : qC) {M0 : qM} {N a : Nat} {v : qTV} (hL0 : qLT cs M0 a v) (p1 : Int32) :
    qMet l D cs yX8_rightOf (qws yX8_rightOf cX8_rightOf 2 (some .int)) ({ frames := 1, cells := 0, slots := 0, locals := 21 } : Room) M0 N [.ref a, .int p1] (qRet M0 N (.int (s_X8_rightOf v p1))) 0 0 := by
  obtain ⟨R, hR⟩ : ∃ R, s_X8_rightOf v p1 = R := ⟨_, rfl⟩
  rw [hR]
  rw [s_X8_rightOf] at hR
  refine q_head (by decide) ?_ (Nat.le_of_ble_eq_true rfl)
  intro p e s m below meth c ls hx hb hret hlk hml hown hnm hg hK hN hI hl
  have hl : lv_has ls 2 [(0, .ref a), (1, .int p1)] := hl
  refine lv_aload_n hx hb dX8_rightOf_0 rfl (lv_at hl 0 rfl) ?_
  refine q_get hx hb hg in_X8 hown hK hI hL0.1 rfl 1 (by decide) (hg _ wf_X8_15) (fun _ h9 => h9) rfl dX8_rightOf_1 ?_
  refine lv_iload_n hx hb dX8_rightOf_4 rfl (lv_at hl 1 rfl) ?_
  refine q_goR (q_runSN (As := [.ref (a + 2), .int p1]) (rest := []) hx hb hml hown hg (c_X10_at l D cs hL0.2.2.1 p1) v_X10_at (hK.2 _ (List.mem_of_getElem? (i := 35) rfl)) rfl rfl ⟨Nat.le_of_ble_eq_true rfl, Nat.le_of_ble_eq_true rfl⟩ hI hK hl.1 rfl rfl (Nat.le_of_ble_eq_true rfl) dX8_rightOf_5 ⟨Nat.le_of_ble_eq_true rfl, Nat.le_of_ble_eq_true rfl⟩) hI (fun H locs hI => ?_)
  exact q_iret hx hb hret hlk hN hI (by subst hR; exact ⟨rfl, rfl, rfl⟩) dX8_rightOf_8
def s_X8_upperOf (v : qTV) (p1 : Int32) : Int32 := rowAt v.2.2.1 p1
set_option maxHeartbeats 4000000 in
set_option maxRecDepth 20000 in
theorem c_X8_upperOf (l : Launch) (D : va_G) (cs : qC) {M0 : qM} {N a : Nat} {v : qTV} (hL0 : qLT cs M0 a v) (p1 : Int32) :
    qMet l D cs yX8_upperOf (qws yX8_upperOf cX8_upperOf 2 (some .int)) ({ frames := 1, cells := 0, slots := 0, locals := 21 } : Room) M0 N [.ref a, .int p1] (qRet M0 N (.int (s_X8_upperOf v p1))) 0 0 := by
  obtain ⟨R, hR⟩ : ∃ R, s_X8_upperOf v p1 = R := ⟨_, rfl⟩
  rw [hR]
  rw [s_X8_upperOf] at hR
  refine q_head (by decide) ?_ (Nat.le_of_ble_eq_true rfl)
  intro p e s m below meth c ls hx hb hret hlk hml hown hnm hg hK hN hI hl
  have hl : lv_has ls 2 [(0, .ref a), (1, .int p1)] := hl
  refine lv_aload_n hx hb dX8_upperOf_0 rfl (lv_at hl 0 rfl) ?_
  refine q_get hx hb hg in_X8 hown hK hI hL0.1 rfl 2 (by decide) (hg _ wf_X8_18) (fun _ h9 => h9) rfl dX8_upperOf_1 ?_
  refine lv_iload_n hx hb dX8_upperOf_4 rfl (lv_at hl 1 rfl) ?_
  refine q_goR (q_runSN (As := [.ref (a + 3), .int p1]) (rest := []) hx hb hml hown hg (c_X10_at l D cs hL0.2.2.2 p1) v_X10_at (hK.2 _ (List.mem_of_getElem? (i := 35) rfl)) rfl rfl ⟨Nat.le_of_ble_eq_true rfl, Nat.le_of_ble_eq_true rfl⟩ hI hK hl.1 rfl rfl (Nat.le_of_ble_eq_true rfl) dX8_upperOf_5 ⟨Nat.le_of_ble_eq_true rfl, Nat.le_of_ble_eq_true rfl⟩) hI (fun H locs hI => ?_)
  exact q_iret hx hb hret hlk hN hI (by subst hR; exact ⟨rfl, rfl, rfl⟩) dX8_upperOf_8
def s_X8_headOf (v : qTV) (p1 : Int32) : Int32 := s_X10_lastAlong v.2.2.1 p1
set_option maxHeartbeats 4000000 in
set_option maxRecDepth 20000 in
theorem c_X8_headOf (l : Launch) (D : va_G) (cs : qC) {M0 : qM} {N a : Nat} {v : qTV} (hL0 : qLT cs M0 a v) (p1 : Int32) :
    qMet l D cs yX8_headOf (qws yX8_headOf cX8_headOf 2 (some .int)) ({ frames := 2, cells := 0, slots := 0, locals := 44 } : Room) M0 N [.ref a, .int p1] (qRet M0 N (.int (s_X8_headOf v p1))) 0 0 := by
  obtain ⟨R, hR⟩ : ∃ R, s_X8_headOf v p1 = R := ⟨_, rfl⟩
  rw [hR]
  rw [s_X8_headOf] at hR
  refine q_head (by decide) ?_ (Nat.le_of_ble_eq_true rfl)
  intro p e s m below meth c ls hx hb hret hlk hml hown hnm hg hK hN hI hl
  have hl : lv_has ls 2 [(0, .ref a), (1, .int p1)] := hl
  refine lv_aload_n hx hb dX8_headOf_0 rfl (lv_at hl 0 rfl) ?_
  refine q_get hx hb hg in_X8 hown hK hI hL0.1 rfl 2 (by decide) (hg _ wf_X8_18) (fun _ h9 => h9) rfl dX8_headOf_1 ?_
  refine lv_iload_n hx hb dX8_headOf_4 rfl (lv_at hl 1 rfl) ?_
  refine q_goR (q_runSN (As := [.ref (a + 3), .int p1]) (rest := []) hx hb hml hown hg (c_X10_lastAlong l D cs hL0.2.2.2 p1) v_X10_lastAlong (hK.2 _ (List.mem_of_getElem? (i := 37) rfl)) rfl rfl ⟨Nat.le_of_ble_eq_true rfl, Nat.le_of_ble_eq_true rfl⟩ hI hK hl.1 rfl rfl (Nat.le_of_ble_eq_true rfl) dX8_headOf_5 ⟨Nat.le_of_ble_eq_true rfl, Nat.le_of_ble_eq_true rfl⟩) hI (fun H locs hI => ?_)
  exact q_iret hx hb hret hlk hN hI (by subst hR; exact ⟨rfl, rfl, rfl⟩) dX8_headOf_8
def s_X8_topOf (v : qTV) (p1 : Int32) : Int32 := s_X10_lastAlong v.1 (s_X8_headOf v p1)
set_option maxHeartbeats 4000000 in
set_option maxRecDepth 20000 in
theorem c_X8_topOf (l : Launch) (D : va_G) (cs : qC) {M0 : qM} {N a : Nat} {v : qTV} (hL0 : qLT cs M0 a v) (p1 : Int32) :
    qMet l D cs yX8_topOf (qws yX8_topOf cX8_topOf 2 (some .int)) ({ frames := 3, cells := 0, slots := 0, locals := 65 } : Room) M0 N [.ref a, .int p1] (qRet M0 N (.int (s_X8_topOf v p1))) 0 0 := by
  obtain ⟨R, hR⟩ : ∃ R, s_X8_topOf v p1 = R := ⟨_, rfl⟩
  rw [hR]
  rw [s_X8_topOf] at hR
  refine q_head (by decide) ?_ (Nat.le_of_ble_eq_true rfl)
  intro p e s m below meth c ls hx hb hret hlk hml hown hnm hg hK hN hI hl
  have hl : lv_has ls 2 [(0, .ref a), (1, .int p1)] := hl
  refine lv_aload_n hx hb dX8_topOf_0 rfl (lv_at hl 0 rfl) ?_
  refine q_get hx hb hg in_X8 hown hK hI hL0.1 rfl 0 (by decide) (hg _ wf_X8_9) (fun _ h9 => h9) rfl dX8_topOf_1 ?_
  refine lv_aload_n hx hb dX8_topOf_4 rfl (lv_at hl 0 rfl) ?_
  refine lv_iload_n hx hb dX8_topOf_5 rfl (lv_at hl 1 rfl) ?_
  refine q_goR (q_runV (As := [.int p1]) (rest := [.ref (a + 1)]) hx hb hml hown hg (c_X8_headOf l D cs hL0 p1) v_X8_headOf wl_X8_40 rfl rfl ⟨Nat.le_of_ble_eq_true rfl, Nat.le_of_ble_eq_true rfl⟩ hI hK 9 hL0.1 rfl hl.1 rfl rfl (Nat.le_of_ble_eq_true rfl) dX8_topOf_6 ⟨Nat.le_of_ble_eq_true rfl, Nat.le_of_ble_eq_true rfl⟩) hI (fun H locs hI => ?_)
  refine q_goR (q_runSN (As := [.ref (a + 1), .int (s_X8_headOf v p1)]) (rest := []) hx hb hml hown hg (c_X10_lastAlong l D cs hL0.2.1 (s_X8_headOf v p1)) v_X10_lastAlong (hK.2 _ (List.mem_of_getElem? (i := 37) rfl)) rfl rfl ⟨Nat.le_of_ble_eq_true rfl, Nat.le_of_ble_eq_true rfl⟩ hI hK hl.1 rfl rfl (Nat.le_of_ble_eq_true rfl) dX8_topOf_9 ⟨Nat.le_of_ble_eq_true rfl, Nat.le_of_ble_eq_true rfl⟩) hI (fun H locs hI => ?_)
  exact q_iret hx hb hret hlk hN hI (by subst hR; exact ⟨rfl, rfl, rfl⟩) dX8_topOf_12
def s_X8_neighbour_l_L33 (v : qTV) (p3 : Int32) : Nat → Int32 → Int32 → Int32 → Int32 → Int32
  | 0, _, _, _, _ => default
  | n + 1, x4h33, x5h33, x6h33, x7h33 => (if 16 ≤ x7h33 then x6h33 else (if x6h33 < 0 then x6h33 else (if (rowAt v.1 x6h33) = x5h33 then (s_X8_neighbour_l_L33 v p3 n x4h33 x6h33 (s_X8_upperOf v x6h33) (x7h33 + 1)) else x6h33)))
def s_X8_neighbour_l (v : qTV) (p3 : Int32) : Int32 := (if (rowAt v.1 p3) < 0 then (s_X8_neighbour_l_L33 v p3 ((16 : Int32).toInt.toNat + 1) (rowAt v.1 p3) p3 (s_X8_upperOf v p3) 0) else s_X10_lastAlong v.2.1 (rowAt v.1 p3))
set_option maxHeartbeats 4000000 in
set_option maxRecDepth 20000 in
theorem c_X8_neighbour_l (l : Launch) (D : va_G) (cs : qC) {M0 : qM} {N a : Nat} {v : qTV} (hL0 : qLT cs M0 a v) (p3 : Int32) :
    qMet l D cs yX8_neighbour (qws yX8_neighbour cX8_neighbour 8 (some .int)) ({ frames := 2, cells := 0, slots := 0, locals := 44 } : Room) M0 N [.ref a, .ref (a + 1), .ref (a + 2), .int p3] (qRet M0 N (.int (s_X8_neighbour_l v p3))) 0 0 := by
  obtain ⟨R, hR⟩ : ∃ R, s_X8_neighbour_l v p3 = R := ⟨_, rfl⟩
  rw [hR]
  rw [s_X8_neighbour_l] at hR
  refine q_head (by decide) ?_ (Nat.le_of_ble_eq_true rfl)
  intro p e s m below meth c ls hx hb hret hlk hml hown hnm hg hK hN hI hl
  have hl : lv_has ls 8 [(0, .ref a), (1, .ref (a + 1)), (2, .ref (a + 2)), (3, .int p3)] := hl
  refine lv_aload_n hx hb dX8_neighbour_0 rfl (lv_at hl 1 rfl) ?_
  refine lv_iload_n hx hb dX8_neighbour_1 rfl (lv_at hl 3 rfl) ?_
  refine q_goR (q_runSN (As := [.ref (a + 1), .int p3]) (rest := []) hx hb hml hown hg (c_X10_at l D cs hL0.2.1 p3) v_X10_at (hK.2 _ (List.mem_of_getElem? (i := 35) rfl)) rfl rfl ⟨Nat.le_of_ble_eq_true rfl, Nat.le_of_ble_eq_true rfl⟩ hI hK hl.1 rfl rfl (Nat.le_of_ble_eq_true rfl) dX8_neighbour_2 ⟨Nat.le_of_ble_eq_true rfl, Nat.le_of_ble_eq_true rfl⟩) hI (fun H locs hI => ?_)
  refine lv_istore (lv' := [(4, .int (rowAt v.1 p3)), (0, .ref a), (1, .ref (a + 1)), (2, .ref (a + 2)), (3, .int p3)]) hx hb dX8_neighbour_5 hl (by decide) rfl (fun ls hl => ?_)
  refine lv_iload hx hb dX8_neighbour_7 (lv_at hl 0 rfl) ?_
  refine lv_if_lt (tgt := 19) hx hb dX8_neighbour_9 (by decide) (fun c1 => ?_) (fun c1 => ?_)
  · rw [if_pos c1] at hR
    refine lv_iload_n hx hb dX8_neighbour_19 rfl (lv_at hl 4 rfl) ?_
    refine lv_istore (lv' := [(5, .int p3), (4, .int (rowAt v.1 p3)), (0, .ref a), (1, .ref (a + 1)), (2, .ref (a + 2)), (3, .int p3)]) hx hb dX8_neighbour_20 hl (by decide) rfl (fun ls hl => ?_)
    refine lv_aload_n hx hb dX8_neighbour_22 rfl (lv_at hl 2 rfl) ?_
    refine lv_iload hx hb dX8_neighbour_23 (lv_at hl 0 rfl) ?_
    refine q_goR (q_runV (As := [.int p3]) (rest := []) hx hb hml hown hg (c_X8_upperOf l D cs hL0 p3) v_X8_upperOf wl_X8_48 rfl rfl ⟨Nat.le_of_ble_eq_true rfl, Nat.le_of_ble_eq_true rfl⟩ hI hK 9 hL0.1 rfl hl.1 rfl rfl (Nat.le_of_ble_eq_true rfl) dX8_neighbour_25 ⟨Nat.le_of_ble_eq_true rfl, Nat.le_of_ble_eq_true rfl⟩) hI (fun H locs hI => ?_)
    refine lv_istore (lv' := [(6, .int (s_X8_upperOf v p3)), (5, .int p3), (4, .int (rowAt v.1 p3)), (0, .ref a), (1, .ref (a + 1)), (2, .ref (a + 2)), (3, .int p3)]) hx hb dX8_neighbour_28 hl (by decide) rfl (fun ls hl => ?_)
    refine lv_iconst (v := 0) hx hb dX8_neighbour_30 (by decide) ?_
    refine lv_istore (lv' := [(7, .int 0), (6, .int (s_X8_upperOf v p3)), (5, .int p3), (4, .int (rowAt v.1 p3)), (0, .ref a), (1, .ref (a + 1)), (2, .ref (a + 2)), (3, .int p3)]) hx hb dX8_neighbour_31 hl (by decide) rfl (fun ls hl => ?_)
    have loop33 : ∀ (n33 : Nat) (x4h33 : Int32) (x5h33 : Int32) (x6h33 : Int32) (x7h33 : Int32), qmu 16 x7h33 < n33 → s_X8_neighbour_l_L33 v p3 n33 x4h33 x5h33 x6h33 x7h33 = R → ∀ (H : Heap) (locs : List Loc) (ls : Array Slot), qI D M0 s.heap M0 N H locs → lv_has ls 8 [(0, .ref a), (1, .ref (a + 1)), (2, .ref (a + 2)), (3, .int p3), (4, .int x4h33), (5, .int x5h33), (6, .int x6h33), (7, .int x7h33)] →
        W p l e ({ frames := 2, cells := 0, slots := 0, locals := 44 } : Room) s m [Value.ref a, Value.ref (a + 1), Value.ref (a + 2), Value.int p3].toArray below meth c H locs 0 0 (MQ below (qQ D M0 N (qRet M0 N (.int R))) [Value.ref a, Value.ref (a + 1), Value.ref (a + 2), Value.int p3].toArray s 0 0 (qA M0 N)) (F0 m 33 ls []) := by
      intro n33
      induction n33 with
      | zero => intro x4h33 x5h33 x6h33 x7h33 hm; exact absurd hm (Nat.not_lt_zero _)
      | succ n33 ih33 =>
        intro x4h33 x5h33 x6h33 x7h33 hm33 hR H locs ls  hI hl
        rw [s_X8_neighbour_l_L33] at hR
        refine lv_iload hx hb dX8_neighbour_33 (lv_at hl 7 rfl) ?_
        refine lv_bipush (v := 16) hx hb dX8_neighbour_35 (by decide) ?_
        refine lv_icmp_ge (tgt := 74) hx hb dX8_neighbour_37 (by decide) (fun c2 => ?_) (fun c2 => ?_)
        · rw [if_pos c2] at hR
          refine lv_iload hx hb dX8_neighbour_74 (lv_at hl 6 rfl) ?_
          exact q_iret hx hb hret hlk hN hI (by subst hR; exact ⟨rfl, rfl, rfl⟩) dX8_neighbour_76
        · rw [if_neg c2] at hR
          refine lv_iload hx hb dX8_neighbour_40 (lv_at hl 6 rfl) ?_
          refine lv_if_lt (tgt := 74) hx hb dX8_neighbour_42 (by decide) (fun c3 => ?_) (fun c3 => ?_)
          · rw [if_pos c3] at hR
            refine lv_iload hx hb dX8_neighbour_74 (lv_at hl 6 rfl) ?_
            exact q_iret hx hb hret hlk hN hI (by subst hR; exact ⟨rfl, rfl, rfl⟩) dX8_neighbour_76
          · rw [if_neg c3] at hR
            refine lv_aload_n hx hb dX8_neighbour_45 rfl (lv_at hl 1 rfl) ?_
            refine lv_iload hx hb dX8_neighbour_46 (lv_at hl 6 rfl) ?_
            refine q_goR (q_runSN (As := [.ref (a + 1), .int x6h33]) (rest := []) hx hb hml hown hg (c_X10_at l D cs hL0.2.1 x6h33) v_X10_at (hK.2 _ (List.mem_of_getElem? (i := 35) rfl)) rfl rfl ⟨Nat.le_of_ble_eq_true rfl, Nat.le_of_ble_eq_true rfl⟩ hI hK hl.1 rfl rfl (Nat.le_of_ble_eq_true rfl) dX8_neighbour_48 ⟨Nat.le_of_ble_eq_true rfl, Nat.le_of_ble_eq_true rfl⟩) hI (fun H locs hI => ?_)
            refine lv_iload hx hb dX8_neighbour_51 (lv_at hl 5 rfl) ?_
            refine lv_icmp_ne (tgt := 74) hx hb dX8_neighbour_53 (by decide) (fun c4 => ?_) (fun c4 => ?_)
            · rw [if_neg c4] at hR
              refine lv_iload hx hb dX8_neighbour_74 (lv_at hl 6 rfl) ?_
              exact q_iret hx hb hret hlk hN hI (by subst hR; exact ⟨rfl, rfl, rfl⟩) dX8_neighbour_76
            · rw [if_pos c4] at hR
              refine lv_iload hx hb dX8_neighbour_56 (lv_at hl 6 rfl) ?_
              refine lv_istore (lv' := [(5, .int x6h33), (0, .ref a), (1, .ref (a + 1)), (2, .ref (a + 2)), (3, .int p3), (4, .int x4h33), (6, .int x6h33), (7, .int x7h33)]) hx hb dX8_neighbour_58 hl (by decide) rfl (fun ls hl => ?_)
              refine lv_aload_n hx hb dX8_neighbour_60 rfl (lv_at hl 1 rfl) ?_
              refine lv_iload hx hb dX8_neighbour_61 (lv_at hl 0 rfl) ?_
              refine q_goR (q_runV (As := [.int x6h33]) (rest := []) hx hb hml hown hg (c_X8_upperOf l D cs hL0 x6h33) v_X8_upperOf wl_X8_48 rfl rfl ⟨Nat.le_of_ble_eq_true rfl, Nat.le_of_ble_eq_true rfl⟩ hI hK 9 hL0.1 rfl hl.1 rfl rfl (Nat.le_of_ble_eq_true rfl) dX8_neighbour_63 ⟨Nat.le_of_ble_eq_true rfl, Nat.le_of_ble_eq_true rfl⟩) hI (fun H locs hI => ?_)
              refine lv_istore (lv' := [(6, .int (s_X8_upperOf v x6h33)), (5, .int x6h33), (0, .ref a), (1, .ref (a + 1)), (2, .ref (a + 2)), (3, .int p3), (4, .int x4h33), (7, .int x7h33)]) hx hb dX8_neighbour_66 hl (by decide) rfl (fun ls hl => ?_)
              refine lv_iinc (v := x7h33 + 1) (lv' := [(7, .int (x7h33 + 1)), (6, .int (s_X8_upperOf v x6h33)), (5, .int x6h33), (0, .ref a), (1, .ref (a + 1)), (2, .ref (a + 2)), (3, .int p3), (4, .int x4h33)]) hx hb dX8_neighbour_68 hl (k := 7) rfl rfl (by decide) rfl (fun ls hl => ?_)
              refine lv_goto (tgt := 33) hx hb dX8_neighbour_71 (by decide) ?_
              exact ih33 x4h33 x6h33 (s_X8_upperOf v x6h33) (x7h33 + 1) (q_mu c2 hm33) hR _ _ _  hI (lv_sub hl [3, 4, 5, 6, 7, 2, 1, 0] rfl)
    exact loop33 _ (rowAt v.1 p3) p3 (s_X8_upperOf v p3) 0 (q_fuel _) hR _ _ _  hI (lv_sub hl [4, 5, 6, 7, 3, 2, 1, 0] rfl)
  · rw [if_neg c1] at hR
    refine lv_aload_n hx hb dX8_neighbour_12 rfl (lv_at hl 3 rfl) ?_
    refine lv_iload hx hb dX8_neighbour_13 (lv_at hl 0 rfl) ?_
    refine q_goR (q_runSN (As := [.ref (a + 2), .int (rowAt v.1 p3)]) (rest := []) hx hb hml hown hg (c_X10_lastAlong l D cs hL0.2.2.1 (rowAt v.1 p3)) v_X10_lastAlong (hK.2 _ (List.mem_of_getElem? (i := 37) rfl)) rfl rfl ⟨Nat.le_of_ble_eq_true rfl, Nat.le_of_ble_eq_true rfl⟩ hI hK hl.1 rfl rfl (Nat.le_of_ble_eq_true rfl) dX8_neighbour_15 ⟨Nat.le_of_ble_eq_true rfl, Nat.le_of_ble_eq_true rfl⟩) hI (fun H locs hI => ?_)
    exact q_iret hx hb hret hlk hN hI (by subst hR; exact ⟨rfl, rfl, rfl⟩) dX8_neighbour_18
def s_X8_neighbour_r_L33 (v : qTV) (p3 : Int32) : Nat → Int32 → Int32 → Int32 → Int32 → Int32
  | 0, _, _, _, _ => default
  | n + 1, x4h33, x5h33, x6h33, x7h33 => (if 16 ≤ x7h33 then x6h33 else (if x6h33 < 0 then x6h33 else (if (rowAt v.2.1 x6h33) = x5h33 then (s_X8_neighbour_r_L33 v p3 n x4h33 x6h33 (s_X8_upperOf v x6h33) (x7h33 + 1)) else x6h33)))
def s_X8_neighbour_r (v : qTV) (p3 : Int32) : Int32 := (if (rowAt v.2.1 p3) < 0 then (s_X8_neighbour_r_L33 v p3 ((16 : Int32).toInt.toNat + 1) (rowAt v.2.1 p3) p3 (s_X8_upperOf v p3) 0) else s_X10_lastAlong v.1 (rowAt v.2.1 p3))
set_option maxHeartbeats 4000000 in
set_option maxRecDepth 20000 in
theorem c_X8_neighbour_r (l : Launch) (D : va_G) (cs : qC) {M0 : qM} {N a : Nat} {v : qTV} (hL0 : qLT cs M0 a v) (p3 : Int32) :
    qMet l D cs yX8_neighbour (qws yX8_neighbour cX8_neighbour 8 (some .int)) ({ frames := 2, cells := 0, slots := 0, locals := 44 } : Room) M0 N [.ref a, .ref (a + 2), .ref (a + 1), .int p3] (qRet M0 N (.int (s_X8_neighbour_r v p3))) 0 0 := by
  obtain ⟨R, hR⟩ : ∃ R, s_X8_neighbour_r v p3 = R := ⟨_, rfl⟩
  rw [hR]
  rw [s_X8_neighbour_r] at hR
  refine q_head (by decide) ?_ (Nat.le_of_ble_eq_true rfl)
  intro p e s m below meth c ls hx hb hret hlk hml hown hnm hg hK hN hI hl
  have hl : lv_has ls 8 [(0, .ref a), (1, .ref (a + 2)), (2, .ref (a + 1)), (3, .int p3)] := hl
  refine lv_aload_n hx hb dX8_neighbour_0 rfl (lv_at hl 1 rfl) ?_
  refine lv_iload_n hx hb dX8_neighbour_1 rfl (lv_at hl 3 rfl) ?_
  refine q_goR (q_runSN (As := [.ref (a + 2), .int p3]) (rest := []) hx hb hml hown hg (c_X10_at l D cs hL0.2.2.1 p3) v_X10_at (hK.2 _ (List.mem_of_getElem? (i := 35) rfl)) rfl rfl ⟨Nat.le_of_ble_eq_true rfl, Nat.le_of_ble_eq_true rfl⟩ hI hK hl.1 rfl rfl (Nat.le_of_ble_eq_true rfl) dX8_neighbour_2 ⟨Nat.le_of_ble_eq_true rfl, Nat.le_of_ble_eq_true rfl⟩) hI (fun H locs hI => ?_)
  refine lv_istore (lv' := [(4, .int (rowAt v.2.1 p3)), (0, .ref a), (1, .ref (a + 2)), (2, .ref (a + 1)), (3, .int p3)]) hx hb dX8_neighbour_5 hl (by decide) rfl (fun ls hl => ?_)
  refine lv_iload hx hb dX8_neighbour_7 (lv_at hl 0 rfl) ?_
  refine lv_if_lt (tgt := 19) hx hb dX8_neighbour_9 (by decide) (fun c1 => ?_) (fun c1 => ?_)
  · rw [if_pos c1] at hR
    refine lv_iload_n hx hb dX8_neighbour_19 rfl (lv_at hl 4 rfl) ?_
    refine lv_istore (lv' := [(5, .int p3), (4, .int (rowAt v.2.1 p3)), (0, .ref a), (1, .ref (a + 2)), (2, .ref (a + 1)), (3, .int p3)]) hx hb dX8_neighbour_20 hl (by decide) rfl (fun ls hl => ?_)
    refine lv_aload_n hx hb dX8_neighbour_22 rfl (lv_at hl 2 rfl) ?_
    refine lv_iload hx hb dX8_neighbour_23 (lv_at hl 0 rfl) ?_
    refine q_goR (q_runV (As := [.int p3]) (rest := []) hx hb hml hown hg (c_X8_upperOf l D cs hL0 p3) v_X8_upperOf wl_X8_48 rfl rfl ⟨Nat.le_of_ble_eq_true rfl, Nat.le_of_ble_eq_true rfl⟩ hI hK 9 hL0.1 rfl hl.1 rfl rfl (Nat.le_of_ble_eq_true rfl) dX8_neighbour_25 ⟨Nat.le_of_ble_eq_true rfl, Nat.le_of_ble_eq_true rfl⟩) hI (fun H locs hI => ?_)
    refine lv_istore (lv' := [(6, .int (s_X8_upperOf v p3)), (5, .int p3), (4, .int (rowAt v.2.1 p3)), (0, .ref a), (1, .ref (a + 2)), (2, .ref (a + 1)), (3, .int p3)]) hx hb dX8_neighbour_28 hl (by decide) rfl (fun ls hl => ?_)
    refine lv_iconst (v := 0) hx hb dX8_neighbour_30 (by decide) ?_
    refine lv_istore (lv' := [(7, .int 0), (6, .int (s_X8_upperOf v p3)), (5, .int p3), (4, .int (rowAt v.2.1 p3)), (0, .ref a), (1, .ref (a + 2)), (2, .ref (a + 1)), (3, .int p3)]) hx hb dX8_neighbour_31 hl (by decide) rfl (fun ls hl => ?_)
    have loop33 : ∀ (n33 : Nat) (x4h33 : Int32) (x5h33 : Int32) (x6h33 : Int32) (x7h33 : Int32), qmu 16 x7h33 < n33 → s_X8_neighbour_r_L33 v p3 n33 x4h33 x5h33 x6h33 x7h33 = R → ∀ (H : Heap) (locs : List Loc) (ls : Array Slot), qI D M0 s.heap M0 N H locs → lv_has ls 8 [(0, .ref a), (1, .ref (a + 2)), (2, .ref (a + 1)), (3, .int p3), (4, .int x4h33), (5, .int x5h33), (6, .int x6h33), (7, .int x7h33)] →
        W p l e ({ frames := 2, cells := 0, slots := 0, locals := 44 } : Room) s m [Value.ref a, Value.ref (a + 2), Value.ref (a + 1), Value.int p3].toArray below meth c H locs 0 0 (MQ below (qQ D M0 N (qRet M0 N (.int R))) [Value.ref a, Value.ref (a + 2), Value.ref (a + 1), Value.int p3].toArray s 0 0 (qA M0 N)) (F0 m 33 ls []) := by
      intro n33
      induction n33 with
      | zero => intro x4h33 x5h33 x6h33 x7h33 hm; exact absurd hm (Nat.not_lt_zero _)
      | succ n33 ih33 =>
        intro x4h33 x5h33 x6h33 x7h33 hm33 hR H locs ls  hI hl
        rw [s_X8_neighbour_r_L33] at hR
        refine lv_iload hx hb dX8_neighbour_33 (lv_at hl 7 rfl) ?_
        refine lv_bipush (v := 16) hx hb dX8_neighbour_35 (by decide) ?_
        refine lv_icmp_ge (tgt := 74) hx hb dX8_neighbour_37 (by decide) (fun c2 => ?_) (fun c2 => ?_)
        · rw [if_pos c2] at hR
          refine lv_iload hx hb dX8_neighbour_74 (lv_at hl 6 rfl) ?_
          exact q_iret hx hb hret hlk hN hI (by subst hR; exact ⟨rfl, rfl, rfl⟩) dX8_neighbour_76
        · rw [if_neg c2] at hR
          refine lv_iload hx hb dX8_neighbour_40 (lv_at hl 6 rfl) ?_
          refine lv_if_lt (tgt := 74) hx hb dX8_neighbour_42 (by decide) (fun c3 => ?_) (fun c3 => ?_)
          · rw [if_pos c3] at hR
            refine lv_iload hx hb dX8_neighbour_74 (lv_at hl 6 rfl) ?_
            exact q_iret hx hb hret hlk hN hI (by subst hR; exact ⟨rfl, rfl, rfl⟩) dX8_neighbour_76
          · rw [if_neg c3] at hR
            refine lv_aload_n hx hb dX8_neighbour_45 rfl (lv_at hl 1 rfl) ?_
            refine lv_iload hx hb dX8_neighbour_46 (lv_at hl 6 rfl) ?_
            refine q_goR (q_runSN (As := [.ref (a + 2), .int x6h33]) (rest := []) hx hb hml hown hg (c_X10_at l D cs hL0.2.2.1 x6h33) v_X10_at (hK.2 _ (List.mem_of_getElem? (i := 35) rfl)) rfl rfl ⟨Nat.le_of_ble_eq_true rfl, Nat.le_of_ble_eq_true rfl⟩ hI hK hl.1 rfl rfl (Nat.le_of_ble_eq_true rfl) dX8_neighbour_48 ⟨Nat.le_of_ble_eq_true rfl, Nat.le_of_ble_eq_true rfl⟩) hI (fun H locs hI => ?_)
            refine lv_iload hx hb dX8_neighbour_51 (lv_at hl 5 rfl) ?_
            refine lv_icmp_ne (tgt := 74) hx hb dX8_neighbour_53 (by decide) (fun c4 => ?_) (fun c4 => ?_)
            · rw [if_neg c4] at hR
              refine lv_iload hx hb dX8_neighbour_74 (lv_at hl 6 rfl) ?_
              exact q_iret hx hb hret hlk hN hI (by subst hR; exact ⟨rfl, rfl, rfl⟩) dX8_neighbour_76
            · rw [if_pos c4] at hR
              refine lv_iload hx hb dX8_neighbour_56 (lv_at hl 6 rfl) ?_
              refine lv_istore (lv' := [(5, .int x6h33), (0, .ref a), (1, .ref (a + 2)), (2, .ref (a + 1)), (3, .int p3), (4, .int x4h33), (6, .int x6h33), (7, .int x7h33)]) hx hb dX8_neighbour_58 hl (by decide) rfl (fun ls hl => ?_)
              refine lv_aload_n hx hb dX8_neighbour_60 rfl (lv_at hl 1 rfl) ?_
              refine lv_iload hx hb dX8_neighbour_61 (lv_at hl 0 rfl) ?_
              refine q_goR (q_runV (As := [.int x6h33]) (rest := []) hx hb hml hown hg (c_X8_upperOf l D cs hL0 x6h33) v_X8_upperOf wl_X8_48 rfl rfl ⟨Nat.le_of_ble_eq_true rfl, Nat.le_of_ble_eq_true rfl⟩ hI hK 9 hL0.1 rfl hl.1 rfl rfl (Nat.le_of_ble_eq_true rfl) dX8_neighbour_63 ⟨Nat.le_of_ble_eq_true rfl, Nat.le_of_ble_eq_true rfl⟩) hI (fun H locs hI => ?_)
              refine lv_istore (lv' := [(6, .int (s_X8_upperOf v x6h33)), (5, .int x6h33), (0, .ref a), (1, .ref (a + 2)), (2, .ref (a + 1)), (3, .int p3), (4, .int x4h33), (7, .int x7h33)]) hx hb dX8_neighbour_66 hl (by decide) rfl (fun ls hl => ?_)
              refine lv_iinc (v := x7h33 + 1) (lv' := [(7, .int (x7h33 + 1)), (6, .int (s_X8_upperOf v x6h33)), (5, .int x6h33), (0, .ref a), (1, .ref (a + 2)), (2, .ref (a + 1)), (3, .int p3), (4, .int x4h33)]) hx hb dX8_neighbour_68 hl (k := 7) rfl rfl (by decide) rfl (fun ls hl => ?_)
              refine lv_goto (tgt := 33) hx hb dX8_neighbour_71 (by decide) ?_
              exact ih33 x4h33 x6h33 (s_X8_upperOf v x6h33) (x7h33 + 1) (q_mu c2 hm33) hR _ _ _  hI (lv_sub hl [3, 4, 5, 6, 7, 2, 1, 0] rfl)
    exact loop33 _ (rowAt v.2.1 p3) p3 (s_X8_upperOf v p3) 0 (q_fuel _) hR _ _ _  hI (lv_sub hl [4, 5, 6, 7, 3, 2, 1, 0] rfl)
  · rw [if_neg c1] at hR
    refine lv_aload_n hx hb dX8_neighbour_12 rfl (lv_at hl 3 rfl) ?_
    refine lv_iload hx hb dX8_neighbour_13 (lv_at hl 0 rfl) ?_
    refine q_goR (q_runSN (As := [.ref (a + 1), .int (rowAt v.2.1 p3)]) (rest := []) hx hb hml hown hg (c_X10_lastAlong l D cs hL0.2.1 (rowAt v.2.1 p3)) v_X10_lastAlong (hK.2 _ (List.mem_of_getElem? (i := 37) rfl)) rfl rfl ⟨Nat.le_of_ble_eq_true rfl, Nat.le_of_ble_eq_true rfl⟩ hI hK hl.1 rfl rfl (Nat.le_of_ble_eq_true rfl) dX8_neighbour_15 ⟨Nat.le_of_ble_eq_true rfl, Nat.le_of_ble_eq_true rfl⟩) hI (fun H locs hI => ?_)
    exact q_iret hx hb hret hlk hN hI (by subst hR; exact ⟨rfl, rfl, rfl⟩) dX8_neighbour_18
def s_X8_ahead (v : qTV) (p1 : Int32) : Int32 := s_X8_neighbour_l v p1
set_option maxHeartbeats 4000000 in
set_option maxRecDepth 20000 in
theorem c_X8_ahead (l : Launch) (D : va_G) (cs : qC) {M0 : qM} {N a : Nat} {v : qTV} (hL0 : qLT cs M0 a v) (p1 : Int32) :
    qMet l D cs yX8_ahead (qws yX8_ahead cX8_ahead 2 (some .int)) ({ frames := 3, cells := 0, slots := 0, locals := 71 } : Room) M0 N [.ref a, .int p1] (qRet M0 N (.int (s_X8_ahead v p1))) 0 0 := by
  obtain ⟨R, hR⟩ : ∃ R, s_X8_ahead v p1 = R := ⟨_, rfl⟩
  rw [hR]
  rw [s_X8_ahead] at hR
  refine q_head (by decide) ?_ (Nat.le_of_ble_eq_true rfl)
  intro p e s m below meth c ls hx hb hret hlk hml hown hnm hg hK hN hI hl
  have hl : lv_has ls 2 [(0, .ref a), (1, .int p1)] := hl
  refine lv_aload_n hx hb dX8_ahead_0 rfl (lv_at hl 0 rfl) ?_
  refine lv_aload_n hx hb dX8_ahead_1 rfl (lv_at hl 0 rfl) ?_
  refine q_get hx hb hg in_X8 hown hK hI hL0.1 rfl 0 (by decide) (hg _ wf_X8_9) (fun _ h9 => h9) rfl dX8_ahead_2 ?_
  refine lv_aload_n hx hb dX8_ahead_5 rfl (lv_at hl 0 rfl) ?_
  refine q_get hx hb hg in_X8 hown hK hI hL0.1 rfl 1 (by decide) (hg _ wf_X8_15) (fun _ h9 => h9) rfl dX8_ahead_6 ?_
  refine lv_iload_n hx hb dX8_ahead_9 rfl (lv_at hl 1 rfl) ?_
  refine q_goR (q_runV (As := [.ref (a + 1), .ref (a + 2), .int p1]) (rest := []) hx hb hml hown hg (c_X8_neighbour_l l D cs hL0 p1) v_X8_neighbour wl_X8_44 rfl rfl ⟨Nat.le_of_ble_eq_true rfl, Nat.le_of_ble_eq_true rfl⟩ hI hK 9 hL0.1 rfl hl.1 rfl rfl (Nat.le_of_ble_eq_true rfl) dX8_ahead_10 ⟨Nat.le_of_ble_eq_true rfl, Nat.le_of_ble_eq_true rfl⟩) hI (fun H locs hI => ?_)
  exact q_iret hx hb hret hlk hN hI (by subst hR; exact ⟨rfl, rfl, rfl⟩) dX8_ahead_13
def s_X8_behind (v : qTV) (p1 : Int32) : Int32 := s_X8_neighbour_r v p1
set_option maxHeartbeats 4000000 in
set_option maxRecDepth 20000 in
theorem c_X8_behind (l : Launch) (D : va_G) (cs : qC) {M0 : qM} {N a : Nat} {v : qTV} (hL0 : qLT cs M0 a v) (p1 : Int32) :
    qMet l D cs yX8_behind (qws yX8_behind cX8_behind 2 (some .int)) ({ frames := 3, cells := 0, slots := 0, locals := 71 } : Room) M0 N [.ref a, .int p1] (qRet M0 N (.int (s_X8_behind v p1))) 0 0 := by
  obtain ⟨R, hR⟩ : ∃ R, s_X8_behind v p1 = R := ⟨_, rfl⟩
  rw [hR]
  rw [s_X8_behind] at hR
  refine q_head (by decide) ?_ (Nat.le_of_ble_eq_true rfl)
  intro p e s m below meth c ls hx hb hret hlk hml hown hnm hg hK hN hI hl
  have hl : lv_has ls 2 [(0, .ref a), (1, .int p1)] := hl
  refine lv_aload_n hx hb dX8_behind_0 rfl (lv_at hl 0 rfl) ?_
  refine lv_aload_n hx hb dX8_behind_1 rfl (lv_at hl 0 rfl) ?_
  refine q_get hx hb hg in_X8 hown hK hI hL0.1 rfl 1 (by decide) (hg _ wf_X8_15) (fun _ h9 => h9) rfl dX8_behind_2 ?_
  refine lv_aload_n hx hb dX8_behind_5 rfl (lv_at hl 0 rfl) ?_
  refine q_get hx hb hg in_X8 hown hK hI hL0.1 rfl 0 (by decide) (hg _ wf_X8_9) (fun _ h9 => h9) rfl dX8_behind_6 ?_
  refine lv_iload_n hx hb dX8_behind_9 rfl (lv_at hl 1 rfl) ?_
  refine q_goR (q_runV (As := [.ref (a + 2), .ref (a + 1), .int p1]) (rest := []) hx hb hml hown hg (c_X8_neighbour_r l D cs hL0 p1) v_X8_neighbour wl_X8_44 rfl rfl ⟨Nat.le_of_ble_eq_true rfl, Nat.le_of_ble_eq_true rfl⟩ hI hK 9 hL0.1 rfl hl.1 rfl rfl (Nat.le_of_ble_eq_true rfl) dX8_behind_10 ⟨Nat.le_of_ble_eq_true rfl, Nat.le_of_ble_eq_true rfl⟩) hI (fun H locs hI => ?_)
  exact q_iret hx hb hret hlk hN hI (by subst hR; exact ⟨rfl, rfl, rfl⟩) dX8_behind_13
def s_X8_countAbove (v : qTV) (p1 : Int32) : Int32 := s_X10_stepsAlong v.2.2.1 p1
set_option maxHeartbeats 4000000 in
set_option maxRecDepth 20000 in
theorem c_X8_countAbove (l : Launch) (D : va_G) (cs : qC) {M0 : qM} {N a : Nat} {v : qTV} (hL0 : qLT cs M0 a v) (p1 : Int32) :
    qMet l D cs yX8_countAbove (qws yX8_countAbove cX8_countAbove 2 (some .int)) ({ frames := 2, cells := 0, slots := 0, locals := 44 } : Room) M0 N [.ref a, .int p1] (qRet M0 N (.int (s_X8_countAbove v p1))) 0 0 := by
  obtain ⟨R, hR⟩ : ∃ R, s_X8_countAbove v p1 = R := ⟨_, rfl⟩
  rw [hR]
  rw [s_X8_countAbove] at hR
  refine q_head (by decide) ?_ (Nat.le_of_ble_eq_true rfl)
  intro p e s m below meth c ls hx hb hret hlk hml hown hnm hg hK hN hI hl
  have hl : lv_has ls 2 [(0, .ref a), (1, .int p1)] := hl
  refine lv_aload_n hx hb dX8_countAbove_0 rfl (lv_at hl 0 rfl) ?_
  refine q_get hx hb hg in_X8 hown hK hI hL0.1 rfl 2 (by decide) (hg _ wf_X8_18) (fun _ h9 => h9) rfl dX8_countAbove_1 ?_
  refine lv_iload_n hx hb dX8_countAbove_4 rfl (lv_at hl 1 rfl) ?_
  refine q_goR (q_runSN (As := [.ref (a + 3), .int p1]) (rest := []) hx hb hml hown hg (c_X10_stepsAlong l D cs hL0.2.2.2 p1) v_X10_stepsAlong (hK.2 _ (List.mem_of_getElem? (i := 45) rfl)) rfl rfl ⟨Nat.le_of_ble_eq_true rfl, Nat.le_of_ble_eq_true rfl⟩ hI hK hl.1 rfl rfl (Nat.le_of_ble_eq_true rfl) dX8_countAbove_5 ⟨Nat.le_of_ble_eq_true rfl, Nat.le_of_ble_eq_true rfl⟩) hI (fun H locs hI => ?_)
  exact q_iret hx hb hret hlk hN hI (by subst hR; exact ⟨rfl, rfl, rfl⟩) dX8_countAbove_8
def s_X8_isAtOrBelow (v : qTV) (p1 : Int32) (p2 : Int32) : Bool := (s_X10_isAlong v.2.2.1 p1 p2)
set_option maxHeartbeats 4000000 in
set_option maxRecDepth 20000 in
theorem c_X8_isAtOrBelow (l : Launch) (D : va_G) (cs : qC) {M0 : qM} {N a : Nat} {v : qTV} (hL0 : qLT cs M0 a v) (p1 : Int32) (p2 : Int32) :
    qMet l D cs yX8_isAtOrBelow (qws yX8_isAtOrBelow cX8_isAtOrBelow 3 (some .boolean)) ({ frames := 2, cells := 0, slots := 0, locals := 45 } : Room) M0 N [.ref a, .int p1, .int p2] (qRet M0 N (.int (qbi (s_X8_isAtOrBelow v p1 p2)))) 0 0 := by
  obtain ⟨R, hR⟩ : ∃ R, s_X8_isAtOrBelow v p1 p2 = R := ⟨_, rfl⟩
  rw [hR]
  rw [s_X8_isAtOrBelow] at hR
  refine q_head (by decide) ?_ (Nat.le_of_ble_eq_true rfl)
  intro p e s m below meth c ls hx hb hret hlk hml hown hnm hg hK hN hI hl
  have hl : lv_has ls 3 [(0, .ref a), (1, .int p1), (2, .int p2)] := hl
  refine lv_aload_n hx hb dX8_isAtOrBelow_0 rfl (lv_at hl 0 rfl) ?_
  refine q_get hx hb hg in_X8 hown hK hI hL0.1 rfl 2 (by decide) (hg _ wf_X8_18) (fun _ h9 => h9) rfl dX8_isAtOrBelow_1 ?_
  refine lv_iload_n hx hb dX8_isAtOrBelow_4 rfl (lv_at hl 1 rfl) ?_
  refine lv_iload_n hx hb dX8_isAtOrBelow_5 rfl (lv_at hl 2 rfl) ?_
  refine q_goR (q_runSN (As := [.ref (a + 3), .int p1, .int p2]) (rest := []) hx hb hml hown hg (c_X10_isAlong l D cs hL0.2.2.2 p1 p2) v_X10_isAlong (hK.2 _ (List.mem_of_getElem? (i := 46) rfl)) rfl rfl ⟨Nat.le_of_ble_eq_true rfl, Nat.le_of_ble_eq_true rfl⟩ hI hK hl.1 rfl rfl (Nat.le_of_ble_eq_true rfl) dX8_isAtOrBelow_6 ⟨Nat.le_of_ble_eq_true rfl, Nat.le_of_ble_eq_true rfl⟩) hI (fun H locs hI => ?_)
  exact q_zret hx hb hret (q_nbi _) hlk hN hI (by subst hR; exact ⟨rfl, rfl, rfl⟩) dX8_isAtOrBelow_9
def s_X8_countBelow_L4 (v : qTV) (p1 : Int32) : Nat → Int32 → Int32 → Int32
  | 0, _, _ => default
  | n + 1, x2h4, x3h4 => (if 16 ≤ x3h4 then x2h4 else (if (qbi (s_X8_isAtOrBelow v x3h4 p1)) = 0 then (s_X8_countBelow_L4 v p1 n (x2h4 + 0) (x3h4 + 1)) else (s_X8_countBelow_L4 v p1 n (x2h4 + 1) (x3h4 + 1))))
def s_X8_countBelow (v : qTV) (p1 : Int32) : Int32 := (s_X8_countBelow_L4 v p1 ((16 : Int32).toInt.toNat + 1) 0 0)
set_option maxHeartbeats 4000000 in
set_option maxRecDepth 20000 in
theorem c_X8_countBelow (l : Launch) (D : va_G) (cs : qC) {M0 : qM} {N a : Nat} {v : qTV} (hL0 : qLT cs M0 a v) (p1 : Int32) :
    qMet l D cs yX8_countBelow (qws yX8_countBelow cX8_countBelow 4 (some .int)) ({ frames := 3, cells := 0, slots := 0, locals := 67 } : Room) M0 N [.ref a, .int p1] (qRet M0 N (.int (s_X8_countBelow v p1))) 0 0 := by
  obtain ⟨R, hR⟩ : ∃ R, s_X8_countBelow v p1 = R := ⟨_, rfl⟩
  rw [hR]
  rw [s_X8_countBelow] at hR
  refine q_head (by decide) ?_ (Nat.le_of_ble_eq_true rfl)
  intro p e s m below meth c ls hx hb hret hlk hml hown hnm hg hK hN hI hl
  have hl : lv_has ls 4 [(0, .ref a), (1, .int p1)] := hl
  refine lv_iconst (v := 0) hx hb dX8_countBelow_0 (by decide) ?_
  refine lv_istore_n (lv' := [(2, .int 0), (0, .ref a), (1, .int p1)]) hx hb dX8_countBelow_1 rfl hl (by decide) rfl (fun ls hl => ?_)
  refine lv_iconst (v := 0) hx hb dX8_countBelow_2 (by decide) ?_
  refine lv_istore_n (lv' := [(3, .int 0), (2, .int 0), (0, .ref a), (1, .int p1)]) hx hb dX8_countBelow_3 rfl hl (by decide) rfl (fun ls hl => ?_)
  have loop4 : ∀ (n4 : Nat) (x2h4 : Int32) (x3h4 : Int32), qmu 16 x3h4 < n4 → s_X8_countBelow_L4 v p1 n4 x2h4 x3h4 = R → ∀ (H : Heap) (locs : List Loc) (ls : Array Slot), qI D M0 s.heap M0 N H locs → lv_has ls 4 [(0, .ref a), (1, .int p1), (2, .int x2h4), (3, .int x3h4)] →
      W p l e ({ frames := 3, cells := 0, slots := 0, locals := 67 } : Room) s m [Value.ref a, Value.int p1].toArray below meth c H locs 0 0 (MQ below (qQ D M0 N (qRet M0 N (.int R))) [Value.ref a, Value.int p1].toArray s 0 0 (qA M0 N)) (F0 m 4 ls []) := by
    intro n4
    induction n4 with
    | zero => intro x2h4 x3h4 hm; exact absurd hm (Nat.not_lt_zero _)
    | succ n4 ih4 =>
      intro x2h4 x3h4 hm4 hR H locs ls  hI hl
      rw [s_X8_countBelow_L4] at hR
      refine lv_iload_n hx hb dX8_countBelow_4 rfl (lv_at hl 3 rfl) ?_
      refine lv_bipush (v := 16) hx hb dX8_countBelow_5 (by decide) ?_
      refine lv_icmp_ge (tgt := 33) hx hb dX8_countBelow_7 (by decide) (fun c1 => ?_) (fun c1 => ?_)
      · rw [if_pos c1] at hR
        refine lv_iload_n hx hb dX8_countBelow_33 rfl (lv_at hl 2 rfl) ?_
        exact q_iret hx hb hret hlk hN hI (by subst hR; exact ⟨rfl, rfl, rfl⟩) dX8_countBelow_34
      · rw [if_neg c1] at hR
        refine lv_iload_n hx hb dX8_countBelow_10 rfl (lv_at hl 2 rfl) ?_
        refine lv_aload_n hx hb dX8_countBelow_11 rfl (lv_at hl 0 rfl) ?_
        refine lv_iload_n hx hb dX8_countBelow_12 rfl (lv_at hl 3 rfl) ?_
        refine lv_iload_n hx hb dX8_countBelow_13 rfl (lv_at hl 1 rfl) ?_
        refine q_goR (q_runV (As := [.int x3h4, .int p1]) (rest := [.int x2h4]) hx hb hml hown hg (c_X8_isAtOrBelow l D cs hL0 x3h4 p1) v_X8_isAtOrBelow wl_X8_58 rfl rfl ⟨Nat.le_of_ble_eq_true rfl, Nat.le_of_ble_eq_true rfl⟩ hI hK 9 hL0.1 rfl hl.1 rfl rfl (Nat.le_of_ble_eq_true rfl) dX8_countBelow_14 ⟨Nat.le_of_ble_eq_true rfl, Nat.le_of_ble_eq_true rfl⟩) hI (fun H locs hI => ?_)
        refine lv_if_eq (tgt := 24) hx hb dX8_countBelow_17 (by decide) (fun c2 => ?_) (fun c2 => ?_)
        · rw [if_pos c2] at hR
          refine lv_iconst (v := 0) hx hb dX8_countBelow_24 (by decide) ?_
          refine lv_iadd hx hb dX8_countBelow_25 ?_
          refine lv_istore_n (lv' := [(2, .int (x2h4 + 0)), (0, .ref a), (1, .int p1), (3, .int x3h4)]) hx hb dX8_countBelow_26 rfl hl (by decide) rfl (fun ls hl => ?_)
          refine lv_iinc (v := x3h4 + 1) (lv' := [(3, .int (x3h4 + 1)), (2, .int (x2h4 + 0)), (0, .ref a), (1, .int p1)]) hx hb dX8_countBelow_27 hl (k := 3) rfl rfl (by decide) rfl (fun ls hl => ?_)
          refine lv_goto (tgt := 4) hx hb dX8_countBelow_30 (by decide) ?_
          exact ih4 (x2h4 + 0) (x3h4 + 1) (q_mu c1 hm4) hR _ _ _  hI (lv_sub hl [2, 3, 1, 0] rfl)
        · rw [if_neg c2] at hR
          refine lv_iconst (v := 1) hx hb dX8_countBelow_20 (by decide) ?_
          refine lv_goto (tgt := 25) hx hb dX8_countBelow_21 (by decide) ?_
          refine lv_iadd hx hb dX8_countBelow_25 ?_
          refine lv_istore_n (lv' := [(2, .int (x2h4 + 1)), (0, .ref a), (1, .int p1), (3, .int x3h4)]) hx hb dX8_countBelow_26 rfl hl (by decide) rfl (fun ls hl => ?_)
          refine lv_iinc (v := x3h4 + 1) (lv' := [(3, .int (x3h4 + 1)), (2, .int (x2h4 + 1)), (0, .ref a), (1, .int p1)]) hx hb dX8_countBelow_27 hl (k := 3) rfl rfl (by decide) rfl (fun ls hl => ?_)
          refine lv_goto (tgt := 4) hx hb dX8_countBelow_30 (by decide) ?_
          exact ih4 (x2h4 + 1) (x3h4 + 1) (q_mu c1 hm4) hR _ _ _  hI (lv_sub hl [2, 3, 1, 0] rfl)
  exact loop4 _ 0 0 (q_fuel _) hR _ _ _  hI (lv_sub hl [2, 3, 1, 0] rfl)
def s_X8_countAhead_L8 (v : qTV) (p1 : Int32) : Nat → Int32 → Int32 → Int32
  | 0, _, _ => default
  | n + 1, x2h8, x3h8 => (if 16 ≤ x2h8 then x2h8 else (if x3h8 < 0 then x2h8 else (s_X8_countAhead_L8 v p1 n (x2h8 + 1) (s_X8_ahead v x3h8))))
def s_X8_countAhead (v : qTV) (p1 : Int32) : Int32 := (s_X8_countAhead_L8 v p1 ((16 : Int32).toInt.toNat + 1) 0 (s_X8_ahead v p1))
set_option maxHeartbeats 4000000 in
set_option maxRecDepth 20000 in
theorem c_X8_countAhead (l : Launch) (D : va_G) (cs : qC) {M0 : qM} {N a : Nat} {v : qTV} (hL0 : qLT cs M0 a v) (p1 : Int32) :
    qMet l D cs yX8_countAhead (qws yX8_countAhead cX8_countAhead 4 (some .int)) ({ frames := 4, cells := 0, slots := 0, locals := 92 } : Room) M0 N [.ref a, .int p1] (qRet M0 N (.int (s_X8_countAhead v p1))) 0 0 := by
  obtain ⟨R, hR⟩ : ∃ R, s_X8_countAhead v p1 = R := ⟨_, rfl⟩
  rw [hR]
  rw [s_X8_countAhead] at hR
  refine q_head (by decide) ?_ (Nat.le_of_ble_eq_true rfl)
  intro p e s m below meth c ls hx hb hret hlk hml hown hnm hg hK hN hI hl
  have hl : lv_has ls 4 [(0, .ref a), (1, .int p1)] := hl
  refine lv_iconst (v := 0) hx hb dX8_countAhead_0 (by decide) ?_
  refine lv_istore_n (lv' := [(2, .int 0), (0, .ref a), (1, .int p1)]) hx hb dX8_countAhead_1 rfl hl (by decide) rfl (fun ls hl => ?_)
  refine lv_aload_n hx hb dX8_countAhead_2 rfl (lv_at hl 1 rfl) ?_
  refine lv_iload_n hx hb dX8_countAhead_3 rfl (lv_at hl 2 rfl) ?_
  refine q_goR (q_runV (As := [.int p1]) (rest := []) hx hb hml hown hg (c_X8_ahead l D cs hL0 p1) v_X8_ahead wl_X8_62 rfl rfl ⟨Nat.le_of_ble_eq_true rfl, Nat.le_of_ble_eq_true rfl⟩ hI hK 9 hL0.1 rfl hl.1 rfl rfl (Nat.le_of_ble_eq_true rfl) dX8_countAhead_4 ⟨Nat.le_of_ble_eq_true rfl, Nat.le_of_ble_eq_true rfl⟩) hI (fun H locs hI => ?_)
  refine lv_istore_n (lv' := [(3, .int (s_X8_ahead v p1)), (2, .int 0), (0, .ref a), (1, .int p1)]) hx hb dX8_countAhead_7 rfl hl (by decide) rfl (fun ls hl => ?_)
  have loop8 : ∀ (n8 : Nat) (x2h8 : Int32) (x3h8 : Int32), qmu 16 x2h8 < n8 → s_X8_countAhead_L8 v p1 n8 x2h8 x3h8 = R → ∀ (H : Heap) (locs : List Loc) (ls : Array Slot), qI D M0 s.heap M0 N H locs → lv_has ls 4 [(0, .ref a), (1, .int p1), (2, .int x2h8), (3, .int x3h8)] →
      W p l e ({ frames := 4, cells := 0, slots := 0, locals := 92 } : Room) s m [Value.ref a, Value.int p1].toArray below meth c H locs 0 0 (MQ below (qQ D M0 N (qRet M0 N (.int R))) [Value.ref a, Value.int p1].toArray s 0 0 (qA M0 N)) (F0 m 8 ls []) := by
    intro n8
    induction n8 with
    | zero => intro x2h8 x3h8 hm; exact absurd hm (Nat.not_lt_zero _)
    | succ n8 ih8 =>
      intro x2h8 x3h8 hm8 hR H locs ls  hI hl
      rw [s_X8_countAhead_L8] at hR
      refine lv_iload_n hx hb dX8_countAhead_8 rfl (lv_at hl 2 rfl) ?_
      refine lv_bipush (v := 16) hx hb dX8_countAhead_9 (by decide) ?_
      refine lv_icmp_ge (tgt := 30) hx hb dX8_countAhead_11 (by decide) (fun c1 => ?_) (fun c1 => ?_)
      · rw [if_pos c1] at hR
        refine lv_iload_n hx hb dX8_countAhead_30 rfl (lv_at hl 2 rfl) ?_
        exact q_iret hx hb hret hlk hN hI (by subst hR; exact ⟨rfl, rfl, rfl⟩) dX8_countAhead_31
      · rw [if_neg c1] at hR
        refine lv_iload_n hx hb dX8_countAhead_14 rfl (lv_at hl 3 rfl) ?_
        refine lv_if_lt (tgt := 30) hx hb dX8_countAhead_15 (by decide) (fun c2 => ?_) (fun c2 => ?_)
        · rw [if_pos c2] at hR
          refine lv_iload_n hx hb dX8_countAhead_30 rfl (lv_at hl 2 rfl) ?_
          exact q_iret hx hb hret hlk hN hI (by subst hR; exact ⟨rfl, rfl, rfl⟩) dX8_countAhead_31
        · rw [if_neg c2] at hR
          refine lv_iinc (v := x2h8 + 1) (lv' := [(2, .int (x2h8 + 1)), (0, .ref a), (1, .int p1), (3, .int x3h8)]) hx hb dX8_countAhead_18 hl (k := 2) rfl rfl (by decide) rfl (fun ls hl => ?_)
          refine lv_aload_n hx hb dX8_countAhead_21 rfl (lv_at hl 1 rfl) ?_
          refine lv_iload_n hx hb dX8_countAhead_22 rfl (lv_at hl 3 rfl) ?_
          refine q_goR (q_runV (As := [.int x3h8]) (rest := []) hx hb hml hown hg (c_X8_ahead l D cs hL0 x3h8) v_X8_ahead wl_X8_62 rfl rfl ⟨Nat.le_of_ble_eq_true rfl, Nat.le_of_ble_eq_true rfl⟩ hI hK 9 hL0.1 rfl hl.1 rfl rfl (Nat.le_of_ble_eq_true rfl) dX8_countAhead_23 ⟨Nat.le_of_ble_eq_true rfl, Nat.le_of_ble_eq_true rfl⟩) hI (fun H locs hI => ?_)
          refine lv_istore_n (lv' := [(3, .int (s_X8_ahead v x3h8)), (2, .int (x2h8 + 1)), (0, .ref a), (1, .int p1)]) hx hb dX8_countAhead_26 rfl hl (by decide) rfl (fun ls hl => ?_)
          refine lv_goto (tgt := 8) hx hb dX8_countAhead_27 (by decide) ?_
          exact ih8 (x2h8 + 1) (s_X8_ahead v x3h8) (q_mu c1 hm8) hR _ _ _  hI (lv_sub hl [2, 3, 1, 0] rfl)
  exact loop8 _ 0 (s_X8_ahead v p1) (q_fuel _) hR _ _ _  hI (lv_sub hl [2, 3, 1, 0] rfl)
def s_X8_blockAt_L21 (v : qTV) (p1 : Int32) (p2 : Int32) : Nat → Int32 → Int32 → Int32
  | 0, _, _ => default
  | n + 1, x3h21, x4h21 => (if p2 ≤ x4h21 then x3h21 else (if x3h21 < 0 then x3h21 else (s_X8_blockAt_L21 v p1 p2 n (s_X8_behind v x3h21) (x4h21 + 1))))
def s_X8_blockAt (v : qTV) (p1 : Int32) (p2 : Int32) : Int32 := (if p2 < 0 then (-1) else (if p2 < 16 then (s_X8_blockAt_L21 v p1 p2 (p2.toInt.toNat + 1) (s_X8_topOf v p1) 0) else (-1)))
set_option maxHeartbeats 4000000 in
set_option maxRecDepth 20000 in
theorem c_X8_blockAt (l : Launch) (D : va_G) (cs : qC) {M0 : qM} {N a : Nat} {v : qTV} (hL0 : qLT cs M0 a v) (p1 : Int32) (p2 : Int32) :
    qMet l D cs yX8_blockAt (qws yX8_blockAt cX8_blockAt 5 (some .int)) ({ frames := 4, cells := 0, slots := 0, locals := 92 } : Room) M0 N [.ref a, .int p1, .int p2] (qRet M0 N (.int (s_X8_blockAt v p1 p2))) 0 0 := by
  obtain ⟨R, hR⟩ : ∃ R, s_X8_blockAt v p1 p2 = R := ⟨_, rfl⟩
  rw [hR]
  rw [s_X8_blockAt] at hR
  refine q_head (by decide) ?_ (Nat.le_of_ble_eq_true rfl)
  intro p e s m below meth c ls hx hb hret hlk hml hown hnm hg hK hN hI hl
  have hl : lv_has ls 5 [(0, .ref a), (1, .int p1), (2, .int p2)] := hl
  refine lv_iload_n hx hb dX8_blockAt_0 rfl (lv_at hl 2 rfl) ?_
  refine lv_if_lt (tgt := 10) hx hb dX8_blockAt_1 (by decide) (fun c1 => ?_) (fun c1 => ?_)
  · rw [if_pos c1] at hR
    refine lv_iconst (v := (-1)) hx hb dX8_blockAt_10 (by decide) ?_
    exact q_iret hx hb hret hlk hN hI (by subst hR; exact ⟨rfl, rfl, rfl⟩) dX8_blockAt_11
  · rw [if_neg c1] at hR
    refine lv_iload_n hx hb dX8_blockAt_4 rfl (lv_at hl 2 rfl) ?_
    refine lv_bipush (v := 16) hx hb dX8_blockAt_5 (by decide) ?_
    refine lv_icmp_lt (tgt := 12) hx hb dX8_blockAt_7 (by decide) (fun c2 => ?_) (fun c2 => ?_)
    · rw [if_pos c2] at hR
      refine lv_aload_n hx hb dX8_blockAt_12 rfl (lv_at hl 0 rfl) ?_
      refine lv_iload_n hx hb dX8_blockAt_13 rfl (lv_at hl 1 rfl) ?_
      refine q_goR (q_runV (As := [.int p1]) (rest := []) hx hb hml hown hg (c_X8_topOf l D cs hL0 p1) v_X8_topOf wl_X8_65 rfl rfl ⟨Nat.le_of_ble_eq_true rfl, Nat.le_of_ble_eq_true rfl⟩ hI hK 9 hL0.1 rfl hl.1 rfl rfl (Nat.le_of_ble_eq_true rfl) dX8_blockAt_14 ⟨Nat.le_of_ble_eq_true rfl, Nat.le_of_ble_eq_true rfl⟩) hI (fun H locs hI => ?_)
      refine lv_istore_n (lv' := [(3, .int (s_X8_topOf v p1)), (0, .ref a), (1, .int p1), (2, .int p2)]) hx hb dX8_blockAt_17 rfl hl (by decide) rfl (fun ls hl => ?_)
      refine lv_iconst (v := 0) hx hb dX8_blockAt_18 (by decide) ?_
      refine lv_istore (lv' := [(4, .int 0), (3, .int (s_X8_topOf v p1)), (0, .ref a), (1, .int p1), (2, .int p2)]) hx hb dX8_blockAt_19 hl (by decide) rfl (fun ls hl => ?_)
      have loop21 : ∀ (n21 : Nat) (x3h21 : Int32) (x4h21 : Int32), qmu p2 x4h21 < n21 → s_X8_blockAt_L21 v p1 p2 n21 x3h21 x4h21 = R → ∀ (H : Heap) (locs : List Loc) (ls : Array Slot), qI D M0 s.heap M0 N H locs → lv_has ls 5 [(0, .ref a), (1, .int p1), (2, .int p2), (3, .int x3h21), (4, .int x4h21)] →
          W p l e ({ frames := 4, cells := 0, slots := 0, locals := 92 } : Room) s m [Value.ref a, Value.int p1, Value.int p2].toArray below meth c H locs 0 0 (MQ below (qQ D M0 N (qRet M0 N (.int R))) [Value.ref a, Value.int p1, Value.int p2].toArray s 0 0 (qA M0 N)) (F0 m 21 ls []) := by
        intro n21
        induction n21 with
        | zero => intro x3h21 x4h21 hm; exact absurd hm (Nat.not_lt_zero _)
        | succ n21 ih21 =>
          intro x3h21 x4h21 hm21 hR H locs ls  hI hl
          rw [s_X8_blockAt_L21] at hR
          refine lv_iload hx hb dX8_blockAt_21 (lv_at hl 4 rfl) ?_
          refine lv_iload_n hx hb dX8_blockAt_23 rfl (lv_at hl 2 rfl) ?_
          refine lv_icmp_ge (tgt := 43) hx hb dX8_blockAt_24 (by decide) (fun c3 => ?_) (fun c3 => ?_)
          · rw [if_pos c3] at hR
            refine lv_iload_n hx hb dX8_blockAt_43 rfl (lv_at hl 3 rfl) ?_
            exact q_iret hx hb hret hlk hN hI (by subst hR; exact ⟨rfl, rfl, rfl⟩) dX8_blockAt_44
          · rw [if_neg c3] at hR
            refine lv_iload_n hx hb dX8_blockAt_27 rfl (lv_at hl 3 rfl) ?_
            refine lv_if_lt (tgt := 43) hx hb dX8_blockAt_28 (by decide) (fun c4 => ?_) (fun c4 => ?_)
            · rw [if_pos c4] at hR
              refine lv_iload_n hx hb dX8_blockAt_43 rfl (lv_at hl 3 rfl) ?_
              exact q_iret hx hb hret hlk hN hI (by subst hR; exact ⟨rfl, rfl, rfl⟩) dX8_blockAt_44
            · rw [if_neg c4] at hR
              refine lv_aload_n hx hb dX8_blockAt_31 rfl (lv_at hl 0 rfl) ?_
              refine lv_iload_n hx hb dX8_blockAt_32 rfl (lv_at hl 3 rfl) ?_
              refine q_goR (q_runV (As := [.int x3h21]) (rest := []) hx hb hml hown hg (c_X8_behind l D cs hL0 x3h21) v_X8_behind wl_X8_68 rfl rfl ⟨Nat.le_of_ble_eq_true rfl, Nat.le_of_ble_eq_true rfl⟩ hI hK 9 hL0.1 rfl hl.1 rfl rfl (Nat.le_of_ble_eq_true rfl) dX8_blockAt_33 ⟨Nat.le_of_ble_eq_true rfl, Nat.le_of_ble_eq_true rfl⟩) hI (fun H locs hI => ?_)
              refine lv_istore_n (lv' := [(3, .int (s_X8_behind v x3h21)), (0, .ref a), (1, .int p1), (2, .int p2), (4, .int x4h21)]) hx hb dX8_blockAt_36 rfl hl (by decide) rfl (fun ls hl => ?_)
              refine lv_iinc (v := x4h21 + 1) (lv' := [(4, .int (x4h21 + 1)), (3, .int (s_X8_behind v x3h21)), (0, .ref a), (1, .int p1), (2, .int p2)]) hx hb dX8_blockAt_37 hl (k := 4) rfl rfl (by decide) rfl (fun ls hl => ?_)
              refine lv_goto (tgt := 21) hx hb dX8_blockAt_40 (by decide) ?_
              exact ih21 (s_X8_behind v x3h21) (x4h21 + 1) (q_mu c3 hm21) hR _ _ _  hI (lv_sub hl [2, 3, 4, 1, 0] rfl)
      exact loop21 _ (s_X8_topOf v p1) 0 (q_fuel _) hR _ _ _  hI (lv_sub hl [2, 3, 4, 1, 0] rfl)
    · rw [if_neg c2] at hR
      refine lv_iconst (v := (-1)) hx hb dX8_blockAt_10 (by decide) ?_
      exact q_iret hx hb hret hlk hN hI (by subst hR; exact ⟨rfl, rfl, rfl⟩) dX8_blockAt_11
def s_X8_link_l (v : qTV) (p2 : Int32) (p3 : Int32) : qTV := ((rowPut v.1 p2 p3), v.2.1, (rowPut v.2.2.1 p3 p2), v.2.2.2)
set_option maxHeartbeats 4000000 in
set_option maxRecDepth 20000 in
theorem c_X8_link_l (l : Launch) (D : va_G) (cs : qC) {M0 : qM} {N a : Nat} {v : qTV} (hL0 : qLT cs M0 a v) (p2 : Int32) (p3 : Int32) :
    qMet l D cs yX8_link (qws yX8_link cX8_link 4 none) ({ frames := 1, cells := 0, slots := 0, locals := 22 } : Room) M0 N [.ref a, .ref (a + 1), .int p2, .int p3] (qMod N none (fun M' => qLT cs M' a (s_X8_link_l v p2 p3) ∧ qFr (qIn a 4) M0 M')) 0 0 := by
  obtain ⟨R, hR⟩ : ∃ R, s_X8_link_l v p2 p3 = R := ⟨_, rfl⟩
  rw [hR]
  rw [s_X8_link_l] at hR
  refine q_head (by decide) ?_ (Nat.le_of_ble_eq_true rfl)
  intro p e s m below meth c ls hx hb hret hlk hml hown hnm hg hK hN hI hl
  have hl : lv_has ls 4 [(0, .ref a), (1, .ref (a + 1)), (2, .int p2), (3, .int p3)] := hl
  have hS : qFr (qIn a 4) M0 M0 := qFr.rf
  refine lv_aload_n hx hb dX8_link_0 rfl (lv_at hl 1 rfl) ?_
  refine lv_iload_n hx hb dX8_link_1 rfl (lv_at hl 2 rfl) ?_
  refine lv_iload_n hx hb dX8_link_2 rfl (lv_at hl 3 rfl) ?_
  refine q_goN (q_runSN (As := [.ref (a + 1), .int p2, .int p3]) (rest := []) hx hb hml hown hg (c_X10_put l D cs hL0.2.1 p2 p3) v_X10_put (hK.2 _ (List.mem_of_getElem? (i := 36) rfl)) rfl rfl ⟨Nat.le_of_ble_eq_true rfl, Nat.le_of_ble_eq_true rfl⟩ hI hK hl.1 rfl rfl (Nat.le_of_ble_eq_true rfl) dX8_link_3 ⟨Nat.le_of_ble_eq_true rfl, Nat.le_of_ble_eq_true rfl⟩) hI (fun M H locs hp hI => ?_)
  obtain ⟨hn0, hF⟩ := hp
  generalize heg1 : rowPut v.1 p2 p3 = g1 at hn0 hR
  have hn := hn0
  have hn : qLT cs M a (g1, v.2.1, v.2.2.1, v.2.2.2) := qLT.s0 (v := v) hL0 hn (qFr.rf.tr hF (fun q hq => by omega))
  have hL0 := hn
  have hS := hS.tr hF (fun q hq => by omega)
  refine lv_aload_n hx hb dX8_link_6 rfl (lv_at hl 0 rfl) ?_
  refine q_get hx hb hg in_X8 hown hK hI hL0.1 rfl 2 (by decide) (hg _ wf_X8_18) (fun _ h9 => h9) rfl dX8_link_7 ?_
  refine lv_iload_n hx hb dX8_link_10 rfl (lv_at hl 3 rfl) ?_
  refine lv_iload_n hx hb dX8_link_11 rfl (lv_at hl 2 rfl) ?_
  refine q_goN (q_runSN (As := [.ref (a + 3), .int p3, .int p2]) (rest := []) hx hb hml hown hg (c_X10_put l D cs hL0.2.2.2 p3 p2) v_X10_put (hK.2 _ (List.mem_of_getElem? (i := 36) rfl)) rfl rfl ⟨Nat.le_of_ble_eq_true rfl, Nat.le_of_ble_eq_true rfl⟩ hI hK hl.1 rfl rfl (Nat.le_of_ble_eq_true rfl) dX8_link_12 ⟨Nat.le_of_ble_eq_true rfl, Nat.le_of_ble_eq_true rfl⟩) hI (fun M H locs hp hI => ?_)
  obtain ⟨hn0, hF⟩ := hp
  generalize heg2 : rowPut v.2.2.1 p3 p2 = g2 at hn0 hR
  have hn := hn0
  have hn : qLT cs M a (g1, v.2.1, g2, v.2.2.2) := qLT.s2 (v := (g1, v.2.1, v.2.2.1, v.2.2.2)) hL0 hn (qFr.rf.tr hF (fun q hq => by omega))
  have hL0 := hn
  have hS := hS.tr hF (fun q hq => by omega)
  exact q_vret (st := []) hx hb hret hlk hN hI (by subst hR; exact ⟨rfl, ⟨hL0, hS⟩, rfl⟩) dX8_link_15
def s_X8_link_r (v : qTV) (p2 : Int32) (p3 : Int32) : qTV := (v.1, (rowPut v.2.1 p2 p3), (rowPut v.2.2.1 p3 p2), v.2.2.2)
set_option maxHeartbeats 4000000 in
set_option maxRecDepth 20000 in
theorem c_X8_link_r (l : Launch) (D : va_G) (cs : qC) {M0 : qM} {N a : Nat} {v : qTV} (hL0 : qLT cs M0 a v) (p2 : Int32) (p3 : Int32) :
    qMet l D cs yX8_link (qws yX8_link cX8_link 4 none) ({ frames := 1, cells := 0, slots := 0, locals := 22 } : Room) M0 N [.ref a, .ref (a + 2), .int p2, .int p3] (qMod N none (fun M' => qLT cs M' a (s_X8_link_r v p2 p3) ∧ qFr (qIn a 4) M0 M')) 0 0 := by
  obtain ⟨R, hR⟩ : ∃ R, s_X8_link_r v p2 p3 = R := ⟨_, rfl⟩
  rw [hR]
  rw [s_X8_link_r] at hR
  refine q_head (by decide) ?_ (Nat.le_of_ble_eq_true rfl)
  intro p e s m below meth c ls hx hb hret hlk hml hown hnm hg hK hN hI hl
  have hl : lv_has ls 4 [(0, .ref a), (1, .ref (a + 2)), (2, .int p2), (3, .int p3)] := hl
  have hS : qFr (qIn a 4) M0 M0 := qFr.rf
  refine lv_aload_n hx hb dX8_link_0 rfl (lv_at hl 1 rfl) ?_
  refine lv_iload_n hx hb dX8_link_1 rfl (lv_at hl 2 rfl) ?_
  refine lv_iload_n hx hb dX8_link_2 rfl (lv_at hl 3 rfl) ?_
  refine q_goN (q_runSN (As := [.ref (a + 2), .int p2, .int p3]) (rest := []) hx hb hml hown hg (c_X10_put l D cs hL0.2.2.1 p2 p3) v_X10_put (hK.2 _ (List.mem_of_getElem? (i := 36) rfl)) rfl rfl ⟨Nat.le_of_ble_eq_true rfl, Nat.le_of_ble_eq_true rfl⟩ hI hK hl.1 rfl rfl (Nat.le_of_ble_eq_true rfl) dX8_link_3 ⟨Nat.le_of_ble_eq_true rfl, Nat.le_of_ble_eq_true rfl⟩) hI (fun M H locs hp hI => ?_)
  obtain ⟨hn0, hF⟩ := hp
  generalize heg1 : rowPut v.2.1 p2 p3 = g1 at hn0 hR
  have hn := hn0
  have hn : qLT cs M a (v.1, g1, v.2.2.1, v.2.2.2) := qLT.s1 (v := v) hL0 hn (qFr.rf.tr hF (fun q hq => by omega))
  have hL0 := hn
  have hS := hS.tr hF (fun q hq => by omega)
  refine lv_aload_n hx hb dX8_link_6 rfl (lv_at hl 0 rfl) ?_
  refine q_get hx hb hg in_X8 hown hK hI hL0.1 rfl 2 (by decide) (hg _ wf_X8_18) (fun _ h9 => h9) rfl dX8_link_7 ?_
  refine lv_iload_n hx hb dX8_link_10 rfl (lv_at hl 3 rfl) ?_
  refine lv_iload_n hx hb dX8_link_11 rfl (lv_at hl 2 rfl) ?_
  refine q_goN (q_runSN (As := [.ref (a + 3), .int p3, .int p2]) (rest := []) hx hb hml hown hg (c_X10_put l D cs hL0.2.2.2 p3 p2) v_X10_put (hK.2 _ (List.mem_of_getElem? (i := 36) rfl)) rfl rfl ⟨Nat.le_of_ble_eq_true rfl, Nat.le_of_ble_eq_true rfl⟩ hI hK hl.1 rfl rfl (Nat.le_of_ble_eq_true rfl) dX8_link_12 ⟨Nat.le_of_ble_eq_true rfl, Nat.le_of_ble_eq_true rfl⟩) hI (fun M H locs hp hI => ?_)
  obtain ⟨hn0, hF⟩ := hp
  generalize heg2 : rowPut v.2.2.1 p3 p2 = g2 at hn0 hR
  have hn := hn0
  have hn : qLT cs M a (v.1, g1, g2, v.2.2.2) := qLT.s2 (v := (v.1, g1, v.2.2.1, v.2.2.2)) hL0 hn (qFr.rf.tr hF (fun q hq => by omega))
  have hL0 := hn
  have hS := hS.tr hF (fun q hq => by omega)
  exact q_vret (st := []) hx hb hret hlk hN hI (by subst hR; exact ⟨rfl, ⟨hL0, hS⟩, rfl⟩) dX8_link_15
def s_X8_turn (v : qTV) (p1 : Int32) : qTV := (if 0 ≤ (s_X8_upperOf v p1) then (if (s_X8_leftOf v (s_X8_upperOf v p1)) = p1 then (if (s_X8_leftOf (s_X8_link_r (s_X8_link_l v (s_X8_upperOf v p1) (rowAt v.2.1 p1)) p1 (s_X8_upperOf v p1)) (s_X8_upperOf v (s_X8_upperOf v p1))) = (s_X8_upperOf v p1) then ((s_X8_link_l (s_X8_link_r (s_X8_link_l v (s_X8_upperOf v p1) (rowAt v.2.1 p1)) p1 (s_X8_upperOf v p1)) (s_X8_upperOf v (s_X8_upperOf v p1)) p1).1, (s_X8_link_l (s_X8_link_r (s_X8_link_l v (s_X8_upperOf v p1) (rowAt v.2.1 p1)) p1 (s_X8_upperOf v p1)) (s_X8_upperOf v (s_X8_upperOf v p1)) p1).2.1, (s_X8_link_l (s_X8_link_r (s_X8_link_l v (s_X8_upperOf v p1) (rowAt v.2.1 p1)) p1 (s_X8_upperOf v p1)) (s_X8_upperOf v (s_X8_upperOf v p1)) p1).2.2.1, (s_X8_link_l (s_X8_link_r (s_X8_link_l v (s_X8_upperOf v p1) (rowAt v.2.1 p1)) p1 (s_X8_upperOf v p1)) (s_X8_upperOf v (s_X8_upperOf v p1)) p1).2.2.2 + 1) else ((s_X8_link_r (s_X8_link_r (s_X8_link_l v (s_X8_upperOf v p1) (rowAt v.2.1 p1)) p1 (s_X8_upperOf v p1)) (s_X8_upperOf v (s_X8_upperOf v p1)) p1).1, (s_X8_link_r (s_X8_link_r (s_X8_link_l v (s_X8_upperOf v p1) (rowAt v.2.1 p1)) p1 (s_X8_upperOf v p1)) (s_X8_upperOf v (s_X8_upperOf v p1)) p1).2.1, (s_X8_link_r (s_X8_link_r (s_X8_link_l v (s_X8_upperOf v p1) (rowAt v.2.1 p1)) p1 (s_X8_upperOf v p1)) (s_X8_upperOf v (s_X8_upperOf v p1)) p1).2.2.1, (s_X8_link_r (s_X8_link_r (s_X8_link_l v (s_X8_upperOf v p1) (rowAt v.2.1 p1)) p1 (s_X8_upperOf v p1)) (s_X8_upperOf v (s_X8_upperOf v p1)) p1).2.2.2 + 1)) else (if (s_X8_leftOf (s_X8_link_l (s_X8_link_r v (s_X8_upperOf v p1) (rowAt v.1 p1)) p1 (s_X8_upperOf v p1)) (s_X8_upperOf v (s_X8_upperOf v p1))) = (s_X8_upperOf v p1) then ((s_X8_link_l (s_X8_link_l (s_X8_link_r v (s_X8_upperOf v p1) (rowAt v.1 p1)) p1 (s_X8_upperOf v p1)) (s_X8_upperOf v (s_X8_upperOf v p1)) p1).1, (s_X8_link_l (s_X8_link_l (s_X8_link_r v (s_X8_upperOf v p1) (rowAt v.1 p1)) p1 (s_X8_upperOf v p1)) (s_X8_upperOf v (s_X8_upperOf v p1)) p1).2.1, (s_X8_link_l (s_X8_link_l (s_X8_link_r v (s_X8_upperOf v p1) (rowAt v.1 p1)) p1 (s_X8_upperOf v p1)) (s_X8_upperOf v (s_X8_upperOf v p1)) p1).2.2.1, (s_X8_link_l (s_X8_link_l (s_X8_link_r v (s_X8_upperOf v p1) (rowAt v.1 p1)) p1 (s_X8_upperOf v p1)) (s_X8_upperOf v (s_X8_upperOf v p1)) p1).2.2.2 + 1) else ((s_X8_link_r (s_X8_link_l (s_X8_link_r v (s_X8_upperOf v p1) (rowAt v.1 p1)) p1 (s_X8_upperOf v p1)) (s_X8_upperOf v (s_X8_upperOf v p1)) p1).1, (s_X8_link_r (s_X8_link_l (s_X8_link_r v (s_X8_upperOf v p1) (rowAt v.1 p1)) p1 (s_X8_upperOf v p1)) (s_X8_upperOf v (s_X8_upperOf v p1)) p1).2.1, (s_X8_link_r (s_X8_link_l (s_X8_link_r v (s_X8_upperOf v p1) (rowAt v.1 p1)) p1 (s_X8_upperOf v p1)) (s_X8_upperOf v (s_X8_upperOf v p1)) p1).2.2.1, (s_X8_link_r (s_X8_link_l (s_X8_link_r v (s_X8_upperOf v p1) (rowAt v.1 p1)) p1 (s_X8_upperOf v p1)) (s_X8_upperOf v (s_X8_upperOf v p1)) p1).2.2.2 + 1))) else v)
set_option maxHeartbeats 4000000 in
set_option maxRecDepth 20000 in
theorem c_X8_turn (l : Launch) (D : va_G) (cs : qC) {M0 : qM} {N a : Nat} {v : qTV} (hL0 : qLT cs M0 a v) (p1 : Int32) :
    qMet l D cs yX8_turn (qws yX8_turn cX8_turn 7 none) ({ frames := 2, cells := 0, slots := 0, locals := 45 } : Room) M0 N [.ref a, .int p1] (qMod N none (fun M' => qLT cs M' a (s_X8_turn v p1) ∧ qFr (qIn a 4) M0 M')) 0 0 := by
  obtain ⟨R, hR⟩ : ∃ R, s_X8_turn v p1 = R := ⟨_, rfl⟩
  rw [hR]
  rw [s_X8_turn] at hR
  refine q_head (by decide) ?_ (Nat.le_of_ble_eq_true rfl)
  intro p e s m below meth c ls hx hb hret hlk hml hown hnm hg hK hN hI hl
  have hl : lv_has ls 7 [(0, .ref a), (1, .int p1)] := hl
  have hS : qFr (qIn a 4) M0 M0 := qFr.rf
  refine lv_aload_n hx hb dX8_turn_0 rfl (lv_at hl 0 rfl) ?_
  refine lv_iload_n hx hb dX8_turn_1 rfl (lv_at hl 1 rfl) ?_
  refine q_goR (q_runV (As := [.int p1]) (rest := []) hx hb hml hown hg (c_X8_upperOf l D cs hL0 p1) v_X8_upperOf wl_X8_48 rfl rfl ⟨Nat.le_of_ble_eq_true rfl, Nat.le_of_ble_eq_true rfl⟩ hI hK 9 hL0.1 rfl hl.1 rfl rfl (Nat.le_of_ble_eq_true rfl) dX8_turn_2 ⟨Nat.le_of_ble_eq_true rfl, Nat.le_of_ble_eq_true rfl⟩) hI (fun H locs hI => ?_)
  refine lv_istore_n (lv' := [(2, .int (s_X8_upperOf v p1)), (0, .ref a), (1, .int p1)]) hx hb dX8_turn_5 rfl hl (by decide) rfl (fun ls hl => ?_)
  refine lv_iload_n hx hb dX8_turn_6 rfl (lv_at hl 0 rfl) ?_
  refine lv_if_ge (tgt := 11) hx hb dX8_turn_7 (by decide) (fun c1 => ?_) (fun c1 => ?_)
  · rw [if_pos c1] at hR
    refine lv_aload_n hx hb dX8_turn_11 rfl (lv_at hl 1 rfl) ?_
    refine lv_iload_n hx hb dX8_turn_12 rfl (lv_at hl 0 rfl) ?_
    refine q_goR (q_runV (As := [.int (s_X8_upperOf v p1)]) (rest := []) hx hb hml hown hg (c_X8_upperOf l D cs hL0 (s_X8_upperOf v p1)) v_X8_upperOf wl_X8_48 rfl rfl ⟨Nat.le_of_ble_eq_true rfl, Nat.le_of_ble_eq_true rfl⟩ hI hK 9 hL0.1 rfl hl.1 rfl rfl (Nat.le_of_ble_eq_true rfl) dX8_turn_13 ⟨Nat.le_of_ble_eq_true rfl, Nat.le_of_ble_eq_true rfl⟩) hI (fun H locs hI => ?_)
    refine lv_istore_n (lv' := [(3, .int (s_X8_upperOf v (s_X8_upperOf v p1))), (2, .int (s_X8_upperOf v p1)), (0, .ref a), (1, .int p1)]) hx hb dX8_turn_16 rfl hl (by decide) rfl (fun ls hl => ?_)
    refine lv_aload_n hx hb dX8_turn_17 rfl (lv_at hl 2 rfl) ?_
    refine lv_iload_n hx hb dX8_turn_18 rfl (lv_at hl 1 rfl) ?_
    refine q_goR (q_runV (As := [.int (s_X8_upperOf v p1)]) (rest := []) hx hb hml hown hg (c_X8_leftOf l D cs hL0 (s_X8_upperOf v p1)) v_X8_leftOf wl_X8_71 rfl rfl ⟨Nat.le_of_ble_eq_true rfl, Nat.le_of_ble_eq_true rfl⟩ hI hK 9 hL0.1 rfl hl.1 rfl rfl (Nat.le_of_ble_eq_true rfl) dX8_turn_19 ⟨Nat.le_of_ble_eq_true rfl, Nat.le_of_ble_eq_true rfl⟩) hI (fun H locs hI => ?_)
    refine lv_iload_n hx hb dX8_turn_22 rfl (lv_at hl 3 rfl) ?_
    refine lv_icmp_ne (tgt := 30) hx hb dX8_turn_23 (by decide) (fun c2 => ?_) (fun c2 => ?_)
    · rw [if_neg c2] at hR
      refine lv_iconst (v := 0) hx hb dX8_turn_30 (by decide) ?_
      refine lv_istore (lv' := [(4, .int 0), (3, .int (s_X8_upperOf v (s_X8_upperOf v p1))), (2, .int (s_X8_upperOf v p1)), (0, .ref a), (1, .int p1)]) hx hb dX8_turn_31 hl (by decide) rfl (fun ls hl => ?_)
      refine lv_iload hx hb dX8_turn_33 (lv_at hl 0 rfl) ?_
      refine lv_if_eq (tgt := 45) hx hb dX8_turn_35 (by decide) (fun c3 => ?_) (fun c3 => absurd c3 (by decide))
      refine lv_aload_n hx hb dX8_turn_45 rfl (lv_at hl 3 rfl) ?_
      refine q_get hx hb hg in_X8 hown hK hI hL0.1 rfl 1 (by decide) (hg _ wf_X8_15) (fun _ h9 => h9) rfl dX8_turn_46 ?_
      refine lv_astore (lv' := [(5, .ref (a + 2)), (4, .int 0), (3, .int (s_X8_upperOf v (s_X8_upperOf v p1))), (2, .int (s_X8_upperOf v p1)), (0, .ref a), (1, .int p1)]) hx hb dX8_turn_49 hl (by decide) rfl (fun ls hl => ?_)
      refine lv_iload hx hb dX8_turn_51 (lv_at hl 1 rfl) ?_
      refine lv_if_eq (tgt := 63) hx hb dX8_turn_53 (by decide) (fun c4 => ?_) (fun c4 => absurd c4 (by decide))
      refine lv_aload_n hx hb dX8_turn_63 rfl (lv_at hl 4 rfl) ?_
      refine q_get hx hb hg in_X8 hown hK hI hL0.1 rfl 0 (by decide) (hg _ wf_X8_9) (fun _ h9 => h9) rfl dX8_turn_64 ?_
      refine lv_astore (lv' := [(6, .ref (a + 1)), (5, .ref (a + 2)), (4, .int 0), (3, .int (s_X8_upperOf v (s_X8_upperOf v p1))), (2, .int (s_X8_upperOf v p1)), (0, .ref a), (1, .int p1)]) hx hb dX8_turn_67 hl (by decide) rfl (fun ls hl => ?_)
      refine lv_aload_n hx hb dX8_turn_69 rfl (lv_at hl 5 rfl) ?_
      refine lv_aload hx hb dX8_turn_70 (lv_at hl 1 rfl) ?_
      refine lv_iload_n hx hb dX8_turn_72 rfl (lv_at hl 4 rfl) ?_
      refine lv_aload hx hb dX8_turn_73 (lv_at hl 0 rfl) ?_
      refine lv_iload_n hx hb dX8_turn_75 rfl (lv_at hl 6 rfl) ?_
      refine q_goR (q_runSN (As := [.ref (a + 1), .int p1]) (rest := [.int (s_X8_upperOf v p1), .ref (a + 2), .ref a]) hx hb hml hown hg (c_X10_at l D cs hL0.2.1 p1) v_X10_at (hK.2 _ (List.mem_of_getElem? (i := 35) rfl)) rfl rfl ⟨Nat.le_of_ble_eq_true rfl, Nat.le_of_ble_eq_true rfl⟩ hI hK hl.1 rfl rfl (Nat.le_of_ble_eq_true rfl) dX8_turn_76 ⟨Nat.le_of_ble_eq_true rfl, Nat.le_of_ble_eq_true rfl⟩) hI (fun H locs hI => ?_)
      refine q_goN (q_runV (As := [.ref (a + 2), .int (s_X8_upperOf v p1), .int (rowAt v.1 p1)]) (rest := []) hx hb hml hown hg (c_X8_link_r l D cs hL0 (s_X8_upperOf v p1) (rowAt v.1 p1)) v_X8_link wl_X8_74 rfl rfl ⟨Nat.le_of_ble_eq_true rfl, Nat.le_of_ble_eq_true rfl⟩ hI hK 9 hL0.1 rfl hl.1 rfl rfl (Nat.le_of_ble_eq_true rfl) dX8_turn_79 ⟨Nat.le_of_ble_eq_true rfl, Nat.le_of_ble_eq_true rfl⟩) hI (fun M H locs hp hI => ?_)
      obtain ⟨hn0, hF⟩ := hp
      generalize heg5 : s_X8_link_r v (s_X8_upperOf v p1) (rowAt v.1 p1) = g5 at hn0 hR
      have hn := hn0
      have hL0 := hn
      have hS := hS.tr hF (fun q hq => by omega)
      refine lv_aload_n hx hb dX8_turn_82 rfl (lv_at hl 5 rfl) ?_
      refine lv_aload hx hb dX8_turn_83 (lv_at hl 0 rfl) ?_
      refine lv_iload_n hx hb dX8_turn_85 rfl (lv_at hl 6 rfl) ?_
      refine lv_iload_n hx hb dX8_turn_86 rfl (lv_at hl 4 rfl) ?_
      refine q_goN (q_runV (As := [.ref (a + 1), .int p1, .int (s_X8_upperOf v p1)]) (rest := []) hx hb hml hown hg (c_X8_link_l l D cs hL0 p1 (s_X8_upperOf v p1)) v_X8_link wl_X8_74 rfl rfl ⟨Nat.le_of_ble_eq_true rfl, Nat.le_of_ble_eq_true rfl⟩ hI hK 9 hL0.1 rfl hl.1 rfl rfl (Nat.le_of_ble_eq_true rfl) dX8_turn_87 ⟨Nat.le_of_ble_eq_true rfl, Nat.le_of_ble_eq_true rfl⟩) hI (fun M H locs hp hI => ?_)
      obtain ⟨hn0, hF⟩ := hp
      generalize heg6 : s_X8_link_l g5 p1 (s_X8_upperOf v p1) = g6 at hn0 hR
      have hn := hn0
      have hL0 := hn
      have hS := hS.tr hF (fun q hq => by omega)
      refine lv_aload_n hx hb dX8_turn_90 rfl (lv_at hl 5 rfl) ?_
      refine lv_aload_n hx hb dX8_turn_91 rfl (lv_at hl 5 rfl) ?_
      refine lv_iload_n hx hb dX8_turn_92 rfl (lv_at hl 3 rfl) ?_
      refine q_goR (q_runV (As := [.int (s_X8_upperOf v (s_X8_upperOf v p1))]) (rest := [.ref a]) hx hb hml hown hg (c_X8_leftOf l D cs hL0 (s_X8_upperOf v (s_X8_upperOf v p1))) v_X8_leftOf wl_X8_71 rfl rfl ⟨Nat.le_of_ble_eq_true rfl, Nat.le_of_ble_eq_true rfl⟩ hI hK 9 hL0.1 rfl hl.1 rfl rfl (Nat.le_of_ble_eq_true rfl) dX8_turn_93 ⟨Nat.le_of_ble_eq_true rfl, Nat.le_of_ble_eq_true rfl⟩) hI (fun H locs hI => ?_)
      refine lv_iload_n hx hb dX8_turn_96 rfl (lv_at hl 4 rfl) ?_
      refine lv_icmp_ne (tgt := 107) hx hb dX8_turn_97 (by decide) (fun c7 => ?_) (fun c7 => ?_)
      · rw [if_neg c7] at hR
        refine lv_aload_n hx hb dX8_turn_107 rfl (lv_at hl 5 rfl) ?_
        refine q_get hx hb hg in_X8 hown hK hI hL0.1 rfl 1 (by decide) (hg _ wf_X8_15) (fun _ h9 => h9) rfl dX8_turn_108 ?_
        refine lv_iload_n hx hb dX8_turn_111 rfl (lv_at hl 3 rfl) ?_
        refine lv_iload_n hx hb dX8_turn_112 rfl (lv_at hl 6 rfl) ?_
        refine q_goN (q_runV (As := [.ref (a + 2), .int (s_X8_upperOf v (s_X8_upperOf v p1)), .int p1]) (rest := []) hx hb hml hown hg (c_X8_link_r l D cs hL0 (s_X8_upperOf v (s_X8_upperOf v p1)) p1) v_X8_link wl_X8_74 rfl rfl ⟨Nat.le_of_ble_eq_true rfl, Nat.le_of_ble_eq_true rfl⟩ hI hK 9 hL0.1 rfl hl.1 rfl rfl (Nat.le_of_ble_eq_true rfl) dX8_turn_113 ⟨Nat.le_of_ble_eq_true rfl, Nat.le_of_ble_eq_true rfl⟩) hI (fun M H locs hp hI => ?_)
        obtain ⟨hn0, hF⟩ := hp
        generalize heg8 : s_X8_link_r g6 (s_X8_upperOf v (s_X8_upperOf v p1)) p1 = g8 at hn0 hR
        have hn := hn0
        have hL0 := hn
        have hS := hS.tr hF (fun q hq => by omega)
        refine lv_aload_n hx hb dX8_turn_116 rfl (lv_at hl 5 rfl) ?_
        refine lv_dup hx hb dX8_turn_117 rfl ?_
        refine q_get hx hb hg in_X8 hown hK hI hL0.1 rfl 3 (by decide) (hg _ wf_X8_21) (fun _ h9 => h9) rfl dX8_turn_118 ?_
        refine lv_iconst (v := 1) hx hb dX8_turn_121 (by decide) ?_
        refine lv_iadd hx hb dX8_turn_122 ?_
        have hn := qLT.i3 (g8.2.2.2 + 1) hL0
        refine q_put (v := .int (g8.2.2.2 + 1)) hx hb hg in_X8 tyX8_ok nmX8 hown hK hI hL0.1 rfl 3 (by decide) (hg _ wf_X8_21) (fun _ h9 => h9) rfl rfl rfl (Nat.le_of_ble_eq_true rfl) dX8_turn_123 (fun H locs hI => ?_)
        obtain ⟨M, hn, hF, hI⟩ : ∃ Mx : qM, qLT cs Mx a (g8.1, g8.2.1, g8.2.2.1, g8.2.2.2 + 1) ∧ qFr (qIn a 1) M Mx ∧ qI D M0 s.heap Mx N H locs := ⟨_, hn, qFr.up (by decide), hI⟩
        have hL0 := hn
        have hS := hS.tr hF (fun q hq => by omega)
        exact q_vret (st := []) hx hb hret hlk hN hI (by subst hR; exact ⟨rfl, ⟨hL0, hS⟩, rfl⟩) dX8_turn_126
      · rw [if_pos c7] at hR
        refine lv_aload_n hx hb dX8_turn_100 rfl (lv_at hl 5 rfl) ?_
        refine q_get hx hb hg in_X8 hown hK hI hL0.1 rfl 0 (by decide) (hg _ wf_X8_9) (fun _ h9 => h9) rfl dX8_turn_101 ?_
        refine lv_goto (tgt := 111) hx hb dX8_turn_104 (by decide) ?_
        refine lv_iload_n hx hb dX8_turn_111 rfl (lv_at hl 3 rfl) ?_
        refine lv_iload_n hx hb dX8_turn_112 rfl (lv_at hl 6 rfl) ?_
        refine q_goN (q_runV (As := [.ref (a + 1), .int (s_X8_upperOf v (s_X8_upperOf v p1)), .int p1]) (rest := []) hx hb hml hown hg (c_X8_link_l l D cs hL0 (s_X8_upperOf v (s_X8_upperOf v p1)) p1) v_X8_link wl_X8_74 rfl rfl ⟨Nat.le_of_ble_eq_true rfl, Nat.le_of_ble_eq_true rfl⟩ hI hK 9 hL0.1 rfl hl.1 rfl rfl (Nat.le_of_ble_eq_true rfl) dX8_turn_113 ⟨Nat.le_of_ble_eq_true rfl, Nat.le_of_ble_eq_true rfl⟩) hI (fun M H locs hp hI => ?_)
        obtain ⟨hn0, hF⟩ := hp
        generalize heg9 : s_X8_link_l g6 (s_X8_upperOf v (s_X8_upperOf v p1)) p1 = g9 at hn0 hR
        have hn := hn0
        have hL0 := hn
        have hS := hS.tr hF (fun q hq => by omega)
        refine lv_aload_n hx hb dX8_turn_116 rfl (lv_at hl 5 rfl) ?_
        refine lv_dup hx hb dX8_turn_117 rfl ?_
        refine q_get hx hb hg in_X8 hown hK hI hL0.1 rfl 3 (by decide) (hg _ wf_X8_21) (fun _ h9 => h9) rfl dX8_turn_118 ?_
        refine lv_iconst (v := 1) hx hb dX8_turn_121 (by decide) ?_
        refine lv_iadd hx hb dX8_turn_122 ?_
        have hn := qLT.i3 (g9.2.2.2 + 1) hL0
        refine q_put (v := .int (g9.2.2.2 + 1)) hx hb hg in_X8 tyX8_ok nmX8 hown hK hI hL0.1 rfl 3 (by decide) (hg _ wf_X8_21) (fun _ h9 => h9) rfl rfl rfl (Nat.le_of_ble_eq_true rfl) dX8_turn_123 (fun H locs hI => ?_)
        obtain ⟨M, hn, hF, hI⟩ : ∃ Mx : qM, qLT cs Mx a (g9.1, g9.2.1, g9.2.2.1, g9.2.2.2 + 1) ∧ qFr (qIn a 1) M Mx ∧ qI D M0 s.heap Mx N H locs := ⟨_, hn, qFr.up (by decide), hI⟩
        have hL0 := hn
        have hS := hS.tr hF (fun q hq => by omega)
        exact q_vret (st := []) hx hb hret hlk hN hI (by subst hR; exact ⟨rfl, ⟨hL0, hS⟩, rfl⟩) dX8_turn_126
    · rw [if_pos c2] at hR
      refine lv_iconst (v := 1) hx hb dX8_turn_26 (by decide) ?_
      refine lv_goto (tgt := 31) hx hb dX8_turn_27 (by decide) ?_
      refine lv_istore (lv' := [(4, .int 1), (3, .int (s_X8_upperOf v (s_X8_upperOf v p1))), (2, .int (s_X8_upperOf v p1)), (0, .ref a), (1, .int p1)]) hx hb dX8_turn_31 hl (by decide) rfl (fun ls hl => ?_)
      refine lv_iload hx hb dX8_turn_33 (lv_at hl 0 rfl) ?_
      refine lv_if_eq (tgt := 45) hx hb dX8_turn_35 (by decide) (fun c10 => absurd c10 (by decide)) (fun c10 => ?_)
      refine lv_aload_n hx hb dX8_turn_38 rfl (lv_at hl 3 rfl) ?_
      refine q_get hx hb hg in_X8 hown hK hI hL0.1 rfl 0 (by decide) (hg _ wf_X8_9) (fun _ h9 => h9) rfl dX8_turn_39 ?_
      refine lv_goto (tgt := 49) hx hb dX8_turn_42 (by decide) ?_
      refine lv_astore (lv' := [(5, .ref (a + 1)), (4, .int 1), (3, .int (s_X8_upperOf v (s_X8_upperOf v p1))), (2, .int (s_X8_upperOf v p1)), (0, .ref a), (1, .int p1)]) hx hb dX8_turn_49 hl (by decide) rfl (fun ls hl => ?_)
      refine lv_iload hx hb dX8_turn_51 (lv_at hl 1 rfl) ?_
      refine lv_if_eq (tgt := 63) hx hb dX8_turn_53 (by decide) (fun c11 => absurd c11 (by decide)) (fun c11 => ?_)
      refine lv_aload_n hx hb dX8_turn_56 rfl (lv_at hl 4 rfl) ?_
      refine q_get hx hb hg in_X8 hown hK hI hL0.1 rfl 1 (by decide) (hg _ wf_X8_15) (fun _ h9 => h9) rfl dX8_turn_57 ?_
      refine lv_goto (tgt := 67) hx hb dX8_turn_60 (by decide) ?_
      refine lv_astore (lv' := [(6, .ref (a + 2)), (5, .ref (a + 1)), (4, .int 1), (3, .int (s_X8_upperOf v (s_X8_upperOf v p1))), (2, .int (s_X8_upperOf v p1)), (0, .ref a), (1, .int p1)]) hx hb dX8_turn_67 hl (by decide) rfl (fun ls hl => ?_)
      refine lv_aload_n hx hb dX8_turn_69 rfl (lv_at hl 5 rfl) ?_
      refine lv_aload hx hb dX8_turn_70 (lv_at hl 1 rfl) ?_
      refine lv_iload_n hx hb dX8_turn_72 rfl (lv_at hl 4 rfl) ?_
      refine lv_aload hx hb dX8_turn_73 (lv_at hl 0 rfl) ?_
      refine lv_iload_n hx hb dX8_turn_75 rfl (lv_at hl 6 rfl) ?_
      refine q_goR (q_runSN (As := [.ref (a + 2), .int p1]) (rest := [.int (s_X8_upperOf v p1), .ref (a + 1), .ref a]) hx hb hml hown hg (c_X10_at l D cs hL0.2.2.1 p1) v_X10_at (hK.2 _ (List.mem_of_getElem? (i := 35) rfl)) rfl rfl ⟨Nat.le_of_ble_eq_true rfl, Nat.le_of_ble_eq_true rfl⟩ hI hK hl.1 rfl rfl (Nat.le_of_ble_eq_true rfl) dX8_turn_76 ⟨Nat.le_of_ble_eq_true rfl, Nat.le_of_ble_eq_true rfl⟩) hI (fun H locs hI => ?_)
      refine q_goN (q_runV (As := [.ref (a + 1), .int (s_X8_upperOf v p1), .int (rowAt v.2.1 p1)]) (rest := []) hx hb hml hown hg (c_X8_link_l l D cs hL0 (s_X8_upperOf v p1) (rowAt v.2.1 p1)) v_X8_link wl_X8_74 rfl rfl ⟨Nat.le_of_ble_eq_true rfl, Nat.le_of_ble_eq_true rfl⟩ hI hK 9 hL0.1 rfl hl.1 rfl rfl (Nat.le_of_ble_eq_true rfl) dX8_turn_79 ⟨Nat.le_of_ble_eq_true rfl, Nat.le_of_ble_eq_true rfl⟩) hI (fun M H locs hp hI => ?_)
      obtain ⟨hn0, hF⟩ := hp
      generalize heg12 : s_X8_link_l v (s_X8_upperOf v p1) (rowAt v.2.1 p1) = g12 at hn0 hR
      have hn := hn0
      have hL0 := hn
      have hS := hS.tr hF (fun q hq => by omega)
      refine lv_aload_n hx hb dX8_turn_82 rfl (lv_at hl 5 rfl) ?_
      refine lv_aload hx hb dX8_turn_83 (lv_at hl 0 rfl) ?_
      refine lv_iload_n hx hb dX8_turn_85 rfl (lv_at hl 6 rfl) ?_
      refine lv_iload_n hx hb dX8_turn_86 rfl (lv_at hl 4 rfl) ?_
      refine q_goN (q_runV (As := [.ref (a + 2), .int p1, .int (s_X8_upperOf v p1)]) (rest := []) hx hb hml hown hg (c_X8_link_r l D cs hL0 p1 (s_X8_upperOf v p1)) v_X8_link wl_X8_74 rfl rfl ⟨Nat.le_of_ble_eq_true rfl, Nat.le_of_ble_eq_true rfl⟩ hI hK 9 hL0.1 rfl hl.1 rfl rfl (Nat.le_of_ble_eq_true rfl) dX8_turn_87 ⟨Nat.le_of_ble_eq_true rfl, Nat.le_of_ble_eq_true rfl⟩) hI (fun M H locs hp hI => ?_)
      obtain ⟨hn0, hF⟩ := hp
      generalize heg13 : s_X8_link_r g12 p1 (s_X8_upperOf v p1) = g13 at hn0 hR
      have hn := hn0
      have hL0 := hn
      have hS := hS.tr hF (fun q hq => by omega)
      refine lv_aload_n hx hb dX8_turn_90 rfl (lv_at hl 5 rfl) ?_
      refine lv_aload_n hx hb dX8_turn_91 rfl (lv_at hl 5 rfl) ?_
      refine lv_iload_n hx hb dX8_turn_92 rfl (lv_at hl 3 rfl) ?_
      refine q_goR (q_runV (As := [.int (s_X8_upperOf v (s_X8_upperOf v p1))]) (rest := [.ref a]) hx hb hml hown hg (c_X8_leftOf l D cs hL0 (s_X8_upperOf v (s_X8_upperOf v p1))) v_X8_leftOf wl_X8_71 rfl rfl ⟨Nat.le_of_ble_eq_true rfl, Nat.le_of_ble_eq_true rfl⟩ hI hK 9 hL0.1 rfl hl.1 rfl rfl (Nat.le_of_ble_eq_true rfl) dX8_turn_93 ⟨Nat.le_of_ble_eq_true rfl, Nat.le_of_ble_eq_true rfl⟩) hI (fun H locs hI => ?_)
      refine lv_iload_n hx hb dX8_turn_96 rfl (lv_at hl 4 rfl) ?_
      refine lv_icmp_ne (tgt := 107) hx hb dX8_turn_97 (by decide) (fun c14 => ?_) (fun c14 => ?_)
      · rw [if_neg c14] at hR
        refine lv_aload_n hx hb dX8_turn_107 rfl (lv_at hl 5 rfl) ?_
        refine q_get hx hb hg in_X8 hown hK hI hL0.1 rfl 1 (by decide) (hg _ wf_X8_15) (fun _ h9 => h9) rfl dX8_turn_108 ?_
        refine lv_iload_n hx hb dX8_turn_111 rfl (lv_at hl 3 rfl) ?_
        refine lv_iload_n hx hb dX8_turn_112 rfl (lv_at hl 6 rfl) ?_
        refine q_goN (q_runV (As := [.ref (a + 2), .int (s_X8_upperOf v (s_X8_upperOf v p1)), .int p1]) (rest := []) hx hb hml hown hg (c_X8_link_r l D cs hL0 (s_X8_upperOf v (s_X8_upperOf v p1)) p1) v_X8_link wl_X8_74 rfl rfl ⟨Nat.le_of_ble_eq_true rfl, Nat.le_of_ble_eq_true rfl⟩ hI hK 9 hL0.1 rfl hl.1 rfl rfl (Nat.le_of_ble_eq_true rfl) dX8_turn_113 ⟨Nat.le_of_ble_eq_true rfl, Nat.le_of_ble_eq_true rfl⟩) hI (fun M H locs hp hI => ?_)
        obtain ⟨hn0, hF⟩ := hp
        generalize heg15 : s_X8_link_r g13 (s_X8_upperOf v (s_X8_upperOf v p1)) p1 = g15 at hn0 hR
        have hn := hn0
        have hL0 := hn
        have hS := hS.tr hF (fun q hq => by omega)
        refine lv_aload_n hx hb dX8_turn_116 rfl (lv_at hl 5 rfl) ?_
        refine lv_dup hx hb dX8_turn_117 rfl ?_
        refine q_get hx hb hg in_X8 hown hK hI hL0.1 rfl 3 (by decide) (hg _ wf_X8_21) (fun _ h9 => h9) rfl dX8_turn_118 ?_
        refine lv_iconst (v := 1) hx hb dX8_turn_121 (by decide) ?_
        refine lv_iadd hx hb dX8_turn_122 ?_
        have hn := qLT.i3 (g15.2.2.2 + 1) hL0
        refine q_put (v := .int (g15.2.2.2 + 1)) hx hb hg in_X8 tyX8_ok nmX8 hown hK hI hL0.1 rfl 3 (by decide) (hg _ wf_X8_21) (fun _ h9 => h9) rfl rfl rfl (Nat.le_of_ble_eq_true rfl) dX8_turn_123 (fun H locs hI => ?_)
        obtain ⟨M, hn, hF, hI⟩ : ∃ Mx : qM, qLT cs Mx a (g15.1, g15.2.1, g15.2.2.1, g15.2.2.2 + 1) ∧ qFr (qIn a 1) M Mx ∧ qI D M0 s.heap Mx N H locs := ⟨_, hn, qFr.up (by decide), hI⟩
        have hL0 := hn
        have hS := hS.tr hF (fun q hq => by omega)
        exact q_vret (st := []) hx hb hret hlk hN hI (by subst hR; exact ⟨rfl, ⟨hL0, hS⟩, rfl⟩) dX8_turn_126
      · rw [if_pos c14] at hR
        refine lv_aload_n hx hb dX8_turn_100 rfl (lv_at hl 5 rfl) ?_
        refine q_get hx hb hg in_X8 hown hK hI hL0.1 rfl 0 (by decide) (hg _ wf_X8_9) (fun _ h9 => h9) rfl dX8_turn_101 ?_
        refine lv_goto (tgt := 111) hx hb dX8_turn_104 (by decide) ?_
        refine lv_iload_n hx hb dX8_turn_111 rfl (lv_at hl 3 rfl) ?_
        refine lv_iload_n hx hb dX8_turn_112 rfl (lv_at hl 6 rfl) ?_
        refine q_goN (q_runV (As := [.ref (a + 1), .int (s_X8_upperOf v (s_X8_upperOf v p1)), .int p1]) (rest := []) hx hb hml hown hg (c_X8_link_l l D cs hL0 (s_X8_upperOf v (s_X8_upperOf v p1)) p1) v_X8_link wl_X8_74 rfl rfl ⟨Nat.le_of_ble_eq_true rfl, Nat.le_of_ble_eq_true rfl⟩ hI hK 9 hL0.1 rfl hl.1 rfl rfl (Nat.le_of_ble_eq_true rfl) dX8_turn_113 ⟨Nat.le_of_ble_eq_true rfl, Nat.le_of_ble_eq_true rfl⟩) hI (fun M H locs hp hI => ?_)
        obtain ⟨hn0, hF⟩ := hp
        generalize heg16 : s_X8_link_l g13 (s_X8_upperOf v (s_X8_upperOf v p1)) p1 = g16 at hn0 hR
        have hn := hn0
        have hL0 := hn
        have hS := hS.tr hF (fun q hq => by omega)
        refine lv_aload_n hx hb dX8_turn_116 rfl (lv_at hl 5 rfl) ?_
        refine lv_dup hx hb dX8_turn_117 rfl ?_
        refine q_get hx hb hg in_X8 hown hK hI hL0.1 rfl 3 (by decide) (hg _ wf_X8_21) (fun _ h9 => h9) rfl dX8_turn_118 ?_
        refine lv_iconst (v := 1) hx hb dX8_turn_121 (by decide) ?_
        refine lv_iadd hx hb dX8_turn_122 ?_
        have hn := qLT.i3 (g16.2.2.2 + 1) hL0
        refine q_put (v := .int (g16.2.2.2 + 1)) hx hb hg in_X8 tyX8_ok nmX8 hown hK hI hL0.1 rfl 3 (by decide) (hg _ wf_X8_21) (fun _ h9 => h9) rfl rfl rfl (Nat.le_of_ble_eq_true rfl) dX8_turn_123 (fun H locs hI => ?_)
        obtain ⟨M, hn, hF, hI⟩ : ∃ Mx : qM, qLT cs Mx a (g16.1, g16.2.1, g16.2.2.1, g16.2.2.2 + 1) ∧ qFr (qIn a 1) M Mx ∧ qI D M0 s.heap Mx N H locs := ⟨_, hn, qFr.up (by decide), hI⟩
        have hL0 := hn
        have hS := hS.tr hF (fun q hq => by omega)
        exact q_vret (st := []) hx hb hret hlk hN hI (by subst hR; exact ⟨rfl, ⟨hL0, hS⟩, rfl⟩) dX8_turn_126
  · rw [if_neg c1] at hR
    exact q_vret (st := []) hx hb hret hlk hN hI (by subst hR; exact ⟨rfl, ⟨hL0, hS⟩, rfl⟩) dX8_turn_10
def s_X8_splay_L2 (p1 : Int32) : Nat → Int32 → qTV → qTV
  | 0, _, _ => default
  | n + 1, x2h2, z0 => (if 16 ≤ x2h2 then z0 else (if (s_X8_upperOf z0 p1) < 0 then z0 else (if (s_X8_upperOf z0 (s_X8_upperOf z0 p1)) < 0 then (s_X8_splay_L2 p1 n (x2h2 + 1) (s_X8_turn z0 p1)) else (if (s_X8_leftOf z0 (s_X8_upperOf z0 p1)) = p1 then (if (s_X8_leftOf z0 (s_X8_upperOf z0 (s_X8_upperOf z0 p1))) = (s_X8_upperOf z0 p1) then (s_X8_splay_L2 p1 n (x2h2 + 1) (s_X8_turn (s_X8_turn z0 (s_X8_upperOf z0 p1)) p1)) else (s_X8_splay_L2 p1 n (x2h2 + 1) (s_X8_turn (s_X8_turn z0 p1) p1))) else (if (s_X8_leftOf z0 (s_X8_upperOf z0 (s_X8_upperOf z0 p1))) = (s_X8_upperOf z0 p1) then (s_X8_splay_L2 p1 n (x2h2 + 1) (s_X8_turn (s_X8_turn z0 p1) p1)) else (s_X8_splay_L2 p1 n (x2h2 + 1) (s_X8_turn (s_X8_turn z0 (s_X8_upperOf z0 p1)) p1)))))))
def s_X8_splay (v : qTV) (p1 : Int32) : qTV := (s_X8_splay_L2 p1 ((16 : Int32).toInt.toNat + 1) 0 v)
set_option maxHeartbeats 4000000 in
set_option maxRecDepth 20000 in
theorem c_X8_splay (l : Launch) (D : va_G) (cs : qC) {M0 : qM} {N a : Nat} {v : qTV} (hL0 : qLT cs M0 a v) (p1 : Int32) :
    qMet l D cs yX8_splay (qws yX8_splay cX8_splay 6 none) ({ frames := 3, cells := 0, slots := 0, locals := 71 } : Room) M0 N [.ref a, .int p1] (qMod N none (fun M' => qLT cs M' a (s_X8_splay v p1) ∧ qFr (qIn a 4) M0 M')) 0 0 := by
  obtain ⟨R, hR⟩ : ∃ R, s_X8_splay v p1 = R := ⟨_, rfl⟩
  rw [hR]
  rw [s_X8_splay] at hR
  refine q_head (by decide) ?_ (Nat.le_of_ble_eq_true rfl)
  intro p e s m below meth c ls hx hb hret hlk hml hown hnm hg hK hN hI hl
  have hl : lv_has ls 6 [(0, .ref a), (1, .int p1)] := hl
  have hS : qFr (qIn a 4) M0 M0 := qFr.rf
  refine lv_iconst (v := 0) hx hb dX8_splay_0 (by decide) ?_
  refine lv_istore_n (lv' := [(2, .int 0), (0, .ref a), (1, .int p1)]) hx hb dX8_splay_1 rfl hl (by decide) rfl (fun ls hl => ?_)
  have loop2 : ∀ (n2 : Nat) (x2h2 : Int32) (z0 : qTV), qmu 16 x2h2 < n2 → s_X8_splay_L2 p1 n2 x2h2 z0 = R → ∀ (M : qM) (H : Heap) (locs : List Loc) (ls : Array Slot), qLT cs M a z0 → qFr (qIn a 4) M0 M → qI D M0 s.heap M N H locs → lv_has ls 6 [(0, .ref a), (1, .int p1), (2, .int x2h2)] →
      W p l e ({ frames := 3, cells := 0, slots := 0, locals := 71 } : Room) s m [Value.ref a, Value.int p1].toArray below meth c H locs 0 0 (MQ below (qQ D M0 N (qMod N none (fun M' => qLT cs M' a R ∧ qFr (qIn a 4) M0 M'))) [Value.ref a, Value.int p1].toArray s 0 0 (qA M0 N)) (F0 m 2 ls []) := by
    intro n2
    induction n2 with
    | zero => intro x2h2 z0 hm; exact absurd hm (Nat.not_lt_zero _)
    | succ n2 ih2 =>
      intro x2h2 z0 hm2 hR M H locs ls hL0 hS hI hl
      rw [s_X8_splay_L2] at hR
      refine lv_iload_n hx hb dX8_splay_2 rfl (lv_at hl 2 rfl) ?_
      refine lv_bipush (v := 16) hx hb dX8_splay_3 (by decide) ?_
      refine lv_icmp_ge (tgt := 98) hx hb dX8_splay_5 (by decide) (fun c1 => ?_) (fun c1 => ?_)
      · rw [if_pos c1] at hR
        exact q_vret (st := []) hx hb hret hlk hN hI (by subst hR; exact ⟨rfl, ⟨hL0, hS⟩, rfl⟩) dX8_splay_98
      · rw [if_neg c1] at hR
        refine lv_aload_n hx hb dX8_splay_8 rfl (lv_at hl 0 rfl) ?_
        refine lv_iload_n hx hb dX8_splay_9 rfl (lv_at hl 1 rfl) ?_
        refine q_goR (q_runV (As := [.int p1]) (rest := []) hx hb hml hown hg (c_X8_upperOf l D cs hL0 p1) v_X8_upperOf wl_X8_48 rfl rfl ⟨Nat.le_of_ble_eq_true rfl, Nat.le_of_ble_eq_true rfl⟩ hI hK 9 hL0.1 rfl hl.1 rfl rfl (Nat.le_of_ble_eq_true rfl) dX8_splay_10 ⟨Nat.le_of_ble_eq_true rfl, Nat.le_of_ble_eq_true rfl⟩) hI (fun H locs hI => ?_)
        refine lv_if_lt (tgt := 98) hx hb dX8_splay_13 (by decide) (fun c2 => ?_) (fun c2 => ?_)
        · rw [if_pos c2] at hR
          exact q_vret (st := []) hx hb hret hlk hN hI (by subst hR; exact ⟨rfl, ⟨hL0, hS⟩, rfl⟩) dX8_splay_98
        · rw [if_neg c2] at hR
          refine lv_aload_n hx hb dX8_splay_16 rfl (lv_at hl 0 rfl) ?_
          refine lv_iload_n hx hb dX8_splay_17 rfl (lv_at hl 1 rfl) ?_
          refine q_goR (q_runV (As := [.int p1]) (rest := []) hx hb hml hown hg (c_X8_upperOf l D cs hL0 p1) v_X8_upperOf wl_X8_48 rfl rfl ⟨Nat.le_of_ble_eq_true rfl, Nat.le_of_ble_eq_true rfl⟩ hI hK 9 hL0.1 rfl hl.1 rfl rfl (Nat.le_of_ble_eq_true rfl) dX8_splay_18 ⟨Nat.le_of_ble_eq_true rfl, Nat.le_of_ble_eq_true rfl⟩) hI (fun H locs hI => ?_)
          refine lv_istore_n (lv' := [(3, .int (s_X8_upperOf z0 p1)), (0, .ref a), (1, .int p1), (2, .int x2h2)]) hx hb dX8_splay_21 rfl hl (by decide) rfl (fun ls hl => ?_)
          refine lv_aload_n hx hb dX8_splay_22 rfl (lv_at hl 1 rfl) ?_
          refine lv_iload_n hx hb dX8_splay_23 rfl (lv_at hl 0 rfl) ?_
          refine q_goR (q_runV (As := [.int (s_X8_upperOf z0 p1)]) (rest := []) hx hb hml hown hg (c_X8_upperOf l D cs hL0 (s_X8_upperOf z0 p1)) v_X8_upperOf wl_X8_48 rfl rfl ⟨Nat.le_of_ble_eq_true rfl, Nat.le_of_ble_eq_true rfl⟩ hI hK 9 hL0.1 rfl hl.1 rfl rfl (Nat.le_of_ble_eq_true rfl) dX8_splay_24 ⟨Nat.le_of_ble_eq_true rfl, Nat.le_of_ble_eq_true rfl⟩) hI (fun H locs hI => ?_)
          refine lv_istore (lv' := [(4, .int (s_X8_upperOf z0 (s_X8_upperOf z0 p1))), (3, .int (s_X8_upperOf z0 p1)), (0, .ref a), (1, .int p1), (2, .int x2h2)]) hx hb dX8_splay_27 hl (by decide) rfl (fun ls hl => ?_)
          refine lv_iload hx hb dX8_splay_29 (lv_at hl 0 rfl) ?_
          refine lv_if_lt (tgt := 87) hx hb dX8_splay_31 (by decide) (fun c3 => ?_) (fun c3 => ?_)
          · rw [if_pos c3] at hR
            refine lv_aload_n hx hb dX8_splay_87 rfl (lv_at hl 2 rfl) ?_
            refine lv_iload_n hx hb dX8_splay_88 rfl (lv_at hl 3 rfl) ?_
            refine q_goN (q_runV (As := [.int p1]) (rest := []) hx hb hml hown hg (c_X8_turn l D cs hL0 p1) v_X8_turn wl_X8_81 rfl rfl ⟨Nat.le_of_ble_eq_true rfl, Nat.le_of_ble_eq_true rfl⟩ hI hK 9 hL0.1 rfl hl.1 rfl rfl (Nat.le_of_ble_eq_true rfl) dX8_splay_89 ⟨Nat.le_of_ble_eq_true rfl, Nat.le_of_ble_eq_true rfl⟩) hI (fun M H locs hp hI => ?_)
            obtain ⟨hn0, hF⟩ := hp
            generalize heg4 : s_X8_turn z0 p1 = g4 at hn0 hR
            have hn := hn0
            have hL0 := hn
            have hS := hS.tr hF (fun q hq => by omega)
            refine lv_iinc (v := x2h2 + 1) (lv' := [(2, .int (x2h2 + 1)), (4, .int (s_X8_upperOf z0 (s_X8_upperOf z0 p1))), (3, .int (s_X8_upperOf z0 p1)), (0, .ref a), (1, .int p1)]) hx hb dX8_splay_92 hl (k := 4) rfl rfl (by decide) rfl (fun ls hl => ?_)
            refine lv_goto (tgt := 2) hx hb dX8_splay_95 (by decide) ?_
            exact ih2 (x2h2 + 1) g4 (q_mu c1 hm2) hR _ _ _ _ hL0 hS hI (lv_sub hl [3, 4, 0] rfl)
          · rw [if_neg c3] at hR
            refine lv_aload_n hx hb dX8_splay_34 rfl (lv_at hl 2 rfl) ?_
            refine lv_iload_n hx hb dX8_splay_35 rfl (lv_at hl 1 rfl) ?_
            refine q_goR (q_runV (As := [.int (s_X8_upperOf z0 p1)]) (rest := []) hx hb hml hown hg (c_X8_leftOf l D cs hL0 (s_X8_upperOf z0 p1)) v_X8_leftOf wl_X8_71 rfl rfl ⟨Nat.le_of_ble_eq_true rfl, Nat.le_of_ble_eq_true rfl⟩ hI hK 9 hL0.1 rfl hl.1 rfl rfl (Nat.le_of_ble_eq_true rfl) dX8_splay_36 ⟨Nat.le_of_ble_eq_true rfl, Nat.le_of_ble_eq_true rfl⟩) hI (fun H locs hI => ?_)
            refine lv_iload_n hx hb dX8_splay_39 rfl (lv_at hl 3 rfl) ?_
            refine lv_icmp_ne (tgt := 47) hx hb dX8_splay_40 (by decide) (fun c5 => ?_) (fun c5 => ?_)
            · rw [if_neg c5] at hR
              refine lv_iconst (v := 0) hx hb dX8_splay_47 (by decide) ?_
              refine lv_aload_n hx hb dX8_splay_48 rfl (lv_at hl 2 rfl) ?_
              refine lv_iload hx hb dX8_splay_49 (lv_at hl 0 rfl) ?_
              refine q_goR (q_runV (As := [.int (s_X8_upperOf z0 (s_X8_upperOf z0 p1))]) (rest := [.int 0]) hx hb hml hown hg (c_X8_leftOf l D cs hL0 (s_X8_upperOf z0 (s_X8_upperOf z0 p1))) v_X8_leftOf wl_X8_71 rfl rfl ⟨Nat.le_of_ble_eq_true rfl, Nat.le_of_ble_eq_true rfl⟩ hI hK 9 hL0.1 rfl hl.1 rfl rfl (Nat.le_of_ble_eq_true rfl) dX8_splay_51 ⟨Nat.le_of_ble_eq_true rfl, Nat.le_of_ble_eq_true rfl⟩) hI (fun H locs hI => ?_)
              refine lv_iload_n hx hb dX8_splay_54 rfl (lv_at hl 1 rfl) ?_
              refine lv_icmp_ne (tgt := 62) hx hb dX8_splay_55 (by decide) (fun c6 => ?_) (fun c6 => ?_)
              · rw [if_neg c6] at hR
                refine lv_iconst (v := 0) hx hb dX8_splay_62 (by decide) ?_
                refine lv_icmp_ne (tgt := 70) hx hb dX8_splay_63 (by decide) (fun c7 => absurd c7 (by decide)) (fun c7 => ?_)
                refine lv_iconst (v := 1) hx hb dX8_splay_66 (by decide) ?_
                refine lv_goto (tgt := 71) hx hb dX8_splay_67 (by decide) ?_
                refine lv_istore (lv' := [(5, .int 1), (4, .int (s_X8_upperOf z0 (s_X8_upperOf z0 p1))), (3, .int (s_X8_upperOf z0 p1)), (0, .ref a), (1, .int p1), (2, .int x2h2)]) hx hb dX8_splay_71 hl (by decide) rfl (fun ls hl => ?_)
                refine lv_aload_n hx hb dX8_splay_73 rfl (lv_at hl 3 rfl) ?_
                refine lv_iload hx hb dX8_splay_74 (lv_at hl 0 rfl) ?_
                refine lv_if_eq (tgt := 83) hx hb dX8_splay_76 (by decide) (fun c8 => absurd c8 (by decide)) (fun c8 => ?_)
                refine lv_iload_n hx hb dX8_splay_79 rfl (lv_at hl 2 rfl) ?_
                refine lv_goto (tgt := 84) hx hb dX8_splay_80 (by decide) ?_
                refine q_goN (q_runV (As := [.int (s_X8_upperOf z0 p1)]) (rest := []) hx hb hml hown hg (c_X8_turn l D cs hL0 (s_X8_upperOf z0 p1)) v_X8_turn wl_X8_81 rfl rfl ⟨Nat.le_of_ble_eq_true rfl, Nat.le_of_ble_eq_true rfl⟩ hI hK 9 hL0.1 rfl hl.1 rfl rfl (Nat.le_of_ble_eq_true rfl) dX8_splay_84 ⟨Nat.le_of_ble_eq_true rfl, Nat.le_of_ble_eq_true rfl⟩) hI (fun M H locs hp hI => ?_)
                obtain ⟨hn0, hF⟩ := hp
                generalize heg9 : s_X8_turn z0 (s_X8_upperOf z0 p1) = g9 at hn0 hR
                have hn := hn0
                have hL0 := hn
                have hS := hS.tr hF (fun q hq => by omega)
                refine lv_aload_n hx hb dX8_splay_87 rfl (lv_at hl 3 rfl) ?_
                refine lv_iload_n hx hb dX8_splay_88 rfl (lv_at hl 4 rfl) ?_
                refine q_goN (q_runV (As := [.int p1]) (rest := []) hx hb hml hown hg (c_X8_turn l D cs hL0 p1) v_X8_turn wl_X8_81 rfl rfl ⟨Nat.le_of_ble_eq_true rfl, Nat.le_of_ble_eq_true rfl⟩ hI hK 9 hL0.1 rfl hl.1 rfl rfl (Nat.le_of_ble_eq_true rfl) dX8_splay_89 ⟨Nat.le_of_ble_eq_true rfl, Nat.le_of_ble_eq_true rfl⟩) hI (fun M H locs hp hI => ?_)
                obtain ⟨hn0, hF⟩ := hp
                generalize heg10 : s_X8_turn g9 p1 = g10 at hn0 hR
                have hn := hn0
                have hL0 := hn
                have hS := hS.tr hF (fun q hq => by omega)
                refine lv_iinc (v := x2h2 + 1) (lv' := [(2, .int (x2h2 + 1)), (5, .int 1), (4, .int (s_X8_upperOf z0 (s_X8_upperOf z0 p1))), (3, .int (s_X8_upperOf z0 p1)), (0, .ref a), (1, .int p1)]) hx hb dX8_splay_92 hl (k := 5) rfl rfl (by decide) rfl (fun ls hl => ?_)
                refine lv_goto (tgt := 2) hx hb dX8_splay_95 (by decide) ?_
                exact ih2 (x2h2 + 1) g10 (q_mu c1 hm2) hR _ _ _ _ hL0 hS hI (lv_sub hl [4, 5, 0] rfl)
              · rw [if_pos c6] at hR
                refine lv_iconst (v := 1) hx hb dX8_splay_58 (by decide) ?_
                refine lv_goto (tgt := 63) hx hb dX8_splay_59 (by decide) ?_
                refine lv_icmp_ne (tgt := 70) hx hb dX8_splay_63 (by decide) (fun c11 => ?_) (fun c11 => absurd c11 (by decide))
                refine lv_iconst (v := 0) hx hb dX8_splay_70 (by decide) ?_
                refine lv_istore (lv' := [(5, .int 0), (4, .int (s_X8_upperOf z0 (s_X8_upperOf z0 p1))), (3, .int (s_X8_upperOf z0 p1)), (0, .ref a), (1, .int p1), (2, .int x2h2)]) hx hb dX8_splay_71 hl (by decide) rfl (fun ls hl => ?_)
                refine lv_aload_n hx hb dX8_splay_73 rfl (lv_at hl 3 rfl) ?_
                refine lv_iload hx hb dX8_splay_74 (lv_at hl 0 rfl) ?_
                refine lv_if_eq (tgt := 83) hx hb dX8_splay_76 (by decide) (fun c12 => ?_) (fun c12 => absurd c12 (by decide))
                refine lv_iload_n hx hb dX8_splay_83 rfl (lv_at hl 4 rfl) ?_
                refine q_goN (q_runV (As := [.int p1]) (rest := []) hx hb hml hown hg (c_X8_turn l D cs hL0 p1) v_X8_turn wl_X8_81 rfl rfl ⟨Nat.le_of_ble_eq_true rfl, Nat.le_of_ble_eq_true rfl⟩ hI hK 9 hL0.1 rfl hl.1 rfl rfl (Nat.le_of_ble_eq_true rfl) dX8_splay_84 ⟨Nat.le_of_ble_eq_true rfl, Nat.le_of_ble_eq_true rfl⟩) hI (fun M H locs hp hI => ?_)
                obtain ⟨hn0, hF⟩ := hp
                generalize heg13 : s_X8_turn z0 p1 = g13 at hn0 hR
                have hn := hn0
                have hL0 := hn
                have hS := hS.tr hF (fun q hq => by omega)
                refine lv_aload_n hx hb dX8_splay_87 rfl (lv_at hl 3 rfl) ?_
                refine lv_iload_n hx hb dX8_splay_88 rfl (lv_at hl 4 rfl) ?_
                refine q_goN (q_runV (As := [.int p1]) (rest := []) hx hb hml hown hg (c_X8_turn l D cs hL0 p1) v_X8_turn wl_X8_81 rfl rfl ⟨Nat.le_of_ble_eq_true rfl, Nat.le_of_ble_eq_true rfl⟩ hI hK 9 hL0.1 rfl hl.1 rfl rfl (Nat.le_of_ble_eq_true rfl) dX8_splay_89 ⟨Nat.le_of_ble_eq_true rfl, Nat.le_of_ble_eq_true rfl⟩) hI (fun M H locs hp hI => ?_)
                obtain ⟨hn0, hF⟩ := hp
                generalize heg14 : s_X8_turn g13 p1 = g14 at hn0 hR
                have hn := hn0
                have hL0 := hn
                have hS := hS.tr hF (fun q hq => by omega)
                refine lv_iinc (v := x2h2 + 1) (lv' := [(2, .int (x2h2 + 1)), (5, .int 0), (4, .int (s_X8_upperOf z0 (s_X8_upperOf z0 p1))), (3, .int (s_X8_upperOf z0 p1)), (0, .ref a), (1, .int p1)]) hx hb dX8_splay_92 hl (k := 5) rfl rfl (by decide) rfl (fun ls hl => ?_)
                refine lv_goto (tgt := 2) hx hb dX8_splay_95 (by decide) ?_
                exact ih2 (x2h2 + 1) g14 (q_mu c1 hm2) hR _ _ _ _ hL0 hS hI (lv_sub hl [4, 5, 0] rfl)
            · rw [if_pos c5] at hR
              refine lv_iconst (v := 1) hx hb dX8_splay_43 (by decide) ?_
              refine lv_goto (tgt := 48) hx hb dX8_splay_44 (by decide) ?_
              refine lv_aload_n hx hb dX8_splay_48 rfl (lv_at hl 2 rfl) ?_
              refine lv_iload hx hb dX8_splay_49 (lv_at hl 0 rfl) ?_
              refine q_goR (q_runV (As := [.int (s_X8_upperOf z0 (s_X8_upperOf z0 p1))]) (rest := [.int 1]) hx hb hml hown hg (c_X8_leftOf l D cs hL0 (s_X8_upperOf z0 (s_X8_upperOf z0 p1))) v_X8_leftOf wl_X8_71 rfl rfl ⟨Nat.le_of_ble_eq_true rfl, Nat.le_of_ble_eq_true rfl⟩ hI hK 9 hL0.1 rfl hl.1 rfl rfl (Nat.le_of_ble_eq_true rfl) dX8_splay_51 ⟨Nat.le_of_ble_eq_true rfl, Nat.le_of_ble_eq_true rfl⟩) hI (fun H locs hI => ?_)
              refine lv_iload_n hx hb dX8_splay_54 rfl (lv_at hl 1 rfl) ?_
              refine lv_icmp_ne (tgt := 62) hx hb dX8_splay_55 (by decide) (fun c15 => ?_) (fun c15 => ?_)
              · rw [if_neg c15] at hR
                refine lv_iconst (v := 0) hx hb dX8_splay_62 (by decide) ?_
                refine lv_icmp_ne (tgt := 70) hx hb dX8_splay_63 (by decide) (fun c16 => ?_) (fun c16 => absurd c16 (by decide))
                refine lv_iconst (v := 0) hx hb dX8_splay_70 (by decide) ?_
                refine lv_istore (lv' := [(5, .int 0), (4, .int (s_X8_upperOf z0 (s_X8_upperOf z0 p1))), (3, .int (s_X8_upperOf z0 p1)), (0, .ref a), (1, .int p1), (2, .int x2h2)]) hx hb dX8_splay_71 hl (by decide) rfl (fun ls hl => ?_)
                refine lv_aload_n hx hb dX8_splay_73 rfl (lv_at hl 3 rfl) ?_
                refine lv_iload hx hb dX8_splay_74 (lv_at hl 0 rfl) ?_
                refine lv_if_eq (tgt := 83) hx hb dX8_splay_76 (by decide) (fun c17 => ?_) (fun c17 => absurd c17 (by decide))
                refine lv_iload_n hx hb dX8_splay_83 rfl (lv_at hl 4 rfl) ?_
                refine q_goN (q_runV (As := [.int p1]) (rest := []) hx hb hml hown hg (c_X8_turn l D cs hL0 p1) v_X8_turn wl_X8_81 rfl rfl ⟨Nat.le_of_ble_eq_true rfl, Nat.le_of_ble_eq_true rfl⟩ hI hK 9 hL0.1 rfl hl.1 rfl rfl (Nat.le_of_ble_eq_true rfl) dX8_splay_84 ⟨Nat.le_of_ble_eq_true rfl, Nat.le_of_ble_eq_true rfl⟩) hI (fun M H locs hp hI => ?_)
                obtain ⟨hn0, hF⟩ := hp
                generalize heg18 : s_X8_turn z0 p1 = g18 at hn0 hR
                have hn := hn0
                have hL0 := hn
                have hS := hS.tr hF (fun q hq => by omega)
                refine lv_aload_n hx hb dX8_splay_87 rfl (lv_at hl 3 rfl) ?_
                refine lv_iload_n hx hb dX8_splay_88 rfl (lv_at hl 4 rfl) ?_
                refine q_goN (q_runV (As := [.int p1]) (rest := []) hx hb hml hown hg (c_X8_turn l D cs hL0 p1) v_X8_turn wl_X8_81 rfl rfl ⟨Nat.le_of_ble_eq_true rfl, Nat.le_of_ble_eq_true rfl⟩ hI hK 9 hL0.1 rfl hl.1 rfl rfl (Nat.le_of_ble_eq_true rfl) dX8_splay_89 ⟨Nat.le_of_ble_eq_true rfl, Nat.le_of_ble_eq_true rfl⟩) hI (fun M H locs hp hI => ?_)
                obtain ⟨hn0, hF⟩ := hp
                generalize heg19 : s_X8_turn g18 p1 = g19 at hn0 hR
                have hn := hn0
                have hL0 := hn
                have hS := hS.tr hF (fun q hq => by omega)
                refine lv_iinc (v := x2h2 + 1) (lv' := [(2, .int (x2h2 + 1)), (5, .int 0), (4, .int (s_X8_upperOf z0 (s_X8_upperOf z0 p1))), (3, .int (s_X8_upperOf z0 p1)), (0, .ref a), (1, .int p1)]) hx hb dX8_splay_92 hl (k := 5) rfl rfl (by decide) rfl (fun ls hl => ?_)
                refine lv_goto (tgt := 2) hx hb dX8_splay_95 (by decide) ?_
                exact ih2 (x2h2 + 1) g19 (q_mu c1 hm2) hR _ _ _ _ hL0 hS hI (lv_sub hl [4, 5, 0] rfl)
              · rw [if_pos c15] at hR
                refine lv_iconst (v := 1) hx hb dX8_splay_58 (by decide) ?_
                refine lv_goto (tgt := 63) hx hb dX8_splay_59 (by decide) ?_
                refine lv_icmp_ne (tgt := 70) hx hb dX8_splay_63 (by decide) (fun c20 => absurd c20 (by decide)) (fun c20 => ?_)
                refine lv_iconst (v := 1) hx hb dX8_splay_66 (by decide) ?_
                refine lv_goto (tgt := 71) hx hb dX8_splay_67 (by decide) ?_
                refine lv_istore (lv' := [(5, .int 1), (4, .int (s_X8_upperOf z0 (s_X8_upperOf z0 p1))), (3, .int (s_X8_upperOf z0 p1)), (0, .ref a), (1, .int p1), (2, .int x2h2)]) hx hb dX8_splay_71 hl (by decide) rfl (fun ls hl => ?_)
                refine lv_aload_n hx hb dX8_splay_73 rfl (lv_at hl 3 rfl) ?_
                refine lv_iload hx hb dX8_splay_74 (lv_at hl 0 rfl) ?_
                refine lv_if_eq (tgt := 83) hx hb dX8_splay_76 (by decide) (fun c21 => absurd c21 (by decide)) (fun c21 => ?_)
                refine lv_iload_n hx hb dX8_splay_79 rfl (lv_at hl 2 rfl) ?_
                refine lv_goto (tgt := 84) hx hb dX8_splay_80 (by decide) ?_
                refine q_goN (q_runV (As := [.int (s_X8_upperOf z0 p1)]) (rest := []) hx hb hml hown hg (c_X8_turn l D cs hL0 (s_X8_upperOf z0 p1)) v_X8_turn wl_X8_81 rfl rfl ⟨Nat.le_of_ble_eq_true rfl, Nat.le_of_ble_eq_true rfl⟩ hI hK 9 hL0.1 rfl hl.1 rfl rfl (Nat.le_of_ble_eq_true rfl) dX8_splay_84 ⟨Nat.le_of_ble_eq_true rfl, Nat.le_of_ble_eq_true rfl⟩) hI (fun M H locs hp hI => ?_)
                obtain ⟨hn0, hF⟩ := hp
                generalize heg22 : s_X8_turn z0 (s_X8_upperOf z0 p1) = g22 at hn0 hR
                have hn := hn0
                have hL0 := hn
                have hS := hS.tr hF (fun q hq => by omega)
                refine lv_aload_n hx hb dX8_splay_87 rfl (lv_at hl 3 rfl) ?_
                refine lv_iload_n hx hb dX8_splay_88 rfl (lv_at hl 4 rfl) ?_
                refine q_goN (q_runV (As := [.int p1]) (rest := []) hx hb hml hown hg (c_X8_turn l D cs hL0 p1) v_X8_turn wl_X8_81 rfl rfl ⟨Nat.le_of_ble_eq_true rfl, Nat.le_of_ble_eq_true rfl⟩ hI hK 9 hL0.1 rfl hl.1 rfl rfl (Nat.le_of_ble_eq_true rfl) dX8_splay_89 ⟨Nat.le_of_ble_eq_true rfl, Nat.le_of_ble_eq_true rfl⟩) hI (fun M H locs hp hI => ?_)
                obtain ⟨hn0, hF⟩ := hp
                generalize heg23 : s_X8_turn g22 p1 = g23 at hn0 hR
                have hn := hn0
                have hL0 := hn
                have hS := hS.tr hF (fun q hq => by omega)
                refine lv_iinc (v := x2h2 + 1) (lv' := [(2, .int (x2h2 + 1)), (5, .int 1), (4, .int (s_X8_upperOf z0 (s_X8_upperOf z0 p1))), (3, .int (s_X8_upperOf z0 p1)), (0, .ref a), (1, .int p1)]) hx hb dX8_splay_92 hl (k := 5) rfl rfl (by decide) rfl (fun ls hl => ?_)
                refine lv_goto (tgt := 2) hx hb dX8_splay_95 (by decide) ?_
                exact ih2 (x2h2 + 1) g23 (q_mu c1 hm2) hR _ _ _ _ hL0 hS hI (lv_sub hl [4, 5, 0] rfl)
  exact loop2 _ 0 v (q_fuel _) hR _ _ _ _ hL0 hS hI (lv_sub hl [1, 2, 0] rfl)
def s_X8_takeLeftOff (v : qTV) (p1 : Int32) : qTV := ((rowPut v.1 p1 (-1)), v.2.1, (rowPut v.2.2.1 (s_X8_leftOf v p1) (-1)), v.2.2.2)
set_option maxHeartbeats 4000000 in
set_option maxRecDepth 20000 in
theorem c_X8_takeLeftOff (l : Launch) (D : va_G) (cs : qC) {M0 : qM} {N a : Nat} {v : qTV} (hL0 : qLT cs M0 a v) (p1 : Int32) :
    qMet l D cs yX8_takeLeftOff (qws yX8_takeLeftOff cX8_takeLeftOff 2 none) ({ frames := 2, cells := 0, slots := 0, locals := 42 } : Room) M0 N [.ref a, .int p1] (qMod N none (fun M' => qLT cs M' a (s_X8_takeLeftOff v p1) ∧ qFr (qIn a 4) M0 M')) 0 0 := by
  obtain ⟨R, hR⟩ : ∃ R, s_X8_takeLeftOff v p1 = R := ⟨_, rfl⟩
  rw [hR]
  rw [s_X8_takeLeftOff] at hR
  refine q_head (by decide) ?_ (Nat.le_of_ble_eq_true rfl)
  intro p e s m below meth c ls hx hb hret hlk hml hown hnm hg hK hN hI hl
  have hl : lv_has ls 2 [(0, .ref a), (1, .int p1)] := hl
  have hS : qFr (qIn a 4) M0 M0 := qFr.rf
  refine lv_aload_n hx hb dX8_takeLeftOff_0 rfl (lv_at hl 0 rfl) ?_
  refine q_get hx hb hg in_X8 hown hK hI hL0.1 rfl 2 (by decide) (hg _ wf_X8_18) (fun _ h9 => h9) rfl dX8_takeLeftOff_1 ?_
  refine lv_aload_n hx hb dX8_takeLeftOff_4 rfl (lv_at hl 0 rfl) ?_
  refine lv_iload_n hx hb dX8_takeLeftOff_5 rfl (lv_at hl 1 rfl) ?_
  refine q_goR (q_runV (As := [.int p1]) (rest := [.ref (a + 3)]) hx hb hml hown hg (c_X8_leftOf l D cs hL0 p1) v_X8_leftOf wl_X8_71 rfl rfl ⟨Nat.le_of_ble_eq_true rfl, Nat.le_of_ble_eq_true rfl⟩ hI hK 9 hL0.1 rfl hl.1 rfl rfl (Nat.le_of_ble_eq_true rfl) dX8_takeLeftOff_6 ⟨Nat.le_of_ble_eq_true rfl, Nat.le_of_ble_eq_true rfl⟩) hI (fun H locs hI => ?_)
  refine lv_iconst (v := (-1)) hx hb dX8_takeLeftOff_9 (by decide) ?_
  refine q_goN (q_runSN (As := [.ref (a + 3), .int (s_X8_leftOf v p1), .int (-1)]) (rest := []) hx hb hml hown hg (c_X10_put l D cs hL0.2.2.2 (s_X8_leftOf v p1) (-1)) v_X10_put (hK.2 _ (List.mem_of_getElem? (i := 36) rfl)) rfl rfl ⟨Nat.le_of_ble_eq_true rfl, Nat.le_of_ble_eq_true rfl⟩ hI hK hl.1 rfl rfl (Nat.le_of_ble_eq_true rfl) dX8_takeLeftOff_10 ⟨Nat.le_of_ble_eq_true rfl, Nat.le_of_ble_eq_true rfl⟩) hI (fun M H locs hp hI => ?_)
  obtain ⟨hn0, hF⟩ := hp
  generalize heg1 : rowPut v.2.2.1 (s_X8_leftOf v p1) (-1) = g1 at hn0 hR
  have hn := hn0
  have hn : qLT cs M a (v.1, v.2.1, g1, v.2.2.2) := qLT.s2 (v := v) hL0 hn (qFr.rf.tr hF (fun q hq => by omega))
  have hL0 := hn
  have hS := hS.tr hF (fun q hq => by omega)
  refine lv_aload_n hx hb dX8_takeLeftOff_13 rfl (lv_at hl 0 rfl) ?_
  refine q_get hx hb hg in_X8 hown hK hI hL0.1 rfl 0 (by decide) (hg _ wf_X8_9) (fun _ h9 => h9) rfl dX8_takeLeftOff_14 ?_
  refine lv_iload_n hx hb dX8_takeLeftOff_17 rfl (lv_at hl 1 rfl) ?_
  refine lv_iconst (v := (-1)) hx hb dX8_takeLeftOff_18 (by decide) ?_
  refine q_goN (q_runSN (As := [.ref (a + 1), .int p1, .int (-1)]) (rest := []) hx hb hml hown hg (c_X10_put l D cs hL0.2.1 p1 (-1)) v_X10_put (hK.2 _ (List.mem_of_getElem? (i := 36) rfl)) rfl rfl ⟨Nat.le_of_ble_eq_true rfl, Nat.le_of_ble_eq_true rfl⟩ hI hK hl.1 rfl rfl (Nat.le_of_ble_eq_true rfl) dX8_takeLeftOff_19 ⟨Nat.le_of_ble_eq_true rfl, Nat.le_of_ble_eq_true rfl⟩) hI (fun M H locs hp hI => ?_)
  obtain ⟨hn0, hF⟩ := hp
  generalize heg2 : rowPut v.1 p1 (-1) = g2 at hn0 hR
  have hn := hn0
  have hn : qLT cs M a (g2, v.2.1, g1, v.2.2.2) := qLT.s0 (v := (v.1, v.2.1, g1, v.2.2.2)) hL0 hn (qFr.rf.tr hF (fun q hq => by omega))
  have hL0 := hn
  have hS := hS.tr hF (fun q hq => by omega)
  exact q_vret (st := []) hx hb hret hlk hN hI (by subst hR; exact ⟨rfl, ⟨hL0, hS⟩, rfl⟩) dX8_takeLeftOff_22
def s_X8_takeRightOff (v : qTV) (p1 : Int32) : qTV := (v.1, (rowPut v.2.1 p1 (-1)), (rowPut v.2.2.1 (s_X8_rightOf v p1) (-1)), v.2.2.2)
set_option maxHeartbeats 4000000 in
set_option maxRecDepth 20000 in
theorem c_X8_takeRightOff (l : Launch) (D : va_G) (cs : qC) {M0 : qM} {N a : Nat} {v : qTV} (hL0 : qLT cs M0 a v) (p1 : Int32) :
    qMet l D cs yX8_takeRightOff (qws yX8_takeRightOff cX8_takeRightOff 2 none) ({ frames := 2, cells := 0, slots := 0, locals := 42 } : Room) M0 N [.ref a, .int p1] (qMod N none (fun M' => qLT cs M' a (s_X8_takeRightOff v p1) ∧ qFr (qIn a 4) M0 M')) 0 0 := by
  obtain ⟨R, hR⟩ : ∃ R, s_X8_takeRightOff v p1 = R := ⟨_, rfl⟩
  rw [hR]
  rw [s_X8_takeRightOff] at hR
  refine q_head (by decide) ?_ (Nat.le_of_ble_eq_true rfl)
  intro p e s m below meth c ls hx hb hret hlk hml hown hnm hg hK hN hI hl
  have hl : lv_has ls 2 [(0, .ref a), (1, .int p1)] := hl
  have hS : qFr (qIn a 4) M0 M0 := qFr.rf
  refine lv_aload_n hx hb dX8_takeRightOff_0 rfl (lv_at hl 0 rfl) ?_
  refine q_get hx hb hg in_X8 hown hK hI hL0.1 rfl 2 (by decide) (hg _ wf_X8_18) (fun _ h9 => h9) rfl dX8_takeRightOff_1 ?_
  refine lv_aload_n hx hb dX8_takeRightOff_4 rfl (lv_at hl 0 rfl) ?_
  refine lv_iload_n hx hb dX8_takeRightOff_5 rfl (lv_at hl 1 rfl) ?_
  refine q_goR (q_runV (As := [.int p1]) (rest := [.ref (a + 3)]) hx hb hml hown hg (c_X8_rightOf l D cs hL0 p1) v_X8_rightOf wl_X8_85 rfl rfl ⟨Nat.le_of_ble_eq_true rfl, Nat.le_of_ble_eq_true rfl⟩ hI hK 9 hL0.1 rfl hl.1 rfl rfl (Nat.le_of_ble_eq_true rfl) dX8_takeRightOff_6 ⟨Nat.le_of_ble_eq_true rfl, Nat.le_of_ble_eq_true rfl⟩) hI (fun H locs hI => ?_)
  refine lv_iconst (v := (-1)) hx hb dX8_takeRightOff_9 (by decide) ?_
  refine q_goN (q_runSN (As := [.ref (a + 3), .int (s_X8_rightOf v p1), .int (-1)]) (rest := []) hx hb hml hown hg (c_X10_put l D cs hL0.2.2.2 (s_X8_rightOf v p1) (-1)) v_X10_put (hK.2 _ (List.mem_of_getElem? (i := 36) rfl)) rfl rfl ⟨Nat.le_of_ble_eq_true rfl, Nat.le_of_ble_eq_true rfl⟩ hI hK hl.1 rfl rfl (Nat.le_of_ble_eq_true rfl) dX8_takeRightOff_10 ⟨Nat.le_of_ble_eq_true rfl, Nat.le_of_ble_eq_true rfl⟩) hI (fun M H locs hp hI => ?_)
  obtain ⟨hn0, hF⟩ := hp
  generalize heg1 : rowPut v.2.2.1 (s_X8_rightOf v p1) (-1) = g1 at hn0 hR
  have hn := hn0
  have hn : qLT cs M a (v.1, v.2.1, g1, v.2.2.2) := qLT.s2 (v := v) hL0 hn (qFr.rf.tr hF (fun q hq => by omega))
  have hL0 := hn
  have hS := hS.tr hF (fun q hq => by omega)
  refine lv_aload_n hx hb dX8_takeRightOff_13 rfl (lv_at hl 0 rfl) ?_
  refine q_get hx hb hg in_X8 hown hK hI hL0.1 rfl 1 (by decide) (hg _ wf_X8_15) (fun _ h9 => h9) rfl dX8_takeRightOff_14 ?_
  refine lv_iload_n hx hb dX8_takeRightOff_17 rfl (lv_at hl 1 rfl) ?_
  refine lv_iconst (v := (-1)) hx hb dX8_takeRightOff_18 (by decide) ?_
  refine q_goN (q_runSN (As := [.ref (a + 2), .int p1, .int (-1)]) (rest := []) hx hb hml hown hg (c_X10_put l D cs hL0.2.2.1 p1 (-1)) v_X10_put (hK.2 _ (List.mem_of_getElem? (i := 36) rfl)) rfl rfl ⟨Nat.le_of_ble_eq_true rfl, Nat.le_of_ble_eq_true rfl⟩ hI hK hl.1 rfl rfl (Nat.le_of_ble_eq_true rfl) dX8_takeRightOff_19 ⟨Nat.le_of_ble_eq_true rfl, Nat.le_of_ble_eq_true rfl⟩) hI (fun M H locs hp hI => ?_)
  obtain ⟨hn0, hF⟩ := hp
  generalize heg2 : rowPut v.2.1 p1 (-1) = g2 at hn0 hR
  have hn := hn0
  have hn : qLT cs M a (v.1, g2, g1, v.2.2.2) := qLT.s1 (v := (v.1, v.2.1, g1, v.2.2.2)) hL0 hn (qFr.rf.tr hF (fun q hq => by omega))
  have hL0 := hn
  have hS := hS.tr hF (fun q hq => by omega)
  exact q_vret (st := []) hx hb hret hlk hN hI (by subst hR; exact ⟨rfl, ⟨hL0, hS⟩, rfl⟩) dX8_takeRightOff_22
def s_X8_joinRight (v : qTV) (p1 : Int32) (p2 : Int32) : qTV := (s_X8_link_r v p1 p2)
set_option maxHeartbeats 4000000 in
set_option maxRecDepth 20000 in
theorem c_X8_joinRight (l : Launch) (D : va_G) (cs : qC) {M0 : qM} {N a : Nat} {v : qTV} (hL0 : qLT cs M0 a v) (p1 : Int32) (p2 : Int32) :
    qMet l D cs yX8_joinRight (qws yX8_joinRight cX8_joinRight 3 none) ({ frames := 2, cells := 0, slots := 0, locals := 45 } : Room) M0 N [.ref a, .int p1, .int p2] (qMod N none (fun M' => qLT cs M' a (s_X8_joinRight v p1 p2) ∧ qFr (qIn a 4) M0 M')) 0 0 := by
  obtain ⟨R, hR⟩ : ∃ R, s_X8_joinRight v p1 p2 = R := ⟨_, rfl⟩
  rw [hR]
  rw [s_X8_joinRight] at hR
  refine q_head (by decide) ?_ (Nat.le_of_ble_eq_true rfl)
  intro p e s m below meth c ls hx hb hret hlk hml hown hnm hg hK hN hI hl
  have hl : lv_has ls 3 [(0, .ref a), (1, .int p1), (2, .int p2)] := hl
  have hS : qFr (qIn a 4) M0 M0 := qFr.rf
  refine lv_aload_n hx hb dX8_joinRight_0 rfl (lv_at hl 0 rfl) ?_
  refine lv_aload_n hx hb dX8_joinRight_1 rfl (lv_at hl 0 rfl) ?_
  refine q_get hx hb hg in_X8 hown hK hI hL0.1 rfl 1 (by decide) (hg _ wf_X8_15) (fun _ h9 => h9) rfl dX8_joinRight_2 ?_
  refine lv_iload_n hx hb dX8_joinRight_5 rfl (lv_at hl 1 rfl) ?_
  refine lv_iload_n hx hb dX8_joinRight_6 rfl (lv_at hl 2 rfl) ?_
  refine q_goN (q_runV (As := [.ref (a + 2), .int p1, .int p2]) (rest := []) hx hb hml hown hg (c_X8_link_r l D cs hL0 p1 p2) v_X8_link wl_X8_74 rfl rfl ⟨Nat.le_of_ble_eq_true rfl, Nat.le_of_ble_eq_true rfl⟩ hI hK 9 hL0.1 rfl hl.1 rfl rfl (Nat.le_of_ble_eq_true rfl) dX8_joinRight_7 ⟨Nat.le_of_ble_eq_true rfl, Nat.le_of_ble_eq_true rfl⟩) hI (fun M H locs hp hI => ?_)
  obtain ⟨hn0, hF⟩ := hp
  generalize heg1 : s_X8_link_r v p1 p2 = g1 at hn0 hR
  have hn := hn0
  have hL0 := hn
  have hS := hS.tr hF (fun q hq => by omega)
  exact q_vret (st := []) hx hb hret hlk hN hI (by subst hR; exact ⟨rfl, ⟨hL0, hS⟩, rfl⟩) dX8_joinRight_10
end
section
def s_X7_makeEmpty (v : qSV)  : qSV := ((rowFill v.1 (-1)), (rowFill v.2.1 0), (rowFill v.2.2.1 0), (rowFill v.2.2.2.1 0), 0)
set_option maxHeartbeats 4000000 in
set_option maxRecDepth 20000 in
theorem c_X7_makeEmpty (l : Launch) (D : va_G) (cs : qC) {M0 : qM} {N a : Nat} {v : qSV} (hL0 : qLS cs M0 a v) :
    qMet l D cs yX7_makeEmpty (qws yX7_makeEmpty cX7_makeEmpty 1 none) ({ frames := 1, cells := 0, slots := 0, locals := 22 } : Room) M0 N [.ref a] (qMod N none (fun M' => qLS cs M' a (s_X7_makeEmpty v) ∧ qFr (qIn a 5) M0 M')) 0 0 := by
  obtain ⟨R, hR⟩ : ∃ R, s_X7_makeEmpty v = R := ⟨_, rfl⟩
  rw [hR]
  rw [s_X7_makeEmpty] at hR
  refine q_head (by decide) ?_ (Nat.le_of_ble_eq_true rfl)
  intro p e s m below meth c ls hx hb hret hlk hml hown hnm hg hK hN hI hl
  have hl : lv_has ls 1 [(0, .ref a)] := hl
  have hS : qFr (qIn a 5) M0 M0 := qFr.rf
  refine lv_aload_n hx hb dX7_makeEmpty_0 rfl (lv_at hl 0 rfl) ?_
  refine lv_iconst (v := 0) hx hb dX7_makeEmpty_1 (by decide) ?_
  have hn := qLS.i4 0 hL0
  refine q_put (v := .int 0) hx hb hg in_X7 tyX7_ok nmX7 hown hK hI hL0.1 rfl 4 (by decide) (hg _ wf_X7_24) (fun _ h9 => h9) rfl rfl rfl (Nat.le_of_ble_eq_true rfl) dX7_makeEmpty_2 (fun H locs hI => ?_)
  obtain ⟨M, hn, hF, hI⟩ : ∃ Mx : qM, qLS cs Mx a (v.1, v.2.1, v.2.2.1, v.2.2.2.1, 0) ∧ qFr (qIn a 1) M0 Mx ∧ qI D M0 s.heap Mx N H locs := ⟨_, hn, qFr.up (by decide), hI⟩
  have hL0 := hn
  have hS := hS.tr hF (fun q hq => by omega)
  refine lv_aload_n hx hb dX7_makeEmpty_5 rfl (lv_at hl 0 rfl) ?_
  refine q_get hx hb hg in_X7 hown hK hI hL0.1 rfl 0 (by decide) (hg _ wf_X7_9) (fun _ h9 => h9) rfl dX7_makeEmpty_6 ?_
  refine lv_iconst (v := (-1)) hx hb dX7_makeEmpty_9 (by decide) ?_
  refine q_goN (q_runSN (As := [.ref (a + 1), .int (-1)]) (rest := []) hx hb hml hown hg (c_X10_fill l D cs hL0.2.1 (-1)) v_X10_fill (hK.2 _ (List.mem_of_getElem? (i := 11) rfl)) rfl rfl ⟨Nat.le_of_ble_eq_true rfl, Nat.le_of_ble_eq_true rfl⟩ hI hK hl.1 rfl rfl (Nat.le_of_ble_eq_true rfl) dX7_makeEmpty_10 ⟨Nat.le_of_ble_eq_true rfl, Nat.le_of_ble_eq_true rfl⟩) hI (fun M H locs hp hI => ?_)
  obtain ⟨hn0, hF⟩ := hp
  generalize heg1 : rowFill v.1 (-1) = g1 at hn0 hR
  have hn := hn0
  have hn : qLS cs M a (g1, v.2.1, v.2.2.1, v.2.2.2.1, 0) := qLS.s0 (v := (v.1, v.2.1, v.2.2.1, v.2.2.2.1, 0)) hL0 hn (qFr.rf.tr hF (fun q hq => by omega))
  have hL0 := hn
  have hS := hS.tr hF (fun q hq => by omega)
  refine lv_aload_n hx hb dX7_makeEmpty_13 rfl (lv_at hl 0 rfl) ?_
  refine q_get hx hb hg in_X7 hown hK hI hL0.1 rfl 1 (by decide) (hg _ wf_X7_15) (fun _ h9 => h9) rfl dX7_makeEmpty_14 ?_
  refine lv_iconst (v := 0) hx hb dX7_makeEmpty_17 (by decide) ?_
  refine q_goN (q_runSN (As := [.ref (a + 2), .int 0]) (rest := []) hx hb hml hown hg (c_X10_fill l D cs hL0.2.2.1 0) v_X10_fill (hK.2 _ (List.mem_of_getElem? (i := 11) rfl)) rfl rfl ⟨Nat.le_of_ble_eq_true rfl, Nat.le_of_ble_eq_true rfl⟩ hI hK hl.1 rfl rfl (Nat.le_of_ble_eq_true rfl) dX7_makeEmpty_18 ⟨Nat.le_of_ble_eq_true rfl, Nat.le_of_ble_eq_true rfl⟩) hI (fun M H locs hp hI => ?_)
  obtain ⟨hn0, hF⟩ := hp
  generalize heg2 : rowFill v.2.1 0 = g2 at hn0 hR
  have hn := hn0
  have hn : qLS cs M a (g1, g2, v.2.2.1, v.2.2.2.1, 0) := qLS.s1 (v := (g1, v.2.1, v.2.2.1, v.2.2.2.1, 0)) hL0 hn (qFr.rf.tr hF (fun q hq => by omega))
  have hL0 := hn
  have hS := hS.tr hF (fun q hq => by omega)
  refine lv_aload_n hx hb dX7_makeEmpty_21 rfl (lv_at hl 0 rfl) ?_
  refine q_get hx hb hg in_X7 hown hK hI hL0.1 rfl 2 (by decide) (hg _ wf_X7_18) (fun _ h9 => h9) rfl dX7_makeEmpty_22 ?_
  refine lv_iconst (v := 0) hx hb dX7_makeEmpty_25 (by decide) ?_
  refine q_goN (q_runSN (As := [.ref (a + 3), .int 0]) (rest := []) hx hb hml hown hg (c_X10_fill l D cs hL0.2.2.2.1 0) v_X10_fill (hK.2 _ (List.mem_of_getElem? (i := 11) rfl)) rfl rfl ⟨Nat.le_of_ble_eq_true rfl, Nat.le_of_ble_eq_true rfl⟩ hI hK hl.1 rfl rfl (Nat.le_of_ble_eq_true rfl) dX7_makeEmpty_26 ⟨Nat.le_of_ble_eq_true rfl, Nat.le_of_ble_eq_true rfl⟩) hI (fun M H locs hp hI => ?_)
  obtain ⟨hn0, hF⟩ := hp
  generalize heg3 : rowFill v.2.2.1 0 = g3 at hn0 hR
  have hn := hn0
  have hn : qLS cs M a (g1, g2, g3, v.2.2.2.1, 0) := qLS.s2 (v := (g1, g2, v.2.2.1, v.2.2.2.1, 0)) hL0 hn (qFr.rf.tr hF (fun q hq => by omega))
  have hL0 := hn
  have hS := hS.tr hF (fun q hq => by omega)
  refine lv_aload_n hx hb dX7_makeEmpty_29 rfl (lv_at hl 0 rfl) ?_
  refine q_get hx hb hg in_X7 hown hK hI hL0.1 rfl 3 (by decide) (hg _ wf_X7_21) (fun _ h9 => h9) rfl dX7_makeEmpty_30 ?_
  refine lv_iconst (v := 0) hx hb dX7_makeEmpty_33 (by decide) ?_
  refine q_goN (q_runSN (As := [.ref (a + 4), .int 0]) (rest := []) hx hb hml hown hg (c_X10_fill l D cs hL0.2.2.2.2 0) v_X10_fill (hK.2 _ (List.mem_of_getElem? (i := 11) rfl)) rfl rfl ⟨Nat.le_of_ble_eq_true rfl, Nat.le_of_ble_eq_true rfl⟩ hI hK hl.1 rfl rfl (Nat.le_of_ble_eq_true rfl) dX7_makeEmpty_34 ⟨Nat.le_of_ble_eq_true rfl, Nat.le_of_ble_eq_true rfl⟩) hI (fun M H locs hp hI => ?_)
  obtain ⟨hn0, hF⟩ := hp
  generalize heg4 : rowFill v.2.2.2.1 0 = g4 at hn0 hR
  have hn := hn0
  have hn : qLS cs M a (g1, g2, g3, g4, 0) := qLS.s3 (v := (g1, g2, g3, v.2.2.2.1, 0)) hL0 hn (qFr.rf.tr hF (fun q hq => by omega))
  have hL0 := hn
  have hS := hS.tr hF (fun q hq => by omega)
  exact q_vret (st := []) hx hb hret hlk hN hI (by subst hR; exact ⟨rfl, ⟨hL0, hS⟩, rfl⟩) dX7_makeEmpty_37
def s_X7_add (v : qSV) (p1 : Int32) (p2 : Int32) : Int32 × qSV := (v.2.2.2.2, ((rowPut v.1 v.2.2.2.2 p1), (rowPut v.2.1 v.2.2.2.2 p2), (rowPut v.2.2.1 v.2.2.2.2 0), (rowPut v.2.2.2.1 v.2.2.2.2 0), v.2.2.2.2 + 1))
set_option maxHeartbeats 4000000 in
set_option maxRecDepth 20000 in
theorem c_X7_add (l : Launch) (D : va_G) (cs : qC) {M0 : qM} {N a : Nat} {v : qSV} (hL0 : qLS cs M0 a v) (p1 : Int32) (p2 : Int32) :
    qMet l D cs yX7_add (qws yX7_add cX7_add 4 (some .int)) ({ frames := 1, cells := 0, slots := 0, locals := 22 } : Room) M0 N [.ref a, .int p1, .int p2] (qMod N (some (.int ((s_X7_add v p1 p2).1))) (fun M' => qLS cs M' a ((s_X7_add v p1 p2).2) ∧ qFr (qIn a 5) M0 M')) 0 0 := by
  obtain ⟨R, hR⟩ : ∃ R, s_X7_add v p1 p2 = R := ⟨_, rfl⟩
  rw [hR]
  rw [s_X7_add] at hR
  refine q_head (by decide) ?_ (Nat.le_of_ble_eq_true rfl)
  intro p e s m below meth c ls hx hb hret hlk hml hown hnm hg hK hN hI hl
  have hl : lv_has ls 4 [(0, .ref a), (1, .int p1), (2, .int p2)] := hl
  have hS : qFr (qIn a 5) M0 M0 := qFr.rf
  refine lv_aload_n hx hb dX7_add_0 rfl (lv_at hl 0 rfl) ?_
  refine q_get hx hb hg in_X7 hown hK hI hL0.1 rfl 4 (by decide) (hg _ wf_X7_24) (fun _ h9 => h9) rfl dX7_add_1 ?_
  refine lv_istore_n (lv' := [(3, .int v.2.2.2.2), (0, .ref a), (1, .int p1), (2, .int p2)]) hx hb dX7_add_4 rfl hl (by decide) rfl (fun ls hl => ?_)
  refine lv_aload_n hx hb dX7_add_5 rfl (lv_at hl 1 rfl) ?_
  refine q_get hx hb hg in_X7 hown hK hI hL0.1 rfl 0 (by decide) (hg _ wf_X7_9) (fun _ h9 => h9) rfl dX7_add_6 ?_
  refine lv_iload_n hx hb dX7_add_9 rfl (lv_at hl 0 rfl) ?_
  refine lv_iload_n hx hb dX7_add_10 rfl (lv_at hl 2 rfl) ?_
  refine q_goN (q_runSN (As := [.ref (a + 1), .int v.2.2.2.2, .int p1]) (rest := []) hx hb hml hown hg (c_X10_put l D cs hL0.2.1 v.2.2.2.2 p1) v_X10_put (hK.2 _ (List.mem_of_getElem? (i := 40) rfl)) rfl rfl ⟨Nat.le_of_ble_eq_true rfl, Nat.le_of_ble_eq_true rfl⟩ hI hK hl.1 rfl rfl (Nat.le_of_ble_eq_true rfl) dX7_add_11 ⟨Nat.le_of_ble_eq_true rfl, Nat.le_of_ble_eq_true rfl⟩) hI (fun M H locs hp hI => ?_)
  obtain ⟨hn0, hF⟩ := hp
  generalize heg1 : rowPut v.1 v.2.2.2.2 p1 = g1 at hn0 hR
  have hn := hn0
  have hn : qLS cs M a (g1, v.2.1, v.2.2.1, v.2.2.2.1, v.2.2.2.2) := qLS.s0 (v := v) hL0 hn (qFr.rf.tr hF (fun q hq => by omega))
  have hL0 := hn
  have hS := hS.tr hF (fun q hq => by omega)
  refine lv_aload_n hx hb dX7_add_14 rfl (lv_at hl 1 rfl) ?_
  refine q_get hx hb hg in_X7 hown hK hI hL0.1 rfl 1 (by decide) (hg _ wf_X7_15) (fun _ h9 => h9) rfl dX7_add_15 ?_
  refine lv_iload_n hx hb dX7_add_18 rfl (lv_at hl 0 rfl) ?_
  refine lv_iload_n hx hb dX7_add_19 rfl (lv_at hl 3 rfl) ?_
  refine q_goN (q_runSN (As := [.ref (a + 2), .int v.2.2.2.2, .int p2]) (rest := []) hx hb hml hown hg (c_X10_put l D cs hL0.2.2.1 v.2.2.2.2 p2) v_X10_put (hK.2 _ (List.mem_of_getElem? (i := 40) rfl)) rfl rfl ⟨Nat.le_of_ble_eq_true rfl, Nat.le_of_ble_eq_true rfl⟩ hI hK hl.1 rfl rfl (Nat.le_of_ble_eq_true rfl) dX7_add_20 ⟨Nat.le_of_ble_eq_true rfl, Nat.le_of_ble_eq_true rfl⟩) hI (fun M H locs hp hI => ?_)
  obtain ⟨hn0, hF⟩ := hp
  generalize heg2 : rowPut v.2.1 v.2.2.2.2 p2 = g2 at hn0 hR
  have hn := hn0
  have hn : qLS cs M a (g1, g2, v.2.2.1, v.2.2.2.1, v.2.2.2.2) := qLS.s1 (v := (g1, v.2.1, v.2.2.1, v.2.2.2.1, v.2.2.2.2)) hL0 hn (qFr.rf.tr hF (fun q hq => by omega))
  have hL0 := hn
  have hS := hS.tr hF (fun q hq => by omega)
  refine lv_aload_n hx hb dX7_add_23 rfl (lv_at hl 1 rfl) ?_
  refine q_get hx hb hg in_X7 hown hK hI hL0.1 rfl 2 (by decide) (hg _ wf_X7_18) (fun _ h9 => h9) rfl dX7_add_24 ?_
  refine lv_iload_n hx hb dX7_add_27 rfl (lv_at hl 0 rfl) ?_
  refine lv_iconst (v := 0) hx hb dX7_add_28 (by decide) ?_
  refine q_goN (q_runSN (As := [.ref (a + 3), .int v.2.2.2.2, .int 0]) (rest := []) hx hb hml hown hg (c_X10_put l D cs hL0.2.2.2.1 v.2.2.2.2 0) v_X10_put (hK.2 _ (List.mem_of_getElem? (i := 40) rfl)) rfl rfl ⟨Nat.le_of_ble_eq_true rfl, Nat.le_of_ble_eq_true rfl⟩ hI hK hl.1 rfl rfl (Nat.le_of_ble_eq_true rfl) dX7_add_29 ⟨Nat.le_of_ble_eq_true rfl, Nat.le_of_ble_eq_true rfl⟩) hI (fun M H locs hp hI => ?_)
  obtain ⟨hn0, hF⟩ := hp
  generalize heg3 : rowPut v.2.2.1 v.2.2.2.2 0 = g3 at hn0 hR
  have hn := hn0
  have hn : qLS cs M a (g1, g2, g3, v.2.2.2.1, v.2.2.2.2) := qLS.s2 (v := (g1, g2, v.2.2.1, v.2.2.2.1, v.2.2.2.2)) hL0 hn (qFr.rf.tr hF (fun q hq => by omega))
  have hL0 := hn
  have hS := hS.tr hF (fun q hq => by omega)
  refine lv_aload_n hx hb dX7_add_32 rfl (lv_at hl 1 rfl) ?_
  refine q_get hx hb hg in_X7 hown hK hI hL0.1 rfl 3 (by decide) (hg _ wf_X7_21) (fun _ h9 => h9) rfl dX7_add_33 ?_
  refine lv_iload_n hx hb dX7_add_36 rfl (lv_at hl 0 rfl) ?_
  refine lv_iconst (v := 0) hx hb dX7_add_37 (by decide) ?_
  refine q_goN (q_runSN (As := [.ref (a + 4), .int v.2.2.2.2, .int 0]) (rest := []) hx hb hml hown hg (c_X10_put l D cs hL0.2.2.2.2 v.2.2.2.2 0) v_X10_put (hK.2 _ (List.mem_of_getElem? (i := 40) rfl)) rfl rfl ⟨Nat.le_of_ble_eq_true rfl, Nat.le_of_ble_eq_true rfl⟩ hI hK hl.1 rfl rfl (Nat.le_of_ble_eq_true rfl) dX7_add_38 ⟨Nat.le_of_ble_eq_true rfl, Nat.le_of_ble_eq_true rfl⟩) hI (fun M H locs hp hI => ?_)
  obtain ⟨hn0, hF⟩ := hp
  generalize heg4 : rowPut v.2.2.2.1 v.2.2.2.2 0 = g4 at hn0 hR
  have hn := hn0
  have hn : qLS cs M a (g1, g2, g3, g4, v.2.2.2.2) := qLS.s3 (v := (g1, g2, g3, v.2.2.2.1, v.2.2.2.2)) hL0 hn (qFr.rf.tr hF (fun q hq => by omega))
  have hL0 := hn
  have hS := hS.tr hF (fun q hq => by omega)
  refine lv_aload_n hx hb dX7_add_41 rfl (lv_at hl 1 rfl) ?_
  refine lv_dup hx hb dX7_add_42 rfl ?_
  refine q_get hx hb hg in_X7 hown hK hI hL0.1 rfl 4 (by decide) (hg _ wf_X7_24) (fun _ h9 => h9) rfl dX7_add_43 ?_
  refine lv_iconst (v := 1) hx hb dX7_add_46 (by decide) ?_
  refine lv_iadd hx hb dX7_add_47 ?_
  have hn := qLS.i4 (v.2.2.2.2 + 1) hL0
  refine q_put (v := .int (v.2.2.2.2 + 1)) hx hb hg in_X7 tyX7_ok nmX7 hown hK hI hL0.1 rfl 4 (by decide) (hg _ wf_X7_24) (fun _ h9 => h9) rfl rfl rfl (Nat.le_of_ble_eq_true rfl) dX7_add_48 (fun H locs hI => ?_)
  obtain ⟨M, hn, hF, hI⟩ : ∃ Mx : qM, qLS cs Mx a (g1, g2, g3, g4, v.2.2.2.2 + 1) ∧ qFr (qIn a 1) M Mx ∧ qI D M0 s.heap Mx N H locs := ⟨_, hn, qFr.up (by decide), hI⟩
  have hL0 := hn
  have hS := hS.tr hF (fun q hq => by omega)
  refine lv_iload_n hx hb dX7_add_51 rfl (lv_at hl 0 rfl) ?_
  exact q_iret hx hb hret hlk hN hI (by subst hR; exact ⟨rfl, ⟨hL0, hS⟩, rfl⟩) dX7_add_52
def s_X7_isUnderway (v : qSV) (p1 : Int32) : Bool := (if p1 < 0 then false else (if v.2.2.2.2 ≤ p1 then false else (if (rowAt v.2.2.2.1 p1) = 0 then true else false)))
set_option maxHeartbeats 4000000 in
set_option maxRecDepth 20000 in
theorem c_X7_isUnderway (l : Launch) (D : va_G) (cs : qC) {M0 : qM} {N a : Nat} {v : qSV} (hL0 : qLS cs M0 a v) (p1 : Int32) :
    qMet l D cs yX7_isUnderway (qws yX7_isUnderway cX7_isUnderway 2 (some .boolean)) ({ frames := 1, cells := 0, slots := 0, locals := 21 } : Room) M0 N [.ref a, .int p1] (qRet M0 N (.int (qbi (s_X7_isUnderway v p1)))) 0 0 := by
  obtain ⟨R, hR⟩ : ∃ R, s_X7_isUnderway v p1 = R := ⟨_, rfl⟩
  rw [hR]
  rw [s_X7_isUnderway] at hR
  refine q_head (by decide) ?_ (Nat.le_of_ble_eq_true rfl)
  intro p e s m below meth c ls hx hb hret hlk hml hown hnm hg hK hN hI hl
  have hl : lv_has ls 2 [(0, .ref a), (1, .int p1)] := hl
  refine lv_iload_n hx hb dX7_isUnderway_0 rfl (lv_at hl 1 rfl) ?_
  refine lv_if_lt (tgt := 27) hx hb dX7_isUnderway_1 (by decide) (fun c1 => ?_) (fun c1 => ?_)
  · rw [if_pos c1] at hR
    refine lv_iconst (v := 0) hx hb dX7_isUnderway_27 (by decide) ?_
    exact q_zret hx hb hret rfl hlk hN hI (by subst hR; exact ⟨rfl, rfl, rfl⟩) dX7_isUnderway_28
  · rw [if_neg c1] at hR
    refine lv_iload_n hx hb dX7_isUnderway_4 rfl (lv_at hl 1 rfl) ?_
    refine lv_aload_n hx hb dX7_isUnderway_5 rfl (lv_at hl 0 rfl) ?_
    refine q_get hx hb hg in_X7 hown hK hI hL0.1 rfl 4 (by decide) (hg _ wf_X7_24) (fun _ h9 => h9) rfl dX7_isUnderway_6 ?_
    refine lv_icmp_ge (tgt := 27) hx hb dX7_isUnderway_9 (by decide) (fun c2 => ?_) (fun c2 => ?_)
    · rw [if_pos c2] at hR
      refine lv_iconst (v := 0) hx hb dX7_isUnderway_27 (by decide) ?_
      exact q_zret hx hb hret rfl hlk hN hI (by subst hR; exact ⟨rfl, rfl, rfl⟩) dX7_isUnderway_28
    · rw [if_neg c2] at hR
      refine lv_aload_n hx hb dX7_isUnderway_12 rfl (lv_at hl 0 rfl) ?_
      refine q_get hx hb hg in_X7 hown hK hI hL0.1 rfl 3 (by decide) (hg _ wf_X7_21) (fun _ h9 => h9) rfl dX7_isUnderway_13 ?_
      refine lv_iload_n hx hb dX7_isUnderway_16 rfl (lv_at hl 1 rfl) ?_
      refine q_goR (q_runSN (As := [.ref (a + 4), .int p1]) (rest := []) hx hb hml hown hg (c_X10_at l D cs hL0.2.2.2.2 p1) v_X10_at (hK.2 _ (List.mem_of_getElem? (i := 41) rfl)) rfl rfl ⟨Nat.le_of_ble_eq_true rfl, Nat.le_of_ble_eq_true rfl⟩ hI hK hl.1 rfl rfl (Nat.le_of_ble_eq_true rfl) dX7_isUnderway_17 ⟨Nat.le_of_ble_eq_true rfl, Nat.le_of_ble_eq_true rfl⟩) hI (fun H locs hI => ?_)
      refine lv_if_ne (tgt := 27) hx hb dX7_isUnderway_20 (by decide) (fun c3 => ?_) (fun c3 => ?_)
      · rw [if_neg c3] at hR
        refine lv_iconst (v := 0) hx hb dX7_isUnderway_27 (by decide) ?_
        exact q_zret hx hb hret rfl hlk hN hI (by subst hR; exact ⟨rfl, rfl, rfl⟩) dX7_isUnderway_28
      · rw [if_pos c3] at hR
        refine lv_iconst (v := 1) hx hb dX7_isUnderway_23 (by decide) ?_
        refine lv_goto (tgt := 28) hx hb dX7_isUnderway_24 (by decide) ?_
        exact q_zret hx hb hret rfl hlk hN hI (by subst hR; exact ⟨rfl, rfl, rfl⟩) dX7_isUnderway_28
def s_X7_placeAt (v : qSV) (p1 : Int32) : Int32 := rowAt v.1 p1
set_option maxHeartbeats 4000000 in
set_option maxRecDepth 20000 in
theorem c_X7_placeAt (l : Launch) (D : va_G) (cs : qC) {M0 : qM} {N a : Nat} {v : qSV} (hL0 : qLS cs M0 a v) (p1 : Int32) :
    qMet l D cs yX7_placeAt (qws yX7_placeAt cX7_placeAt 2 (some .int)) ({ frames := 1, cells := 0, slots := 0, locals := 21 } : Room) M0 N [.ref a, .int p1] (qRet M0 N (.int (s_X7_placeAt v p1))) 0 0 := by
  obtain ⟨R, hR⟩ : ∃ R, s_X7_placeAt v p1 = R := ⟨_, rfl⟩
  rw [hR]
  rw [s_X7_placeAt] at hR
  refine q_head (by decide) ?_ (Nat.le_of_ble_eq_true rfl)
  intro p e s m below meth c ls hx hb hret hlk hml hown hnm hg hK hN hI hl
  have hl : lv_has ls 2 [(0, .ref a), (1, .int p1)] := hl
  refine lv_aload_n hx hb dX7_placeAt_0 rfl (lv_at hl 0 rfl) ?_
  refine q_get hx hb hg in_X7 hown hK hI hL0.1 rfl 0 (by decide) (hg _ wf_X7_9) (fun _ h9 => h9) rfl dX7_placeAt_1 ?_
  refine lv_iload_n hx hb dX7_placeAt_4 rfl (lv_at hl 1 rfl) ?_
  refine q_goR (q_runSN (As := [.ref (a + 1), .int p1]) (rest := []) hx hb hml hown hg (c_X10_at l D cs hL0.2.1 p1) v_X10_at (hK.2 _ (List.mem_of_getElem? (i := 41) rfl)) rfl rfl ⟨Nat.le_of_ble_eq_true rfl, Nat.le_of_ble_eq_true rfl⟩ hI hK hl.1 rfl rfl (Nat.le_of_ble_eq_true rfl) dX7_placeAt_5 ⟨Nat.le_of_ble_eq_true rfl, Nat.le_of_ble_eq_true rfl⟩) hI (fun H locs hI => ?_)
  exact q_iret hx hb hret hlk hN hI (by subst hR; exact ⟨rfl, rfl, rfl⟩) dX7_placeAt_8
def s_X7_drag (v : qSV) (p1 : Int32) (p2 : Int32) : qSV := (if p2 < 0 then (v.1, v.2.1, (rowPut v.2.2.1 p1 ((rowAt v.2.2.1 p1) + 1)), (rowPut v.2.2.2.1 p1 1), v.2.2.2.2) else ((rowPut v.1 p1 p2), v.2.1, (rowPut v.2.2.1 p1 ((rowAt v.2.2.1 p1) + 1)), v.2.2.2.1, v.2.2.2.2))
set_option maxHeartbeats 4000000 in
set_option maxRecDepth 20000 in
theorem c_X7_drag (l : Launch) (D : va_G) (cs : qC) {M0 : qM} {N a : Nat} {v : qSV} (hL0 : qLS cs M0 a v) (p1 : Int32) (p2 : Int32) :
    qMet l D cs yX7_drag (qws yX7_drag cX7_drag 3 none) ({ frames := 1, cells := 0, slots := 0, locals := 22 } : Room) M0 N [.ref a, .int p1, .int p2] (qMod N none (fun M' => qLS cs M' a (s_X7_drag v p1 p2) ∧ qFr (qIn a 5) M0 M')) 0 0 := by
  obtain ⟨R, hR⟩ : ∃ R, s_X7_drag v p1 p2 = R := ⟨_, rfl⟩
  rw [hR]
  rw [s_X7_drag] at hR
  refine q_head (by decide) ?_ (Nat.le_of_ble_eq_true rfl)
  intro p e s m below meth c ls hx hb hret hlk hml hown hnm hg hK hN hI hl
  have hl : lv_has ls 3 [(0, .ref a), (1, .int p1), (2, .int p2)] := hl
  have hS : qFr (qIn a 5) M0 M0 := qFr.rf
  refine lv_aload_n hx hb dX7_drag_0 rfl (lv_at hl 0 rfl) ?_
  refine q_get hx hb hg in_X7 hown hK hI hL0.1 rfl 2 (by decide) (hg _ wf_X7_18) (fun _ h9 => h9) rfl dX7_drag_1 ?_
  refine lv_iload_n hx hb dX7_drag_4 rfl (lv_at hl 1 rfl) ?_
  refine lv_aload_n hx hb dX7_drag_5 rfl (lv_at hl 0 rfl) ?_
  refine q_get hx hb hg in_X7 hown hK hI hL0.1 rfl 2 (by decide) (hg _ wf_X7_18) (fun _ h9 => h9) rfl dX7_drag_6 ?_
  refine lv_iload_n hx hb dX7_drag_9 rfl (lv_at hl 1 rfl) ?_
  refine q_goR (q_runSN (As := [.ref (a + 3), .int p1]) (rest := [.int p1, .ref (a + 3)]) hx hb hml hown hg (c_X10_at l D cs hL0.2.2.2.1 p1) v_X10_at (hK.2 _ (List.mem_of_getElem? (i := 41) rfl)) rfl rfl ⟨Nat.le_of_ble_eq_true rfl, Nat.le_of_ble_eq_true rfl⟩ hI hK hl.1 rfl rfl (Nat.le_of_ble_eq_true rfl) dX7_drag_10 ⟨Nat.le_of_ble_eq_true rfl, Nat.le_of_ble_eq_true rfl⟩) hI (fun H locs hI => ?_)
  refine lv_iconst (v := 1) hx hb dX7_drag_13 (by decide) ?_
  refine lv_iadd hx hb dX7_drag_14 ?_
  refine q_goN (q_runSN (As := [.ref (a + 3), .int p1, .int ((rowAt v.2.2.1 p1) + 1)]) (rest := []) hx hb hml hown hg (c_X10_put l D cs hL0.2.2.2.1 p1 ((rowAt v.2.2.1 p1) + 1)) v_X10_put (hK.2 _ (List.mem_of_getElem? (i := 40) rfl)) rfl rfl ⟨Nat.le_of_ble_eq_true rfl, Nat.le_of_ble_eq_true rfl⟩ hI hK hl.1 rfl rfl (Nat.le_of_ble_eq_true rfl) dX7_drag_15 ⟨Nat.le_of_ble_eq_true rfl, Nat.le_of_ble_eq_true rfl⟩) hI (fun M H locs hp hI => ?_)
  obtain ⟨hn0, hF⟩ := hp
  generalize heg1 : rowPut v.2.2.1 p1 ((rowAt v.2.2.1 p1) + 1) = g1 at hn0 hR
  have hn := hn0
  have hn : qLS cs M a (v.1, v.2.1, g1, v.2.2.2.1, v.2.2.2.2) := qLS.s2 (v := v) hL0 hn (qFr.rf.tr hF (fun q hq => by omega))
  have hL0 := hn
  have hS := hS.tr hF (fun q hq => by omega)
  refine lv_iload_n hx hb dX7_drag_18 rfl (lv_at hl 2 rfl) ?_
  refine lv_if_lt (tgt := 34) hx hb dX7_drag_19 (by decide) (fun c2 => ?_) (fun c2 => ?_)
  · rw [if_pos c2] at hR
    refine lv_aload_n hx hb dX7_drag_34 rfl (lv_at hl 0 rfl) ?_
    refine q_get hx hb hg in_X7 hown hK hI hL0.1 rfl 3 (by decide) (hg _ wf_X7_21) (fun _ h9 => h9) rfl dX7_drag_35 ?_
    refine lv_iload_n hx hb dX7_drag_38 rfl (lv_at hl 1 rfl) ?_
    refine lv_iconst (v := 1) hx hb dX7_drag_39 (by decide) ?_
    refine q_goN (q_runSN (As := [.ref (a + 4), .int p1, .int 1]) (rest := []) hx hb hml hown hg (c_X10_put l D cs hL0.2.2.2.2 p1 1) v_X10_put (hK.2 _ (List.mem_of_getElem? (i := 40) rfl)) rfl rfl ⟨Nat.le_of_ble_eq_true rfl, Nat.le_of_ble_eq_true rfl⟩ hI hK hl.1 rfl rfl (Nat.le_of_ble_eq_true rfl) dX7_drag_40 ⟨Nat.le_of_ble_eq_true rfl, Nat.le_of_ble_eq_true rfl⟩) hI (fun M H locs hp hI => ?_)
    obtain ⟨hn0, hF⟩ := hp
    generalize heg3 : rowPut v.2.2.2.1 p1 1 = g3 at hn0 hR
    have hn := hn0
    have hn : qLS cs M a (v.1, v.2.1, g1, g3, v.2.2.2.2) := qLS.s3 (v := (v.1, v.2.1, g1, v.2.2.2.1, v.2.2.2.2)) hL0 hn (qFr.rf.tr hF (fun q hq => by omega))
    have hL0 := hn
    have hS := hS.tr hF (fun q hq => by omega)
    exact q_vret (st := []) hx hb hret hlk hN hI (by subst hR; exact ⟨rfl, ⟨hL0, hS⟩, rfl⟩) dX7_drag_43
  · rw [if_neg c2] at hR
    refine lv_aload_n hx hb dX7_drag_22 rfl (lv_at hl 0 rfl) ?_
    refine q_get hx hb hg in_X7 hown hK hI hL0.1 rfl 0 (by decide) (hg _ wf_X7_9) (fun _ h9 => h9) rfl dX7_drag_23 ?_
    refine lv_iload_n hx hb dX7_drag_26 rfl (lv_at hl 1 rfl) ?_
    refine lv_iload_n hx hb dX7_drag_27 rfl (lv_at hl 2 rfl) ?_
    refine q_goN (q_runSN (As := [.ref (a + 1), .int p1, .int p2]) (rest := []) hx hb hml hown hg (c_X10_put l D cs hL0.2.1 p1 p2) v_X10_put (hK.2 _ (List.mem_of_getElem? (i := 40) rfl)) rfl rfl ⟨Nat.le_of_ble_eq_true rfl, Nat.le_of_ble_eq_true rfl⟩ hI hK hl.1 rfl rfl (Nat.le_of_ble_eq_true rfl) dX7_drag_28 ⟨Nat.le_of_ble_eq_true rfl, Nat.le_of_ble_eq_true rfl⟩) hI (fun M H locs hp hI => ?_)
    obtain ⟨hn0, hF⟩ := hp
    generalize heg4 : rowPut v.1 p1 p2 = g4 at hn0 hR
    have hn := hn0
    have hn : qLS cs M a (g4, v.2.1, g1, v.2.2.2.1, v.2.2.2.2) := qLS.s0 (v := (v.1, v.2.1, g1, v.2.2.2.1, v.2.2.2.2)) hL0 hn (qFr.rf.tr hF (fun q hq => by omega))
    have hL0 := hn
    have hS := hS.tr hF (fun q hq => by omega)
    refine lv_goto (tgt := 43) hx hb dX7_drag_31 (by decide) ?_
    exact q_vret (st := []) hx hb hret hlk hN hI (by subst hR; exact ⟨rfl, ⟨hL0, hS⟩, rfl⟩) dX7_drag_43
def s_X7_countArrived_L4 (v : qSV) : Nat → Int32 → Int32 → Int32
  | 0, _, _ => default
  | n + 1, x1h4, x2h4 => (if v.2.2.2.2 ≤ x2h4 then x1h4 else (s_X7_countArrived_L4 v n (x1h4 + (rowAt v.2.2.2.1 x2h4)) (x2h4 + 1)))
def s_X7_countArrived (v : qSV)  : Int32 := (s_X7_countArrived_L4 v (v.2.2.2.2.toInt.toNat + 1) 0 0)
set_option maxHeartbeats 4000000 in
set_option maxRecDepth 20000 in
theorem c_X7_countArrived (l : Launch) (D : va_G) (cs : qC) {M0 : qM} {N a : Nat} {v : qSV} (hL0 : qLS cs M0 a v) :
    qMet l D cs yX7_countArrived (qws yX7_countArrived cX7_countArrived 3 (some .int)) ({ frames := 1, cells := 0, slots := 0, locals := 21 } : Room) M0 N [.ref a] (qRet M0 N (.int (s_X7_countArrived v))) 0 0 := by
  obtain ⟨R, hR⟩ : ∃ R, s_X7_countArrived v = R := ⟨_, rfl⟩
  rw [hR]
  rw [s_X7_countArrived] at hR
  refine q_head (by decide) ?_ (Nat.le_of_ble_eq_true rfl)
  intro p e s m below meth c ls hx hb hret hlk hml hown hnm hg hK hN hI hl
  have hl : lv_has ls 3 [(0, .ref a)] := hl
  refine lv_iconst (v := 0) hx hb dX7_countArrived_0 (by decide) ?_
  refine lv_istore_n (lv' := [(1, .int 0), (0, .ref a)]) hx hb dX7_countArrived_1 rfl hl (by decide) rfl (fun ls hl => ?_)
  refine lv_iconst (v := 0) hx hb dX7_countArrived_2 (by decide) ?_
  refine lv_istore_n (lv' := [(2, .int 0), (1, .int 0), (0, .ref a)]) hx hb dX7_countArrived_3 rfl hl (by decide) rfl (fun ls hl => ?_)
  have loop4 : ∀ (n4 : Nat) (x1h4 : Int32) (x2h4 : Int32), qmu v.2.2.2.2 x2h4 < n4 → s_X7_countArrived_L4 v n4 x1h4 x2h4 = R → ∀ (H : Heap) (locs : List Loc) (ls : Array Slot), qI D M0 s.heap M0 N H locs → lv_has ls 3 [(0, .ref a), (1, .int x1h4), (2, .int x2h4)] →
      W p l e ({ frames := 1, cells := 0, slots := 0, locals := 21 } : Room) s m [Value.ref a].toArray below meth c H locs 0 0 (MQ below (qQ D M0 N (qRet M0 N (.int R))) [Value.ref a].toArray s 0 0 (qA M0 N)) (F0 m 4 ls []) := by
    intro n4
    induction n4 with
    | zero => intro x1h4 x2h4 hm; exact absurd hm (Nat.not_lt_zero _)
    | succ n4 ih4 =>
      intro x1h4 x2h4 hm4 hR H locs ls  hI hl
      rw [s_X7_countArrived_L4] at hR
      refine lv_iload_n hx hb dX7_countArrived_4 rfl (lv_at hl 2 rfl) ?_
      refine lv_aload_n hx hb dX7_countArrived_5 rfl (lv_at hl 0 rfl) ?_
      refine q_get hx hb hg in_X7 hown hK hI hL0.1 rfl 4 (by decide) (hg _ wf_X7_24) (fun _ h9 => h9) rfl dX7_countArrived_6 ?_
      refine lv_icmp_ge (tgt := 29) hx hb dX7_countArrived_9 (by decide) (fun c1 => ?_) (fun c1 => ?_)
      · rw [if_pos c1] at hR
        refine lv_iload_n hx hb dX7_countArrived_29 rfl (lv_at hl 1 rfl) ?_
        exact q_iret hx hb hret hlk hN hI (by subst hR; exact ⟨rfl, rfl, rfl⟩) dX7_countArrived_30
      · rw [if_neg c1] at hR
        refine lv_iload_n hx hb dX7_countArrived_12 rfl (lv_at hl 1 rfl) ?_
        refine lv_aload_n hx hb dX7_countArrived_13 rfl (lv_at hl 0 rfl) ?_
        refine q_get hx hb hg in_X7 hown hK hI hL0.1 rfl 3 (by decide) (hg _ wf_X7_21) (fun _ h9 => h9) rfl dX7_countArrived_14 ?_
        refine lv_iload_n hx hb dX7_countArrived_17 rfl (lv_at hl 2 rfl) ?_
        refine q_goR (q_runSN (As := [.ref (a + 4), .int x2h4]) (rest := [.int x1h4]) hx hb hml hown hg (c_X10_at l D cs hL0.2.2.2.2 x2h4) v_X10_at (hK.2 _ (List.mem_of_getElem? (i := 41) rfl)) rfl rfl ⟨Nat.le_of_ble_eq_true rfl, Nat.le_of_ble_eq_true rfl⟩ hI hK hl.1 rfl rfl (Nat.le_of_ble_eq_true rfl) dX7_countArrived_18 ⟨Nat.le_of_ble_eq_true rfl, Nat.le_of_ble_eq_true rfl⟩) hI (fun H locs hI => ?_)
        refine lv_iadd hx hb dX7_countArrived_21 ?_
        refine lv_istore_n (lv' := [(1, .int (x1h4 + (rowAt v.2.2.2.1 x2h4))), (0, .ref a), (2, .int x2h4)]) hx hb dX7_countArrived_22 rfl hl (by decide) rfl (fun ls hl => ?_)
        refine lv_iinc (v := x2h4 + 1) (lv' := [(2, .int (x2h4 + 1)), (1, .int (x1h4 + (rowAt v.2.2.2.1 x2h4))), (0, .ref a)]) hx hb dX7_countArrived_23 hl (k := 2) rfl rfl (by decide) rfl (fun ls hl => ?_)
        refine lv_goto (tgt := 4) hx hb dX7_countArrived_26 (by decide) ?_
        exact ih4 (x1h4 + (rowAt v.2.2.2.1 x2h4)) (x2h4 + 1) (q_mu c1 hm4) hR _ _ _  hI (lv_sub hl [2, 1, 0] rfl)
  exact loop4 _ 0 0 (q_fuel _) hR _ _ _  hI (lv_sub hl [2, 1, 0] rfl)
def s_X7_countUnderway (v : qSV)  : Int32 := v.2.2.2.2 - (s_X7_countArrived v)
set_option maxHeartbeats 4000000 in
set_option maxRecDepth 20000 in
theorem c_X7_countUnderway (l : Launch) (D : va_G) (cs : qC) {M0 : qM} {N a : Nat} {v : qSV} (hL0 : qLS cs M0 a v) :
    qMet l D cs yX7_countUnderway (qws yX7_countUnderway cX7_countUnderway 1 (some .int)) ({ frames := 2, cells := 0, slots := 0, locals := 43 } : Room) M0 N [.ref a] (qRet M0 N (.int (s_X7_countUnderway v))) 0 0 := by
  obtain ⟨R, hR⟩ : ∃ R, s_X7_countUnderway v = R := ⟨_, rfl⟩
  rw [hR]
  rw [s_X7_countUnderway] at hR
  refine q_head (by decide) ?_ (Nat.le_of_ble_eq_true rfl)
  intro p e s m below meth c ls hx hb hret hlk hml hown hnm hg hK hN hI hl
  have hl : lv_has ls 1 [(0, .ref a)] := hl
  refine lv_aload_n hx hb dX7_countUnderway_0 rfl (lv_at hl 0 rfl) ?_
  refine q_get hx hb hg in_X7 hown hK hI hL0.1 rfl 4 (by decide) (hg _ wf_X7_24) (fun _ h9 => h9) rfl dX7_countUnderway_1 ?_
  refine lv_aload_n hx hb dX7_countUnderway_4 rfl (lv_at hl 0 rfl) ?_
  refine q_goR (q_runV (As := []) (rest := [.int v.2.2.2.2]) hx hb hml hown hg (c_X7_countArrived l D cs hL0) v_X7_countArrived wl_X7_44 rfl rfl ⟨Nat.le_of_ble_eq_true rfl, Nat.le_of_ble_eq_true rfl⟩ hI hK 8 hL0.1 rfl hl.1 rfl rfl (Nat.le_of_ble_eq_true rfl) dX7_countUnderway_5 ⟨Nat.le_of_ble_eq_true rfl, Nat.le_of_ble_eq_true rfl⟩) hI (fun H locs hI => ?_)
  refine lv_isub hx hb dX7_countUnderway_8 ?_
  exact q_iret hx hb hret hlk hN hI (by subst hR; exact ⟨rfl, rfl, rfl⟩) dX7_countUnderway_9
def s_X7_arrivedLoads_L4 (v : qSV) : Nat → Int32 → Int32 → Int32
  | 0, _, _ => default
  | n + 1, x1h4, x2h4 => (if v.2.2.2.2 ≤ x2h4 then x1h4 else (if (rowAt v.2.2.2.1 x2h4) = 1 then (s_X7_arrivedLoads_L4 v n (x1h4 + (rowAt v.2.1 x2h4)) (x2h4 + 1)) else (s_X7_arrivedLoads_L4 v n (x1h4 + 0) (x2h4 + 1))))
def s_X7_arrivedLoads (v : qSV)  : Int32 := (s_X7_arrivedLoads_L4 v (v.2.2.2.2.toInt.toNat + 1) 0 0)
set_option maxHeartbeats 4000000 in
set_option maxRecDepth 20000 in
theorem c_X7_arrivedLoads (l : Launch) (D : va_G) (cs : qC) {M0 : qM} {N a : Nat} {v : qSV} (hL0 : qLS cs M0 a v) :
    qMet l D cs yX7_arrivedLoads (qws yX7_arrivedLoads cX7_arrivedLoads 3 (some .int)) ({ frames := 1, cells := 0, slots := 0, locals := 21 } : Room) M0 N [.ref a] (qRet M0 N (.int (s_X7_arrivedLoads v))) 0 0 := by
  obtain ⟨R, hR⟩ : ∃ R, s_X7_arrivedLoads v = R := ⟨_, rfl⟩
  rw [hR]
  rw [s_X7_arrivedLoads] at hR
  refine q_head (by decide) ?_ (Nat.le_of_ble_eq_true rfl)
  intro p e s m below meth c ls hx hb hret hlk hml hown hnm hg hK hN hI hl
  have hl : lv_has ls 3 [(0, .ref a)] := hl
  refine lv_iconst (v := 0) hx hb dX7_arrivedLoads_0 (by decide) ?_
  refine lv_istore_n (lv' := [(1, .int 0), (0, .ref a)]) hx hb dX7_arrivedLoads_1 rfl hl (by decide) rfl (fun ls hl => ?_)
  refine lv_iconst (v := 0) hx hb dX7_arrivedLoads_2 (by decide) ?_
  refine lv_istore_n (lv' := [(2, .int 0), (1, .int 0), (0, .ref a)]) hx hb dX7_arrivedLoads_3 rfl hl (by decide) rfl (fun ls hl => ?_)
  have loop4 : ∀ (n4 : Nat) (x1h4 : Int32) (x2h4 : Int32), qmu v.2.2.2.2 x2h4 < n4 → s_X7_arrivedLoads_L4 v n4 x1h4 x2h4 = R → ∀ (H : Heap) (locs : List Loc) (ls : Array Slot), qI D M0 s.heap M0 N H locs → lv_has ls 3 [(0, .ref a), (1, .int x1h4), (2, .int x2h4)] →
      W p l e ({ frames := 1, cells := 0, slots := 0, locals := 21 } : Room) s m [Value.ref a].toArray below meth c H locs 0 0 (MQ below (qQ D M0 N (qRet M0 N (.int R))) [Value.ref a].toArray s 0 0 (qA M0 N)) (F0 m 4 ls []) := by
    intro n4
    induction n4 with
    | zero => intro x1h4 x2h4 hm; exact absurd hm (Nat.not_lt_zero _)
    | succ n4 ih4 =>
      intro x1h4 x2h4 hm4 hR H locs ls  hI hl
      rw [s_X7_arrivedLoads_L4] at hR
      refine lv_iload_n hx hb dX7_arrivedLoads_4 rfl (lv_at hl 2 rfl) ?_
      refine lv_aload_n hx hb dX7_arrivedLoads_5 rfl (lv_at hl 0 rfl) ?_
      refine q_get hx hb hg in_X7 hown hK hI hL0.1 rfl 4 (by decide) (hg _ wf_X7_24) (fun _ h9 => h9) rfl dX7_arrivedLoads_6 ?_
      refine lv_icmp_ge (tgt := 45) hx hb dX7_arrivedLoads_9 (by decide) (fun c1 => ?_) (fun c1 => ?_)
      · rw [if_pos c1] at hR
        refine lv_iload_n hx hb dX7_arrivedLoads_45 rfl (lv_at hl 1 rfl) ?_
        exact q_iret hx hb hret hlk hN hI (by subst hR; exact ⟨rfl, rfl, rfl⟩) dX7_arrivedLoads_46
      · rw [if_neg c1] at hR
        refine lv_iload_n hx hb dX7_arrivedLoads_12 rfl (lv_at hl 1 rfl) ?_
        refine lv_aload_n hx hb dX7_arrivedLoads_13 rfl (lv_at hl 0 rfl) ?_
        refine q_get hx hb hg in_X7 hown hK hI hL0.1 rfl 3 (by decide) (hg _ wf_X7_21) (fun _ h9 => h9) rfl dX7_arrivedLoads_14 ?_
        refine lv_iload_n hx hb dX7_arrivedLoads_17 rfl (lv_at hl 2 rfl) ?_
        refine q_goR (q_runSN (As := [.ref (a + 4), .int x2h4]) (rest := [.int x1h4]) hx hb hml hown hg (c_X10_at l D cs hL0.2.2.2.2 x2h4) v_X10_at (hK.2 _ (List.mem_of_getElem? (i := 41) rfl)) rfl rfl ⟨Nat.le_of_ble_eq_true rfl, Nat.le_of_ble_eq_true rfl⟩ hI hK hl.1 rfl rfl (Nat.le_of_ble_eq_true rfl) dX7_arrivedLoads_18 ⟨Nat.le_of_ble_eq_true rfl, Nat.le_of_ble_eq_true rfl⟩) hI (fun H locs hI => ?_)
        refine lv_iconst (v := 1) hx hb dX7_arrivedLoads_21 (by decide) ?_
        refine lv_icmp_ne (tgt := 36) hx hb dX7_arrivedLoads_22 (by decide) (fun c2 => ?_) (fun c2 => ?_)
        · rw [if_neg c2] at hR
          refine lv_iconst (v := 0) hx hb dX7_arrivedLoads_36 (by decide) ?_
          refine lv_iadd hx hb dX7_arrivedLoads_37 ?_
          refine lv_istore_n (lv' := [(1, .int (x1h4 + 0)), (0, .ref a), (2, .int x2h4)]) hx hb dX7_arrivedLoads_38 rfl hl (by decide) rfl (fun ls hl => ?_)
          refine lv_iinc (v := x2h4 + 1) (lv' := [(2, .int (x2h4 + 1)), (1, .int (x1h4 + 0)), (0, .ref a)]) hx hb dX7_arrivedLoads_39 hl (k := 2) rfl rfl (by decide) rfl (fun ls hl => ?_)
          refine lv_goto (tgt := 4) hx hb dX7_arrivedLoads_42 (by decide) ?_
          exact ih4 (x1h4 + 0) (x2h4 + 1) (q_mu c1 hm4) hR _ _ _  hI (lv_sub hl [2, 1, 0] rfl)
        · rw [if_pos c2] at hR
          refine lv_aload_n hx hb dX7_arrivedLoads_25 rfl (lv_at hl 0 rfl) ?_
          refine q_get hx hb hg in_X7 hown hK hI hL0.1 rfl 1 (by decide) (hg _ wf_X7_15) (fun _ h9 => h9) rfl dX7_arrivedLoads_26 ?_
          refine lv_iload_n hx hb dX7_arrivedLoads_29 rfl (lv_at hl 2 rfl) ?_
          refine q_goR (q_runSN (As := [.ref (a + 2), .int x2h4]) (rest := [.int x1h4]) hx hb hml hown hg (c_X10_at l D cs hL0.2.2.1 x2h4) v_X10_at (hK.2 _ (List.mem_of_getElem? (i := 41) rfl)) rfl rfl ⟨Nat.le_of_ble_eq_true rfl, Nat.le_of_ble_eq_true rfl⟩ hI hK hl.1 rfl rfl (Nat.le_of_ble_eq_true rfl) dX7_arrivedLoads_30 ⟨Nat.le_of_ble_eq_true rfl, Nat.le_of_ble_eq_true rfl⟩) hI (fun H locs hI => ?_)
          refine lv_goto (tgt := 37) hx hb dX7_arrivedLoads_33 (by decide) ?_
          refine lv_iadd hx hb dX7_arrivedLoads_37 ?_
          refine lv_istore_n (lv' := [(1, .int (x1h4 + (rowAt v.2.1 x2h4))), (0, .ref a), (2, .int x2h4)]) hx hb dX7_arrivedLoads_38 rfl hl (by decide) rfl (fun ls hl => ?_)
          refine lv_iinc (v := x2h4 + 1) (lv' := [(2, .int (x2h4 + 1)), (1, .int (x1h4 + (rowAt v.2.1 x2h4))), (0, .ref a)]) hx hb dX7_arrivedLoads_39 hl (k := 2) rfl rfl (by decide) rfl (fun ls hl => ?_)
          refine lv_goto (tgt := 4) hx hb dX7_arrivedLoads_42 (by decide) ?_
          exact ih4 (x1h4 + (rowAt v.2.1 x2h4)) (x2h4 + 1) (q_mu c1 hm4) hR _ _ _  hI (lv_sub hl [2, 1, 0] rfl)
  exact loop4 _ 0 0 (q_fuel _) hR _ _ _  hI (lv_sub hl [2, 1, 0] rfl)
def s_X7_countAt_L4 (v : qSV) (p1 : Int32) : Nat → Int32 → Int32 → Int32
  | 0, _, _ => default
  | n + 1, x2h4, x3h4 => (if v.2.2.2.2 ≤ x3h4 then x2h4 else (if (qbi (s_X7_isUnderway v x3h4)) = 0 then (s_X7_countAt_L4 v p1 n (x2h4 + 0) (x3h4 + 1)) else (if (s_X7_placeAt v x3h4) = p1 then (s_X7_countAt_L4 v p1 n (x2h4 + 1) (x3h4 + 1)) else (s_X7_countAt_L4 v p1 n (x2h4 + 0) (x3h4 + 1)))))
def s_X7_countAt (v : qSV) (p1 : Int32) : Int32 := (s_X7_countAt_L4 v p1 (v.2.2.2.2.toInt.toNat + 1) 0 0)
set_option maxHeartbeats 4000000 in
set_option maxRecDepth 20000 in
theorem c_X7_countAt (l : Launch) (D : va_G) (cs : qC) {M0 : qM} {N a : Nat} {v : qSV} (hL0 : qLS cs M0 a v) (p1 : Int32) :
    qMet l D cs yX7_countAt (qws yX7_countAt cX7_countAt 4 (some .int)) ({ frames := 2, cells := 0, slots := 0, locals := 42 } : Room) M0 N [.ref a, .int p1] (qRet M0 N (.int (s_X7_countAt v p1))) 0 0 := by
  obtain ⟨R, hR⟩ : ∃ R, s_X7_countAt v p1 = R := ⟨_, rfl⟩
  rw [hR]
  rw [s_X7_countAt] at hR
  refine q_head (by decide) ?_ (Nat.le_of_ble_eq_true rfl)
  intro p e s m below meth c ls hx hb hret hlk hml hown hnm hg hK hN hI hl
  have hl : lv_has ls 4 [(0, .ref a), (1, .int p1)] := hl
  refine lv_iconst (v := 0) hx hb dX7_countAt_0 (by decide) ?_
  refine lv_istore_n (lv' := [(2, .int 0), (0, .ref a), (1, .int p1)]) hx hb dX7_countAt_1 rfl hl (by decide) rfl (fun ls hl => ?_)
  refine lv_iconst (v := 0) hx hb dX7_countAt_2 (by decide) ?_
  refine lv_istore_n (lv' := [(3, .int 0), (2, .int 0), (0, .ref a), (1, .int p1)]) hx hb dX7_countAt_3 rfl hl (by decide) rfl (fun ls hl => ?_)
  have loop4 : ∀ (n4 : Nat) (x2h4 : Int32) (x3h4 : Int32), qmu v.2.2.2.2 x3h4 < n4 → s_X7_countAt_L4 v p1 n4 x2h4 x3h4 = R → ∀ (H : Heap) (locs : List Loc) (ls : Array Slot), qI D M0 s.heap M0 N H locs → lv_has ls 4 [(0, .ref a), (1, .int p1), (2, .int x2h4), (3, .int x3h4)] →
      W p l e ({ frames := 2, cells := 0, slots := 0, locals := 42 } : Room) s m [Value.ref a, Value.int p1].toArray below meth c H locs 0 0 (MQ below (qQ D M0 N (qRet M0 N (.int R))) [Value.ref a, Value.int p1].toArray s 0 0 (qA M0 N)) (F0 m 4 ls []) := by
    intro n4
    induction n4 with
    | zero => intro x2h4 x3h4 hm; exact absurd hm (Nat.not_lt_zero _)
    | succ n4 ih4 =>
      intro x2h4 x3h4 hm4 hR H locs ls  hI hl
      rw [s_X7_countAt_L4] at hR
      refine lv_iload_n hx hb dX7_countAt_4 rfl (lv_at hl 3 rfl) ?_
      refine lv_aload_n hx hb dX7_countAt_5 rfl (lv_at hl 0 rfl) ?_
      refine q_get hx hb hg in_X7 hown hK hI hL0.1 rfl 4 (by decide) (hg _ wf_X7_24) (fun _ h9 => h9) rfl dX7_countAt_6 ?_
      refine lv_icmp_ge (tgt := 43) hx hb dX7_countAt_9 (by decide) (fun c1 => ?_) (fun c1 => ?_)
      · rw [if_pos c1] at hR
        refine lv_iload_n hx hb dX7_countAt_43 rfl (lv_at hl 2 rfl) ?_
        exact q_iret hx hb hret hlk hN hI (by subst hR; exact ⟨rfl, rfl, rfl⟩) dX7_countAt_44
      · rw [if_neg c1] at hR
        refine lv_iload_n hx hb dX7_countAt_12 rfl (lv_at hl 2 rfl) ?_
        refine lv_aload_n hx hb dX7_countAt_13 rfl (lv_at hl 0 rfl) ?_
        refine lv_iload_n hx hb dX7_countAt_14 rfl (lv_at hl 3 rfl) ?_
        refine q_goR (q_runV (As := [.int x3h4]) (rest := [.int x2h4]) hx hb hml hown hg (c_X7_isUnderway l D cs hL0 x3h4) v_X7_isUnderway wl_X7_48 rfl rfl ⟨Nat.le_of_ble_eq_true rfl, Nat.le_of_ble_eq_true rfl⟩ hI hK 8 hL0.1 rfl hl.1 rfl rfl (Nat.le_of_ble_eq_true rfl) dX7_countAt_15 ⟨Nat.le_of_ble_eq_true rfl, Nat.le_of_ble_eq_true rfl⟩) hI (fun H locs hI => ?_)
        refine lv_if_eq (tgt := 34) hx hb dX7_countAt_18 (by decide) (fun c2 => ?_) (fun c2 => ?_)
        · rw [if_pos c2] at hR
          refine lv_iconst (v := 0) hx hb dX7_countAt_34 (by decide) ?_
          refine lv_iadd hx hb dX7_countAt_35 ?_
          refine lv_istore_n (lv' := [(2, .int (x2h4 + 0)), (0, .ref a), (1, .int p1), (3, .int x3h4)]) hx hb dX7_countAt_36 rfl hl (by decide) rfl (fun ls hl => ?_)
          refine lv_iinc (v := x3h4 + 1) (lv' := [(3, .int (x3h4 + 1)), (2, .int (x2h4 + 0)), (0, .ref a), (1, .int p1)]) hx hb dX7_countAt_37 hl (k := 3) rfl rfl (by decide) rfl (fun ls hl => ?_)
          refine lv_goto (tgt := 4) hx hb dX7_countAt_40 (by decide) ?_
          exact ih4 (x2h4 + 0) (x3h4 + 1) (q_mu c1 hm4) hR _ _ _  hI (lv_sub hl [2, 3, 1, 0] rfl)
        · rw [if_neg c2] at hR
          refine lv_aload_n hx hb dX7_countAt_21 rfl (lv_at hl 0 rfl) ?_
          refine lv_iload_n hx hb dX7_countAt_22 rfl (lv_at hl 3 rfl) ?_
          refine q_goR (q_runV (As := [.int x3h4]) (rest := [.int x2h4]) hx hb hml hown hg (c_X7_placeAt l D cs hL0 x3h4) v_X7_placeAt wl_X7_52 rfl rfl ⟨Nat.le_of_ble_eq_true rfl, Nat.le_of_ble_eq_true rfl⟩ hI hK 8 hL0.1 rfl hl.1 rfl rfl (Nat.le_of_ble_eq_true rfl) dX7_countAt_23 ⟨Nat.le_of_ble_eq_true rfl, Nat.le_of_ble_eq_true rfl⟩) hI (fun H locs hI => ?_)
          refine lv_iload_n hx hb dX7_countAt_26 rfl (lv_at hl 1 rfl) ?_
          refine lv_icmp_ne (tgt := 34) hx hb dX7_countAt_27 (by decide) (fun c3 => ?_) (fun c3 => ?_)
          · rw [if_neg c3] at hR
            refine lv_iconst (v := 0) hx hb dX7_countAt_34 (by decide) ?_
            refine lv_iadd hx hb dX7_countAt_35 ?_
            refine lv_istore_n (lv' := [(2, .int (x2h4 + 0)), (0, .ref a), (1, .int p1), (3, .int x3h4)]) hx hb dX7_countAt_36 rfl hl (by decide) rfl (fun ls hl => ?_)
            refine lv_iinc (v := x3h4 + 1) (lv' := [(3, .int (x3h4 + 1)), (2, .int (x2h4 + 0)), (0, .ref a), (1, .int p1)]) hx hb dX7_countAt_37 hl (k := 3) rfl rfl (by decide) rfl (fun ls hl => ?_)
            refine lv_goto (tgt := 4) hx hb dX7_countAt_40 (by decide) ?_
            exact ih4 (x2h4 + 0) (x3h4 + 1) (q_mu c1 hm4) hR _ _ _  hI (lv_sub hl [2, 3, 1, 0] rfl)
          · rw [if_pos c3] at hR
            refine lv_iconst (v := 1) hx hb dX7_countAt_30 (by decide) ?_
            refine lv_goto (tgt := 35) hx hb dX7_countAt_31 (by decide) ?_
            refine lv_iadd hx hb dX7_countAt_35 ?_
            refine lv_istore_n (lv' := [(2, .int (x2h4 + 1)), (0, .ref a), (1, .int p1), (3, .int x3h4)]) hx hb dX7_countAt_36 rfl hl (by decide) rfl (fun ls hl => ?_)
            refine lv_iinc (v := x3h4 + 1) (lv' := [(3, .int (x3h4 + 1)), (2, .int (x2h4 + 1)), (0, .ref a), (1, .int p1)]) hx hb dX7_countAt_37 hl (k := 3) rfl rfl (by decide) rfl (fun ls hl => ?_)
            refine lv_goto (tgt := 4) hx hb dX7_countAt_40 (by decide) ?_
            exact ih4 (x2h4 + 1) (x3h4 + 1) (q_mu c1 hm4) hR _ _ _  hI (lv_sub hl [2, 3, 1, 0] rfl)
  exact loop4 _ 0 0 (q_fuel _) hR _ _ _  hI (lv_sub hl [2, 3, 1, 0] rfl)
def s_X7_tell (v : qSV) (p1 : Int32) (p2 : Int32) : Int32 := (if p1 < 0 then (-1) else (if p1 < v.2.2.2.2 then (if p2 = 0 then rowAt v.1 p1 else (if p2 = 1 then rowAt v.2.1 p1 else (if p2 = 2 then rowAt v.2.2.1 p1 else (if p2 = 3 then rowAt v.2.2.2.1 p1 else (-2))))) else (-1)))
set_option maxHeartbeats 4000000 in
set_option maxRecDepth 20000 in
theorem c_X7_tell (l : Launch) (D : va_G) (cs : qC) {M0 : qM} {N a : Nat} {v : qSV} (hL0 : qLS cs M0 a v) (p1 : Int32) (p2 : Int32) :
    qMet l D cs yX7_tell (qws yX7_tell cX7_tell 3 (some .int)) ({ frames := 1, cells := 0, slots := 0, locals := 21 } : Room) M0 N [.ref a, .int p1, .int p2] (qRet M0 N (.int (s_X7_tell v p1 p2))) 0 0 := by
  obtain ⟨R, hR⟩ : ∃ R, s_X7_tell v p1 p2 = R := ⟨_, rfl⟩
  rw [hR]
  rw [s_X7_tell] at hR
  refine q_head (by decide) ?_ (Nat.le_of_ble_eq_true rfl)
  intro p e s m below meth c ls hx hb hret hlk hml hown hnm hg hK hN hI hl
  have hl : lv_has ls 3 [(0, .ref a), (1, .int p1), (2, .int p2)] := hl
  refine lv_iload_n hx hb dX7_tell_0 rfl (lv_at hl 1 rfl) ?_
  refine lv_if_lt (tgt := 12) hx hb dX7_tell_1 (by decide) (fun c1 => ?_) (fun c1 => ?_)
  · rw [if_pos c1] at hR
    refine lv_iconst (v := (-1)) hx hb dX7_tell_12 (by decide) ?_
    exact q_iret hx hb hret hlk hN hI (by subst hR; exact ⟨rfl, rfl, rfl⟩) dX7_tell_13
  · rw [if_neg c1] at hR
    refine lv_iload_n hx hb dX7_tell_4 rfl (lv_at hl 1 rfl) ?_
    refine lv_aload_n hx hb dX7_tell_5 rfl (lv_at hl 0 rfl) ?_
    refine q_get hx hb hg in_X7 hown hK hI hL0.1 rfl 4 (by decide) (hg _ wf_X7_24) (fun _ h9 => h9) rfl dX7_tell_6 ?_
    refine lv_icmp_lt (tgt := 14) hx hb dX7_tell_9 (by decide) (fun c2 => ?_) (fun c2 => ?_)
    · rw [if_pos c2] at hR
      refine lv_iload_n hx hb dX7_tell_14 rfl (lv_at hl 2 rfl) ?_
      by_cases h3 : p2 = 0
      · rw [if_pos h3] at hR
        refine lv_tableIn (off := 29) (tgt := 44) hx hb dX7_tell_15 (by rw [h3]; decide) (by rw [h3]; decide) (by rw [h3]; decide) (by decide) ?_
        refine lv_aload_n hx hb dX7_tell_44 rfl (lv_at hl 0 rfl) ?_
        refine q_get hx hb hg in_X7 hown hK hI hL0.1 rfl 0 (by decide) (hg _ wf_X7_9) (fun _ h9 => h9) rfl dX7_tell_45 ?_
        refine lv_iload_n hx hb dX7_tell_48 rfl (lv_at hl 1 rfl) ?_
        refine q_goR (q_runSN (As := [.ref (a + 1), .int p1]) (rest := []) hx hb hml hown hg (c_X10_at l D cs hL0.2.1 p1) v_X10_at (hK.2 _ (List.mem_of_getElem? (i := 41) rfl)) rfl rfl ⟨Nat.le_of_ble_eq_true rfl, Nat.le_of_ble_eq_true rfl⟩ hI hK hl.1 rfl rfl (Nat.le_of_ble_eq_true rfl) dX7_tell_49 ⟨Nat.le_of_ble_eq_true rfl, Nat.le_of_ble_eq_true rfl⟩) hI (fun H locs hI => ?_)
        refine lv_goto (tgt := 90) hx hb dX7_tell_52 (by decide) ?_
        exact q_iret hx hb hret hlk hN hI (by subst hR; exact ⟨rfl, rfl, rfl⟩) dX7_tell_90
      rw [if_neg h3] at hR
      by_cases h4 : p2 = 1
      · rw [if_pos h4] at hR
        refine lv_tableIn (off := 40) (tgt := 55) hx hb dX7_tell_15 (by rw [h4]; decide) (by rw [h4]; decide) (by rw [h4]; decide) (by decide) ?_
        refine lv_aload_n hx hb dX7_tell_55 rfl (lv_at hl 0 rfl) ?_
        refine q_get hx hb hg in_X7 hown hK hI hL0.1 rfl 1 (by decide) (hg _ wf_X7_15) (fun _ h9 => h9) rfl dX7_tell_56 ?_
        refine lv_iload_n hx hb dX7_tell_59 rfl (lv_at hl 1 rfl) ?_
        refine q_goR (q_runSN (As := [.ref (a + 2), .int p1]) (rest := []) hx hb hml hown hg (c_X10_at l D cs hL0.2.2.1 p1) v_X10_at (hK.2 _ (List.mem_of_getElem? (i := 41) rfl)) rfl rfl ⟨Nat.le_of_ble_eq_true rfl, Nat.le_of_ble_eq_true rfl⟩ hI hK hl.1 rfl rfl (Nat.le_of_ble_eq_true rfl) dX7_tell_60 ⟨Nat.le_of_ble_eq_true rfl, Nat.le_of_ble_eq_true rfl⟩) hI (fun H locs hI => ?_)
        refine lv_goto (tgt := 90) hx hb dX7_tell_63 (by decide) ?_
        exact q_iret hx hb hret hlk hN hI (by subst hR; exact ⟨rfl, rfl, rfl⟩) dX7_tell_90
      rw [if_neg h4] at hR
      by_cases h5 : p2 = 2
      · rw [if_pos h5] at hR
        refine lv_tableIn (off := 51) (tgt := 66) hx hb dX7_tell_15 (by rw [h5]; decide) (by rw [h5]; decide) (by rw [h5]; decide) (by decide) ?_
        refine lv_aload_n hx hb dX7_tell_66 rfl (lv_at hl 0 rfl) ?_
        refine q_get hx hb hg in_X7 hown hK hI hL0.1 rfl 2 (by decide) (hg _ wf_X7_18) (fun _ h9 => h9) rfl dX7_tell_67 ?_
        refine lv_iload_n hx hb dX7_tell_70 rfl (lv_at hl 1 rfl) ?_
        refine q_goR (q_runSN (As := [.ref (a + 3), .int p1]) (rest := []) hx hb hml hown hg (c_X10_at l D cs hL0.2.2.2.1 p1) v_X10_at (hK.2 _ (List.mem_of_getElem? (i := 41) rfl)) rfl rfl ⟨Nat.le_of_ble_eq_true rfl, Nat.le_of_ble_eq_true rfl⟩ hI hK hl.1 rfl rfl (Nat.le_of_ble_eq_true rfl) dX7_tell_71 ⟨Nat.le_of_ble_eq_true rfl, Nat.le_of_ble_eq_true rfl⟩) hI (fun H locs hI => ?_)
        refine lv_goto (tgt := 90) hx hb dX7_tell_74 (by decide) ?_
        exact q_iret hx hb hret hlk hN hI (by subst hR; exact ⟨rfl, rfl, rfl⟩) dX7_tell_90
      rw [if_neg h5] at hR
      by_cases h6 : p2 = 3
      · rw [if_pos h6] at hR
        refine lv_tableIn (off := 62) (tgt := 77) hx hb dX7_tell_15 (by rw [h6]; decide) (by rw [h6]; decide) (by rw [h6]; decide) (by decide) ?_
        refine lv_aload_n hx hb dX7_tell_77 rfl (lv_at hl 0 rfl) ?_
        refine q_get hx hb hg in_X7 hown hK hI hL0.1 rfl 3 (by decide) (hg _ wf_X7_21) (fun _ h9 => h9) rfl dX7_tell_78 ?_
        refine lv_iload_n hx hb dX7_tell_81 rfl (lv_at hl 1 rfl) ?_
        refine q_goR (q_runSN (As := [.ref (a + 4), .int p1]) (rest := []) hx hb hml hown hg (c_X10_at l D cs hL0.2.2.2.2 p1) v_X10_at (hK.2 _ (List.mem_of_getElem? (i := 41) rfl)) rfl rfl ⟨Nat.le_of_ble_eq_true rfl, Nat.le_of_ble_eq_true rfl⟩ hI hK hl.1 rfl rfl (Nat.le_of_ble_eq_true rfl) dX7_tell_82 ⟨Nat.le_of_ble_eq_true rfl, Nat.le_of_ble_eq_true rfl⟩) hI (fun H locs hI => ?_)
        refine lv_goto (tgt := 90) hx hb dX7_tell_85 (by decide) ?_
        exact q_iret hx hb hret hlk hN hI (by subst hR; exact ⟨rfl, rfl, rfl⟩) dX7_tell_90
      rw [if_neg h6] at hR
      refine lv_tableOut (tgt := 88) hx hb dX7_tell_15 (q_tbl (n := 3) (by decide) (fun j hj => by
        have hj2 : j = 0 ∨ j = 1 ∨ j = 2 ∨ j = 3 := by omega
        rcases hj2 with rfl | rfl | rfl | rfl
        · exact h3
        · exact h4
        · exact h5
        · exact h6)) (by decide) ?_
      refine lv_bipush (v := (-2)) hx hb dX7_tell_88 (by decide) ?_
      exact q_iret hx hb hret hlk hN hI (by subst hR; exact ⟨rfl, rfl, rfl⟩) dX7_tell_90
    · rw [if_neg c2] at hR
      refine lv_iconst (v := (-1)) hx hb dX7_tell_12 (by decide) ?_
      exact q_iret hx hb hret hlk hN hI (by subst hR; exact ⟨rfl, rfl, rfl⟩) dX7_tell_13
end
section
def s_X6_refuse (v : qRV) (p1 : Int32) (p2 : Int32) : Int32 × qRV := ((-3), (p1, p2, 0, 0))
set_option maxHeartbeats 4000000 in
set_option maxRecDepth 20000 in
theorem c_X6_refuse (l : Launch) (D : va_G) (cs : qC) {M0 : qM} {N a : Nat} {v : qRV} (hL0 : qLR cs M0 a v) (p1 : Int32) (p2 : Int32) :
    qMet l D cs yX6_refuse (qws yX6_refuse cX6_refuse 3 (some .int)) ({ frames := 0, cells := 0, slots := 0, locals := 0 } : Room) M0 N [.ref a, .int p1, .int p2] (qMod N (some (.int ((s_X6_refuse v p1 p2).1))) (fun M' => qLR cs M' a ((s_X6_refuse v p1 p2).2) ∧ qFr (qIn a 1) M0 M')) 0 0 := by
  obtain ⟨R, hR⟩ : ∃ R, s_X6_refuse v p1 p2 = R := ⟨_, rfl⟩
  rw [hR]
  rw [s_X6_refuse] at hR
  refine q_head (by decide) ?_ (Nat.le_of_ble_eq_true rfl)
  intro p e s m below meth c ls hx hb hret hlk hml hown hnm hg hK hN hI hl
  have hl : lv_has ls 3 [(0, .ref a), (1, .int p1), (2, .int p2)] := hl
  have hS : qFr (qIn a 1) M0 M0 := qFr.rf
  refine lv_aload_n hx hb dX6_refuse_0 rfl (lv_at hl 0 rfl) ?_
  refine lv_iload_n hx hb dX6_refuse_1 rfl (lv_at hl 1 rfl) ?_
  have hn := qLR.i0 p1 hL0
  refine q_put (v := .int p1) hx hb hg in_X6 tyX6_ok nmX6 hown hK hI hL0 rfl 0 (by decide) (hg _ wf_X6_9) (fun _ h9 => h9) rfl rfl rfl (Nat.le_of_ble_eq_true rfl) dX6_refuse_2 (fun H locs hI => ?_)
  obtain ⟨M, hn, hF, hI⟩ : ∃ Mx : qM, qLR cs Mx a (p1, v.2.1, v.2.2.1, v.2.2.2) ∧ qFr (qIn a 1) M0 Mx ∧ qI D M0 s.heap Mx N H locs := ⟨_, hn, qFr.up (by decide), hI⟩
  have hL0 := hn
  have hS := hS.tr hF (fun q hq => by omega)
  refine lv_aload_n hx hb dX6_refuse_5 rfl (lv_at hl 0 rfl) ?_
  refine lv_iload_n hx hb dX6_refuse_6 rfl (lv_at hl 2 rfl) ?_
  have hn := qLR.i1 p2 hL0
  refine q_put (v := .int p2) hx hb hg in_X6 tyX6_ok nmX6 hown hK hI hL0 rfl 1 (by decide) (hg _ wf_X6_15) (fun _ h9 => h9) rfl rfl rfl (Nat.le_of_ble_eq_true rfl) dX6_refuse_7 (fun H locs hI => ?_)
  obtain ⟨M, hn, hF, hI⟩ : ∃ Mx : qM, qLR cs Mx a (p1, p2, v.2.2.1, v.2.2.2) ∧ qFr (qIn a 1) M Mx ∧ qI D M0 s.heap Mx N H locs := ⟨_, hn, qFr.up (by decide), hI⟩
  have hL0 := hn
  have hS := hS.tr hF (fun q hq => by omega)
  refine lv_aload_n hx hb dX6_refuse_10 rfl (lv_at hl 0 rfl) ?_
  refine lv_iconst (v := 0) hx hb dX6_refuse_11 (by decide) ?_
  have hn := qLR.i2 0 hL0
  refine q_put (v := .int 0) hx hb hg in_X6 tyX6_ok nmX6 hown hK hI hL0 rfl 2 (by decide) (hg _ wf_X6_18) (fun _ h9 => h9) rfl rfl rfl (Nat.le_of_ble_eq_true rfl) dX6_refuse_12 (fun H locs hI => ?_)
  obtain ⟨M, hn, hF, hI⟩ : ∃ Mx : qM, qLR cs Mx a (p1, p2, 0, v.2.2.2) ∧ qFr (qIn a 1) M Mx ∧ qI D M0 s.heap Mx N H locs := ⟨_, hn, qFr.up (by decide), hI⟩
  have hL0 := hn
  have hS := hS.tr hF (fun q hq => by omega)
  refine lv_aload_n hx hb dX6_refuse_15 rfl (lv_at hl 0 rfl) ?_
  refine lv_iconst (v := 0) hx hb dX6_refuse_16 (by decide) ?_
  have hn := qLR.i3 0 hL0
  refine q_put (v := .int 0) hx hb hg in_X6 tyX6_ok nmX6 hown hK hI hL0 rfl 3 (by decide) (hg _ wf_X6_21) (fun _ h9 => h9) rfl rfl rfl (Nat.le_of_ble_eq_true rfl) dX6_refuse_17 (fun H locs hI => ?_)
  obtain ⟨M, hn, hF, hI⟩ : ∃ Mx : qM, qLR cs Mx a (p1, p2, 0, 0) ∧ qFr (qIn a 1) M Mx ∧ qI D M0 s.heap Mx N H locs := ⟨_, hn, qFr.up (by decide), hI⟩
  have hL0 := hn
  have hS := hS.tr hF (fun q hq => by omega)
  refine lv_bipush (v := (-3)) hx hb dX6_refuse_20 (by decide) ?_
  exact q_iret hx hb hret hlk hN hI (by subst hR; exact ⟨rfl, ⟨hL0, hS⟩, rfl⟩) dX6_refuse_22
def s_X6_refuseBefore (v : qRV) (p1 : Int32) (p2 : Int32) : Int32 × qRV := ((-3), (p1, p2, v.1, v.2.1))
set_option maxHeartbeats 4000000 in
set_option maxRecDepth 20000 in
theorem c_X6_refuseBefore (l : Launch) (D : va_G) (cs : qC) {M0 : qM} {N a : Nat} {v : qRV} (hL0 : qLR cs M0 a v) (p1 : Int32) (p2 : Int32) :
    qMet l D cs yX6_refuseBefore (qws yX6_refuseBefore cX6_refuseBefore 3 (some .int)) ({ frames := 0, cells := 0, slots := 0, locals := 0 } : Room) M0 N [.ref a, .int p1, .int p2] (qMod N (some (.int ((s_X6_refuseBefore v p1 p2).1))) (fun M' => qLR cs M' a ((s_X6_refuseBefore v p1 p2).2) ∧ qFr (qIn a 1) M0 M')) 0 0 := by
  obtain ⟨R, hR⟩ : ∃ R, s_X6_refuseBefore v p1 p2 = R := ⟨_, rfl⟩
  rw [hR]
  rw [s_X6_refuseBefore] at hR
  refine q_head (by decide) ?_ (Nat.le_of_ble_eq_true rfl)
  intro p e s m below meth c ls hx hb hret hlk hml hown hnm hg hK hN hI hl
  have hl : lv_has ls 3 [(0, .ref a), (1, .int p1), (2, .int p2)] := hl
  have hS : qFr (qIn a 1) M0 M0 := qFr.rf
  refine lv_aload_n hx hb dX6_refuseBefore_0 rfl (lv_at hl 0 rfl) ?_
  refine lv_aload_n hx hb dX6_refuseBefore_1 rfl (lv_at hl 0 rfl) ?_
  refine q_get hx hb hg in_X6 hown hK hI hL0 rfl 0 (by decide) (hg _ wf_X6_9) (fun _ h9 => h9) rfl dX6_refuseBefore_2 ?_
  have hn := qLR.i2 v.1 hL0
  refine q_put (v := .int v.1) hx hb hg in_X6 tyX6_ok nmX6 hown hK hI hL0 rfl 2 (by decide) (hg _ wf_X6_18) (fun _ h9 => h9) rfl rfl rfl (Nat.le_of_ble_eq_true rfl) dX6_refuseBefore_5 (fun H locs hI => ?_)
  obtain ⟨M, hn, hF, hI⟩ : ∃ Mx : qM, qLR cs Mx a (v.1, v.2.1, v.1, v.2.2.2) ∧ qFr (qIn a 1) M0 Mx ∧ qI D M0 s.heap Mx N H locs := ⟨_, hn, qFr.up (by decide), hI⟩
  have hL0 := hn
  have hS := hS.tr hF (fun q hq => by omega)
  refine lv_aload_n hx hb dX6_refuseBefore_8 rfl (lv_at hl 0 rfl) ?_
  refine lv_aload_n hx hb dX6_refuseBefore_9 rfl (lv_at hl 0 rfl) ?_
  refine q_get hx hb hg in_X6 hown hK hI hL0 rfl 1 (by decide) (hg _ wf_X6_15) (fun _ h9 => h9) rfl dX6_refuseBefore_10 ?_
  have hn := qLR.i3 v.2.1 hL0
  refine q_put (v := .int v.2.1) hx hb hg in_X6 tyX6_ok nmX6 hown hK hI hL0 rfl 3 (by decide) (hg _ wf_X6_21) (fun _ h9 => h9) rfl rfl rfl (Nat.le_of_ble_eq_true rfl) dX6_refuseBefore_13 (fun H locs hI => ?_)
  obtain ⟨M, hn, hF, hI⟩ : ∃ Mx : qM, qLR cs Mx a (v.1, v.2.1, v.1, v.2.1) ∧ qFr (qIn a 1) M Mx ∧ qI D M0 s.heap Mx N H locs := ⟨_, hn, qFr.up (by decide), hI⟩
  have hL0 := hn
  have hS := hS.tr hF (fun q hq => by omega)
  refine lv_aload_n hx hb dX6_refuseBefore_16 rfl (lv_at hl 0 rfl) ?_
  refine lv_iload_n hx hb dX6_refuseBefore_17 rfl (lv_at hl 1 rfl) ?_
  have hn := qLR.i0 p1 hL0
  refine q_put (v := .int p1) hx hb hg in_X6 tyX6_ok nmX6 hown hK hI hL0 rfl 0 (by decide) (hg _ wf_X6_9) (fun _ h9 => h9) rfl rfl rfl (Nat.le_of_ble_eq_true rfl) dX6_refuseBefore_18 (fun H locs hI => ?_)
  obtain ⟨M, hn, hF, hI⟩ : ∃ Mx : qM, qLR cs Mx a (p1, v.2.1, v.1, v.2.1) ∧ qFr (qIn a 1) M Mx ∧ qI D M0 s.heap Mx N H locs := ⟨_, hn, qFr.up (by decide), hI⟩
  have hL0 := hn
  have hS := hS.tr hF (fun q hq => by omega)
  refine lv_aload_n hx hb dX6_refuseBefore_21 rfl (lv_at hl 0 rfl) ?_
  refine lv_iload_n hx hb dX6_refuseBefore_22 rfl (lv_at hl 2 rfl) ?_
  have hn := qLR.i1 p2 hL0
  refine q_put (v := .int p2) hx hb hg in_X6 tyX6_ok nmX6 hown hK hI hL0 rfl 1 (by decide) (hg _ wf_X6_15) (fun _ h9 => h9) rfl rfl rfl (Nat.le_of_ble_eq_true rfl) dX6_refuseBefore_23 (fun H locs hI => ?_)
  obtain ⟨M, hn, hF, hI⟩ : ∃ Mx : qM, qLR cs Mx a (p1, p2, v.1, v.2.1) ∧ qFr (qIn a 1) M Mx ∧ qI D M0 s.heap Mx N H locs := ⟨_, hn, qFr.up (by decide), hI⟩
  have hL0 := hn
  have hS := hS.tr hF (fun q hq => by omega)
  refine lv_bipush (v := (-3)) hx hb dX6_refuseBefore_26 (by decide) ?_
  exact q_iret hx hb hret hlk hN hI (by subst hR; exact ⟨rfl, ⟨hL0, hS⟩, rfl⟩) dX6_refuseBefore_28
def s_X6_tell (v : qRV) (p1 : Int32) (p2 : Int32) : Int32 := (if p1 < 0 then (-2) else (if p1 ≤ 1 then (if p1 = 0 then (if v.1 = 0 then (-4) else (if p1 = 0 then (if p2 = 0 then v.1 else v.2.1) else (if p2 = 0 then v.1 else v.2.2.2))) else (if v.2.2.1 = 0 then (-4) else (if p1 = 0 then (if p2 = 0 then v.2.2.1 else v.2.1) else (if p2 = 0 then v.2.2.1 else v.2.2.2)))) else (-2)))
set_option maxHeartbeats 4000000 in
set_option maxRecDepth 20000 in
theorem c_X6_tell (l : Launch) (D : va_G) (cs : qC) {M0 : qM} {N a : Nat} {v : qRV} (hL0 : qLR cs M0 a v) (p1 : Int32) (p2 : Int32) :
    qMet l D cs yX6_tell (qws yX6_tell cX6_tell 5 (some .int)) ({ frames := 0, cells := 0, slots := 0, locals := 0 } : Room) M0 N [.ref a, .int p1, .int p2] (qRet M0 N (.int (s_X6_tell v p1 p2))) 0 0 := by
  obtain ⟨R, hR⟩ : ∃ R, s_X6_tell v p1 p2 = R := ⟨_, rfl⟩
  rw [hR]
  rw [s_X6_tell] at hR
  refine q_head (by decide) ?_ (Nat.le_of_ble_eq_true rfl)
  intro p e s m below meth c ls hx hb hret hlk hml hown hnm hg hK hN hI hl
  have hl : lv_has ls 5 [(0, .ref a), (1, .int p1), (2, .int p2)] := hl
  refine lv_iload_n hx hb dX6_tell_0 rfl (lv_at hl 1 rfl) ?_
  refine lv_if_lt (tgt := 9) hx hb dX6_tell_1 (by decide) (fun c1 => ?_) (fun c1 => ?_)
  · rw [if_pos c1] at hR
    refine lv_bipush (v := (-2)) hx hb dX6_tell_9 (by decide) ?_
    exact q_iret hx hb hret hlk hN hI (by subst hR; exact ⟨rfl, rfl, rfl⟩) dX6_tell_11
  · rw [if_neg c1] at hR
    refine lv_iload_n hx hb dX6_tell_4 rfl (lv_at hl 1 rfl) ?_
    refine lv_iconst (v := 1) hx hb dX6_tell_5 (by decide) ?_
    refine lv_icmp_le (tgt := 12) hx hb dX6_tell_6 (by decide) (fun c2 => ?_) (fun c2 => ?_)
    · rw [if_pos c2] at hR
      refine lv_iload_n hx hb dX6_tell_12 rfl (lv_at hl 1 rfl) ?_
      refine lv_if_ne (tgt := 23) hx hb dX6_tell_13 (by decide) (fun c3 => ?_) (fun c3 => ?_)
      · rw [if_neg c3] at hR
        refine lv_aload_n hx hb dX6_tell_23 rfl (lv_at hl 0 rfl) ?_
        refine q_get hx hb hg in_X6 hown hK hI hL0 rfl 2 (by decide) (hg _ wf_X6_18) (fun _ h9 => h9) rfl dX6_tell_24 ?_
        refine lv_istore_n (lv' := [(3, .int v.2.2.1), (0, .ref a), (1, .int p1), (2, .int p2)]) hx hb dX6_tell_27 rfl hl (by decide) rfl (fun ls hl => ?_)
        refine lv_iload_n hx hb dX6_tell_28 rfl (lv_at hl 0 rfl) ?_
        refine lv_if_ne (tgt := 35) hx hb dX6_tell_29 (by decide) (fun c4 => ?_) (fun c4 => ?_)
        · rw [if_neg c4] at hR
          refine lv_iload_n hx hb dX6_tell_35 rfl (lv_at hl 2 rfl) ?_
          refine lv_if_ne (tgt := 46) hx hb dX6_tell_36 (by decide) (fun c5 => ?_) (fun c5 => ?_)
          · rw [if_neg c5] at hR
            refine lv_aload_n hx hb dX6_tell_46 rfl (lv_at hl 1 rfl) ?_
            refine q_get hx hb hg in_X6 hown hK hI hL0 rfl 3 (by decide) (hg _ wf_X6_21) (fun _ h9 => h9) rfl dX6_tell_47 ?_
            refine lv_istore (lv' := [(4, .int v.2.2.2), (3, .int v.2.2.1), (0, .ref a), (1, .int p1), (2, .int p2)]) hx hb dX6_tell_50 hl (by decide) rfl (fun ls hl => ?_)
            refine lv_iload_n hx hb dX6_tell_52 rfl (lv_at hl 4 rfl) ?_
            refine lv_if_eq (tgt := 61) hx hb dX6_tell_53 (by decide) (fun c6 => ?_) (fun c6 => ?_)
            · rw [if_pos c6] at hR
              refine lv_iload_n hx hb dX6_tell_61 rfl (lv_at hl 1 rfl) ?_
              exact q_iret hx hb hret hlk hN hI (by subst hR; exact ⟨rfl, rfl, rfl⟩) dX6_tell_62
            · rw [if_neg c6] at hR
              refine lv_iload hx hb dX6_tell_56 (lv_at hl 0 rfl) ?_
              refine lv_goto (tgt := 62) hx hb dX6_tell_58 (by decide) ?_
              exact q_iret hx hb hret hlk hN hI (by subst hR; exact ⟨rfl, rfl, rfl⟩) dX6_tell_62
          · rw [if_pos c5] at hR
            refine lv_aload_n hx hb dX6_tell_39 rfl (lv_at hl 1 rfl) ?_
            refine q_get hx hb hg in_X6 hown hK hI hL0 rfl 1 (by decide) (hg _ wf_X6_15) (fun _ h9 => h9) rfl dX6_tell_40 ?_
            refine lv_goto (tgt := 50) hx hb dX6_tell_43 (by decide) ?_
            refine lv_istore (lv' := [(4, .int v.2.1), (3, .int v.2.2.1), (0, .ref a), (1, .int p1), (2, .int p2)]) hx hb dX6_tell_50 hl (by decide) rfl (fun ls hl => ?_)
            refine lv_iload_n hx hb dX6_tell_52 rfl (lv_at hl 4 rfl) ?_
            refine lv_if_eq (tgt := 61) hx hb dX6_tell_53 (by decide) (fun c7 => ?_) (fun c7 => ?_)
            · rw [if_pos c7] at hR
              refine lv_iload_n hx hb dX6_tell_61 rfl (lv_at hl 1 rfl) ?_
              exact q_iret hx hb hret hlk hN hI (by subst hR; exact ⟨rfl, rfl, rfl⟩) dX6_tell_62
            · rw [if_neg c7] at hR
              refine lv_iload hx hb dX6_tell_56 (lv_at hl 0 rfl) ?_
              refine lv_goto (tgt := 62) hx hb dX6_tell_58 (by decide) ?_
              exact q_iret hx hb hret hlk hN hI (by subst hR; exact ⟨rfl, rfl, rfl⟩) dX6_tell_62
        · rw [if_pos c4] at hR
          refine lv_bipush (v := (-4)) hx hb dX6_tell_32 (by decide) ?_
          exact q_iret hx hb hret hlk hN hI (by subst hR; exact ⟨rfl, rfl, rfl⟩) dX6_tell_34
      · rw [if_pos c3] at hR
        refine lv_aload_n hx hb dX6_tell_16 rfl (lv_at hl 0 rfl) ?_
        refine q_get hx hb hg in_X6 hown hK hI hL0 rfl 0 (by decide) (hg _ wf_X6_9) (fun _ h9 => h9) rfl dX6_tell_17 ?_
        refine lv_goto (tgt := 27) hx hb dX6_tell_20 (by decide) ?_
        refine lv_istore_n (lv' := [(3, .int v.1), (0, .ref a), (1, .int p1), (2, .int p2)]) hx hb dX6_tell_27 rfl hl (by decide) rfl (fun ls hl => ?_)
        refine lv_iload_n hx hb dX6_tell_28 rfl (lv_at hl 0 rfl) ?_
        refine lv_if_ne (tgt := 35) hx hb dX6_tell_29 (by decide) (fun c8 => ?_) (fun c8 => ?_)
        · rw [if_neg c8] at hR
          refine lv_iload_n hx hb dX6_tell_35 rfl (lv_at hl 2 rfl) ?_
          refine lv_if_ne (tgt := 46) hx hb dX6_tell_36 (by decide) (fun c9 => ?_) (fun c9 => ?_)
          · rw [if_neg c9] at hR
            refine lv_aload_n hx hb dX6_tell_46 rfl (lv_at hl 1 rfl) ?_
            refine q_get hx hb hg in_X6 hown hK hI hL0 rfl 3 (by decide) (hg _ wf_X6_21) (fun _ h9 => h9) rfl dX6_tell_47 ?_
            refine lv_istore (lv' := [(4, .int v.2.2.2), (3, .int v.1), (0, .ref a), (1, .int p1), (2, .int p2)]) hx hb dX6_tell_50 hl (by decide) rfl (fun ls hl => ?_)
            refine lv_iload_n hx hb dX6_tell_52 rfl (lv_at hl 4 rfl) ?_
            refine lv_if_eq (tgt := 61) hx hb dX6_tell_53 (by decide) (fun c10 => ?_) (fun c10 => ?_)
            · rw [if_pos c10] at hR
              refine lv_iload_n hx hb dX6_tell_61 rfl (lv_at hl 1 rfl) ?_
              exact q_iret hx hb hret hlk hN hI (by subst hR; exact ⟨rfl, rfl, rfl⟩) dX6_tell_62
            · rw [if_neg c10] at hR
              refine lv_iload hx hb dX6_tell_56 (lv_at hl 0 rfl) ?_
              refine lv_goto (tgt := 62) hx hb dX6_tell_58 (by decide) ?_
              exact q_iret hx hb hret hlk hN hI (by subst hR; exact ⟨rfl, rfl, rfl⟩) dX6_tell_62
          · rw [if_pos c9] at hR
            refine lv_aload_n hx hb dX6_tell_39 rfl (lv_at hl 1 rfl) ?_
            refine q_get hx hb hg in_X6 hown hK hI hL0 rfl 1 (by decide) (hg _ wf_X6_15) (fun _ h9 => h9) rfl dX6_tell_40 ?_
            refine lv_goto (tgt := 50) hx hb dX6_tell_43 (by decide) ?_
            refine lv_istore (lv' := [(4, .int v.2.1), (3, .int v.1), (0, .ref a), (1, .int p1), (2, .int p2)]) hx hb dX6_tell_50 hl (by decide) rfl (fun ls hl => ?_)
            refine lv_iload_n hx hb dX6_tell_52 rfl (lv_at hl 4 rfl) ?_
            refine lv_if_eq (tgt := 61) hx hb dX6_tell_53 (by decide) (fun c11 => ?_) (fun c11 => ?_)
            · rw [if_pos c11] at hR
              refine lv_iload_n hx hb dX6_tell_61 rfl (lv_at hl 1 rfl) ?_
              exact q_iret hx hb hret hlk hN hI (by subst hR; exact ⟨rfl, rfl, rfl⟩) dX6_tell_62
            · rw [if_neg c11] at hR
              refine lv_iload hx hb dX6_tell_56 (lv_at hl 0 rfl) ?_
              refine lv_goto (tgt := 62) hx hb dX6_tell_58 (by decide) ?_
              exact q_iret hx hb hret hlk hN hI (by subst hR; exact ⟨rfl, rfl, rfl⟩) dX6_tell_62
        · rw [if_pos c8] at hR
          refine lv_bipush (v := (-4)) hx hb dX6_tell_32 (by decide) ?_
          exact q_iret hx hb hret hlk hN hI (by subst hR; exact ⟨rfl, rfl, rfl⟩) dX6_tell_34
    · rw [if_neg c2] at hR
      refine lv_bipush (v := (-2)) hx hb dX6_tell_9 (by decide) ?_
      exact q_iret hx hb hret hlk hN hI (by subst hR; exact ⟨rfl, rfl, rfl⟩) dX6_tell_11
def s_X4_makeEmpty (v : qNV)  : qNV := (v.1, 0)
set_option maxHeartbeats 4000000 in
set_option maxRecDepth 20000 in
theorem c_X4_makeEmpty (l : Launch) (D : va_G) (cs : qC) {M0 : qM} {N a : Nat} {v : qNV} (hL0 : qLN cs M0 a v) :
    qMet l D cs yX4_makeEmpty (qws yX4_makeEmpty cX4_makeEmpty 1 none) ({ frames := 0, cells := 0, slots := 0, locals := 0 } : Room) M0 N [.ref a] (qMod N none (fun M' => qLN cs M' a (s_X4_makeEmpty v) ∧ qFr (qIn a 2) M0 M')) 0 0 := by
  obtain ⟨R, hR⟩ : ∃ R, s_X4_makeEmpty v = R := ⟨_, rfl⟩
  rw [hR]
  rw [s_X4_makeEmpty] at hR
  refine q_head (by decide) ?_ (Nat.le_of_ble_eq_true rfl)
  intro p e s m below meth c ls hx hb hret hlk hml hown hnm hg hK hN hI hl
  have hl : lv_has ls 1 [(0, .ref a)] := hl
  have hS : qFr (qIn a 2) M0 M0 := qFr.rf
  refine lv_aload_n hx hb dX4_makeEmpty_0 rfl (lv_at hl 0 rfl) ?_
  refine lv_iconst (v := 0) hx hb dX4_makeEmpty_1 (by decide) ?_
  have hn := qLN.i1 0 hL0
  refine q_put (v := .int 0) hx hb hg in_X4 tyX4_ok nmX4 hown hK hI hL0.1 rfl 1 (by decide) (hg _ wf_X4_15) (fun _ h9 => h9) rfl rfl rfl (Nat.le_of_ble_eq_true rfl) dX4_makeEmpty_2 (fun H locs hI => ?_)
  obtain ⟨M, hn, hF, hI⟩ : ∃ Mx : qM, qLN cs Mx a (v.1, 0) ∧ qFr (qIn a 1) M0 Mx ∧ qI D M0 s.heap Mx N H locs := ⟨_, hn, qFr.up (by decide), hI⟩
  have hL0 := hn
  have hS := hS.tr hF (fun q hq => by omega)
  exact q_vret (st := []) hx hb hret hlk hN hI (by subst hR; exact ⟨rfl, ⟨hL0, hS⟩, rfl⟩) dX4_makeEmpty_5
def s_X4_addSign (v : qNV) (p1 : Int32) : qNV := (if 54 ≤ v.2 then v else ((rowPut v.1 v.2 p1), v.2 + 1))
set_option maxHeartbeats 4000000 in
set_option maxRecDepth 20000 in
theorem c_X4_addSign (l : Launch) (D : va_G) (cs : qC) {M0 : qM} {N a : Nat} {v : qNV} (hL0 : qLN cs M0 a v) (p1 : Int32) :
    qMet l D cs yX4_addSign (qws yX4_addSign cX4_addSign 2 none) ({ frames := 1, cells := 0, slots := 0, locals := 22 } : Room) M0 N [.ref a, .int p1] (qMod N none (fun M' => qLN cs M' a (s_X4_addSign v p1) ∧ qFr (qIn a 2) M0 M')) 0 0 := by
  obtain ⟨R, hR⟩ : ∃ R, s_X4_addSign v p1 = R := ⟨_, rfl⟩
  rw [hR]
  rw [s_X4_addSign] at hR
  refine q_head (by decide) ?_ (Nat.le_of_ble_eq_true rfl)
  intro p e s m below meth c ls hx hb hret hlk hml hown hnm hg hK hN hI hl
  have hl : lv_has ls 2 [(0, .ref a), (1, .int p1)] := hl
  have hS : qFr (qIn a 2) M0 M0 := qFr.rf
  refine lv_aload_n hx hb dX4_addSign_0 rfl (lv_at hl 0 rfl) ?_
  refine q_get hx hb hg in_X4 hown hK hI hL0.1 rfl 1 (by decide) (hg _ wf_X4_15) (fun _ h9 => h9) rfl dX4_addSign_1 ?_
  refine lv_bipush (v := 54) hx hb dX4_addSign_4 (by decide) ?_
  refine lv_icmp_ge (tgt := 31) hx hb dX4_addSign_6 (by decide) (fun c1 => ?_) (fun c1 => ?_)
  · rw [if_pos c1] at hR
    exact q_vret (st := []) hx hb hret hlk hN hI (by subst hR; exact ⟨rfl, ⟨hL0, hS⟩, rfl⟩) dX4_addSign_31
  · rw [if_neg c1] at hR
    refine lv_aload_n hx hb dX4_addSign_9 rfl (lv_at hl 0 rfl) ?_
    refine q_get hx hb hg in_X4 hown hK hI hL0.1 rfl 0 (by decide) (hg _ wf_X4_9) (fun _ h9 => h9) rfl dX4_addSign_10 ?_
    refine lv_aload_n hx hb dX4_addSign_13 rfl (lv_at hl 0 rfl) ?_
    refine q_get hx hb hg in_X4 hown hK hI hL0.1 rfl 1 (by decide) (hg _ wf_X4_15) (fun _ h9 => h9) rfl dX4_addSign_14 ?_
    refine lv_iload_n hx hb dX4_addSign_17 rfl (lv_at hl 1 rfl) ?_
    refine q_goN (q_runSN (As := [.ref (a + 1), .int v.2, .int p1]) (rest := []) hx hb hml hown hg (c_X10_put l D cs hL0.2 v.2 p1) v_X10_put (hK.2 _ (List.mem_of_getElem? (i := 47) rfl)) rfl rfl ⟨Nat.le_of_ble_eq_true rfl, Nat.le_of_ble_eq_true rfl⟩ hI hK hl.1 rfl rfl (Nat.le_of_ble_eq_true rfl) dX4_addSign_18 ⟨Nat.le_of_ble_eq_true rfl, Nat.le_of_ble_eq_true rfl⟩) hI (fun M H locs hp hI => ?_)
    obtain ⟨hn0, hF⟩ := hp
    generalize heg2 : rowPut v.1 v.2 p1 = g2 at hn0 hR
    have hn := hn0
    have hn : qLN cs M a (g2, v.2) := qLN.s0 (v := v) hL0 hn (qFr.rf.tr hF (fun q hq => by omega))
    have hL0 := hn
    have hS := hS.tr hF (fun q hq => by omega)
    refine lv_aload_n hx hb dX4_addSign_21 rfl (lv_at hl 0 rfl) ?_
    refine lv_dup hx hb dX4_addSign_22 rfl ?_
    refine q_get hx hb hg in_X4 hown hK hI hL0.1 rfl 1 (by decide) (hg _ wf_X4_15) (fun _ h9 => h9) rfl dX4_addSign_23 ?_
    refine lv_iconst (v := 1) hx hb dX4_addSign_26 (by decide) ?_
    refine lv_iadd hx hb dX4_addSign_27 ?_
    have hn := qLN.i1 (v.2 + 1) hL0
    refine q_put (v := .int (v.2 + 1)) hx hb hg in_X4 tyX4_ok nmX4 hown hK hI hL0.1 rfl 1 (by decide) (hg _ wf_X4_15) (fun _ h9 => h9) rfl rfl rfl (Nat.le_of_ble_eq_true rfl) dX4_addSign_28 (fun H locs hI => ?_)
    obtain ⟨M, hn, hF, hI⟩ : ∃ Mx : qM, qLN cs Mx a (g2, v.2 + 1) ∧ qFr (qIn a 1) M Mx ∧ qI D M0 s.heap Mx N H locs := ⟨_, hn, qFr.up (by decide), hI⟩
    have hL0 := hn
    have hS := hS.tr hF (fun q hq => by omega)
    exact q_vret (st := []) hx hb hret hlk hN hI (by subst hR; exact ⟨rfl, ⟨hL0, hS⟩, rfl⟩) dX4_addSign_31
def s_X4_addNumber (v : qNV) (p1 : Int32) : qNV := (if p1 < 10 then (s_X4_addSign v (((48 + (p1 - p1 / 10 * 10)).toUInt32 % 65536).toInt32)) else (s_X4_addSign (s_X4_addSign v (((48 + (p1 / 10)).toUInt32 % 65536).toInt32)) (((48 + (p1 - p1 / 10 * 10)).toUInt32 % 65536).toInt32)))
set_option maxHeartbeats 4000000 in
set_option maxRecDepth 20000 in
theorem c_X4_addNumber (l : Launch) (D : va_G) (cs : qC) {M0 : qM} {N a : Nat} {v : qNV} (hL0 : qLN cs M0 a v) (p1 : Int32) :
    qMet l D cs yX4_addNumber (qws yX4_addNumber cX4_addNumber 2 none) ({ frames := 2, cells := 0, slots := 0, locals := 43 } : Room) M0 N [.ref a, .int p1] (qMod N none (fun M' => qLN cs M' a (s_X4_addNumber v p1) ∧ qFr (qIn a 2) M0 M')) 0 0 := by
  obtain ⟨R, hR⟩ : ∃ R, s_X4_addNumber v p1 = R := ⟨_, rfl⟩
  rw [hR]
  rw [s_X4_addNumber] at hR
  refine q_head (by decide) ?_ (Nat.le_of_ble_eq_true rfl)
  intro p e s m below meth c ls hx hb hret hlk hml hown hnm hg hK hN hI hl
  have hl : lv_has ls 2 [(0, .ref a), (1, .int p1)] := hl
  have hS : qFr (qIn a 2) M0 M0 := qFr.rf
  refine lv_iload_n hx hb dX4_addNumber_0 rfl (lv_at hl 1 rfl) ?_
  refine lv_bipush (v := 10) hx hb dX4_addNumber_1 (by decide) ?_
  refine lv_icmp_lt (tgt := 18) hx hb dX4_addNumber_3 (by decide) (fun c1 => ?_) (fun c1 => ?_)
  · rw [if_pos c1] at hR
    refine lv_aload_n hx hb dX4_addNumber_18 rfl (lv_at hl 0 rfl) ?_
    refine lv_bipush (v := 48) hx hb dX4_addNumber_19 (by decide) ?_
    refine lv_iload_n hx hb dX4_addNumber_21 rfl (lv_at hl 1 rfl) ?_
    refine lv_bipush (v := 10) hx hb dX4_addNumber_22 (by decide) ?_
    refine lv_irem hx hb dX4_addNumber_24 (by decide) ?_
    refine lv_iadd hx hb dX4_addNumber_25 ?_
    refine lv_i2c hx hb dX4_addNumber_26 rfl ?_
    refine q_goN (q_runV (As := [.int (((48 + (p1 - p1 / 10 * 10)).toUInt32 % 65536).toInt32)]) (rest := []) hx hb hml hown hg (c_X4_addSign l D cs hL0 (((48 + (p1 - p1 / 10 * 10)).toUInt32 % 65536).toInt32)) v_X4_addSign wl_X4_23 rfl rfl ⟨Nat.le_of_ble_eq_true rfl, Nat.le_of_ble_eq_true rfl⟩ hI hK 5 hL0.1 rfl hl.1 rfl rfl (Nat.le_of_ble_eq_true rfl) dX4_addNumber_27 ⟨Nat.le_of_ble_eq_true rfl, Nat.le_of_ble_eq_true rfl⟩) hI (fun M H locs hp hI => ?_)
    obtain ⟨hn0, hF⟩ := hp
    generalize heg2 : s_X4_addSign v (((48 + (p1 - p1 / 10 * 10)).toUInt32 % 65536).toInt32) = g2 at hn0 hR
    have hn := hn0
    have hL0 := hn
    have hS := hS.tr hF (fun q hq => by omega)
    exact q_vret (st := []) hx hb hret hlk hN hI (by subst hR; exact ⟨rfl, ⟨hL0, hS⟩, rfl⟩) dX4_addNumber_30
  · rw [if_neg c1] at hR
    refine lv_aload_n hx hb dX4_addNumber_6 rfl (lv_at hl 0 rfl) ?_
    refine lv_bipush (v := 48) hx hb dX4_addNumber_7 (by decide) ?_
    refine lv_iload_n hx hb dX4_addNumber_9 rfl (lv_at hl 1 rfl) ?_
    refine lv_bipush (v := 10) hx hb dX4_addNumber_10 (by decide) ?_
    refine lv_idiv hx hb dX4_addNumber_12 (by decide) ?_
    refine lv_iadd hx hb dX4_addNumber_13 ?_
    refine lv_i2c hx hb dX4_addNumber_14 rfl ?_
    refine q_goN (q_runV (As := [.int (((48 + (p1 / 10)).toUInt32 % 65536).toInt32)]) (rest := []) hx hb hml hown hg (c_X4_addSign l D cs hL0 (((48 + (p1 / 10)).toUInt32 % 65536).toInt32)) v_X4_addSign wl_X4_23 rfl rfl ⟨Nat.le_of_ble_eq_true rfl, Nat.le_of_ble_eq_true rfl⟩ hI hK 5 hL0.1 rfl hl.1 rfl rfl (Nat.le_of_ble_eq_true rfl) dX4_addNumber_15 ⟨Nat.le_of_ble_eq_true rfl, Nat.le_of_ble_eq_true rfl⟩) hI (fun M H locs hp hI => ?_)
    obtain ⟨hn0, hF⟩ := hp
    generalize heg3 : s_X4_addSign v (((48 + (p1 / 10)).toUInt32 % 65536).toInt32) = g3 at hn0 hR
    have hn := hn0
    have hL0 := hn
    have hS := hS.tr hF (fun q hq => by omega)
    refine lv_aload_n hx hb dX4_addNumber_18 rfl (lv_at hl 0 rfl) ?_
    refine lv_bipush (v := 48) hx hb dX4_addNumber_19 (by decide) ?_
    refine lv_iload_n hx hb dX4_addNumber_21 rfl (lv_at hl 1 rfl) ?_
    refine lv_bipush (v := 10) hx hb dX4_addNumber_22 (by decide) ?_
    refine lv_irem hx hb dX4_addNumber_24 (by decide) ?_
    refine lv_iadd hx hb dX4_addNumber_25 ?_
    refine lv_i2c hx hb dX4_addNumber_26 rfl ?_
    refine q_goN (q_runV (As := [.int (((48 + (p1 - p1 / 10 * 10)).toUInt32 % 65536).toInt32)]) (rest := []) hx hb hml hown hg (c_X4_addSign l D cs hL0 (((48 + (p1 - p1 / 10 * 10)).toUInt32 % 65536).toInt32)) v_X4_addSign wl_X4_23 rfl rfl ⟨Nat.le_of_ble_eq_true rfl, Nat.le_of_ble_eq_true rfl⟩ hI hK 5 hL0.1 rfl hl.1 rfl rfl (Nat.le_of_ble_eq_true rfl) dX4_addNumber_27 ⟨Nat.le_of_ble_eq_true rfl, Nat.le_of_ble_eq_true rfl⟩) hI (fun M H locs hp hI => ?_)
    obtain ⟨hn0, hF⟩ := hp
    generalize heg4 : s_X4_addSign g3 (((48 + (p1 - p1 / 10 * 10)).toUInt32 % 65536).toInt32) = g4 at hn0 hR
    have hn := hn0
    have hL0 := hn
    have hS := hS.tr hF (fun q hq => by omega)
    exact q_vret (st := []) hx hb hret hlk hN hI (by subst hR; exact ⟨rfl, ⟨hL0, hS⟩, rfl⟩) dX4_addNumber_30
def s_X4_codeAt (v : qNV) (p1 : Int32) : Int32 := (if v.2 ≤ p1 then (-1) else rowAt v.1 p1)
set_option maxHeartbeats 4000000 in
set_option maxRecDepth 20000 in
theorem c_X4_codeAt (l : Launch) (D : va_G) (cs : qC) {M0 : qM} {N a : Nat} {v : qNV} (hL0 : qLN cs M0 a v) (p1 : Int32) :
    qMet l D cs yX4_codeAt (qws yX4_codeAt cX4_codeAt 2 (some .int)) ({ frames := 1, cells := 0, slots := 0, locals := 21 } : Room) M0 N [.ref a, .int p1] (qRet M0 N (.int (s_X4_codeAt v p1))) 0 0 := by
  obtain ⟨R, hR⟩ : ∃ R, s_X4_codeAt v p1 = R := ⟨_, rfl⟩
  rw [hR]
  rw [s_X4_codeAt] at hR
  refine q_head (by decide) ?_ (Nat.le_of_ble_eq_true rfl)
  intro p e s m below meth c ls hx hb hret hlk hml hown hnm hg hK hN hI hl
  have hl : lv_has ls 2 [(0, .ref a), (1, .int p1)] := hl
  refine lv_iload_n hx hb dX4_codeAt_0 rfl (lv_at hl 1 rfl) ?_
  refine lv_aload_n hx hb dX4_codeAt_1 rfl (lv_at hl 0 rfl) ?_
  refine q_get hx hb hg in_X4 hown hK hI hL0.1 rfl 1 (by decide) (hg _ wf_X4_15) (fun _ h9 => h9) rfl dX4_codeAt_2 ?_
  refine lv_icmp_ge (tgt := 19) hx hb dX4_codeAt_5 (by decide) (fun c1 => ?_) (fun c1 => ?_)
  · rw [if_pos c1] at hR
    refine lv_iconst (v := (-1)) hx hb dX4_codeAt_19 (by decide) ?_
    exact q_iret hx hb hret hlk hN hI (by subst hR; exact ⟨rfl, rfl, rfl⟩) dX4_codeAt_20
  · rw [if_neg c1] at hR
    refine lv_aload_n hx hb dX4_codeAt_8 rfl (lv_at hl 0 rfl) ?_
    refine q_get hx hb hg in_X4 hown hK hI hL0.1 rfl 0 (by decide) (hg _ wf_X4_9) (fun _ h9 => h9) rfl dX4_codeAt_9 ?_
    refine lv_iload_n hx hb dX4_codeAt_12 rfl (lv_at hl 1 rfl) ?_
    refine q_goR (q_runSN (As := [.ref (a + 1), .int p1]) (rest := []) hx hb hml hown hg (c_X10_at l D cs hL0.2 p1) v_X10_at (hK.2 _ (List.mem_of_getElem? (i := 48) rfl)) rfl rfl ⟨Nat.le_of_ble_eq_true rfl, Nat.le_of_ble_eq_true rfl⟩ hI hK hl.1 rfl rfl (Nat.le_of_ble_eq_true rfl) dX4_codeAt_13 ⟨Nat.le_of_ble_eq_true rfl, Nat.le_of_ble_eq_true rfl⟩) hI (fun H locs hI => ?_)
    refine lv_goto (tgt := 20) hx hb dX4_codeAt_16 (by decide) ?_
    exact q_iret hx hb hret hlk hN hI (by subst hR; exact ⟨rfl, rfl, rfl⟩) dX4_codeAt_20
end
section
def s_X5_makeEmpty (v : qQV)  : qQV := ((s_X1_makeEmpty v.1), (s_X8_makeEmpty v.2.1), (s_X7_makeEmpty v.2.2.1), 0, 0, 0)
set_option maxHeartbeats 4000000 in
set_option maxRecDepth 20000 in
theorem c_X5_makeEmpty (l : Launch) (D : va_G) (cs : qC) {M0 : qM} {N a : Nat} {v : qQV} (hL0 : qLQ cs M0 a v) :
    qMet l D cs yX5_makeEmpty (qws yX5_makeEmpty cX5_makeEmpty 1 none) ({ frames := 2, cells := 0, slots := 0, locals := 42 } : Room) M0 N [.ref a] (qMod N none (fun M' => qLQ cs M' a (s_X5_makeEmpty v) ∧ qFr (qIn a 13) M0 M')) 0 0 := by
  obtain ⟨R, hR⟩ : ∃ R, s_X5_makeEmpty v = R := ⟨_, rfl⟩
  rw [hR]
  rw [s_X5_makeEmpty] at hR
  refine q_head (by decide) ?_ (Nat.le_of_ble_eq_true rfl)
  intro p e s m below meth c ls hx hb hret hlk hml hown hnm hg hK hN hI hl
  have hl : lv_has ls 1 [(0, .ref a)] := hl
  have hS : qFr (qIn a 13) M0 M0 := qFr.rf
  refine lv_aload_n hx hb dX5_makeEmpty_0 rfl (lv_at hl 0 rfl) ?_
  refine q_get hx hb hg in_X5 hown hK hI hL0.1 rfl 0 (by decide) (hg _ wf_X5_12) (fun _ h9 => h9) rfl dX5_makeEmpty_1 ?_
  refine q_goN (q_runV (As := []) (rest := []) hx hb hml hown hg (c_X1_makeEmpty l D cs hL0.2.1) v_X1_makeEmpty wl_X5_35 rfl rfl ⟨Nat.le_of_ble_eq_true rfl, Nat.le_of_ble_eq_true rfl⟩ hI hK 2 hL0.2.1.1 rfl hl.1 rfl rfl (Nat.le_of_ble_eq_true rfl) dX5_makeEmpty_4 ⟨Nat.le_of_ble_eq_true rfl, Nat.le_of_ble_eq_true rfl⟩) hI (fun M H locs hp hI => ?_)
  obtain ⟨hn0, hF⟩ := hp
  generalize heg1 : s_X1_makeEmpty v.1 = g1 at hn0 hR
  have hn := hn0
  have hn : qLQ cs M a (g1, v.2.1, v.2.2.1, v.2.2.2.1, v.2.2.2.2.1, v.2.2.2.2.2) := qLQ.s0 (v := v) hL0 hn (qFr.rf.tr hF (fun q hq => by omega))
  have hL0 := hn
  have hS := hS.tr hF (fun q hq => by omega)
  refine lv_aload_n hx hb dX5_makeEmpty_7 rfl (lv_at hl 0 rfl) ?_
  refine q_get hx hb hg in_X5 hown hK hI hL0.1 rfl 1 (by decide) (hg _ wf_X5_21) (fun _ h9 => h9) rfl dX5_makeEmpty_8 ?_
  refine q_goN (q_runV (As := []) (rest := []) hx hb hml hown hg (c_X8_makeEmpty l D cs hL0.2.2.1) v_X8_makeEmpty wl_X5_36 rfl rfl ⟨Nat.le_of_ble_eq_true rfl, Nat.le_of_ble_eq_true rfl⟩ hI hK 9 hL0.2.2.1.1 rfl hl.1 rfl rfl (Nat.le_of_ble_eq_true rfl) dX5_makeEmpty_11 ⟨Nat.le_of_ble_eq_true rfl, Nat.le_of_ble_eq_true rfl⟩) hI (fun M H locs hp hI => ?_)
  obtain ⟨hn0, hF⟩ := hp
  generalize heg2 : s_X8_makeEmpty v.2.1 = g2 at hn0 hR
  have hn := hn0
  have hn : qLQ cs M a (g1, g2, v.2.2.1, v.2.2.2.1, v.2.2.2.2.1, v.2.2.2.2.2) := qLQ.s1 (v := (g1, v.2.1, v.2.2.1, v.2.2.2.1, v.2.2.2.2.1, v.2.2.2.2.2)) hL0 hn (qFr.rf.tr hF (fun q hq => by omega))
  have hL0 := hn
  have hS := hS.tr hF (fun q hq => by omega)
  refine lv_aload_n hx hb dX5_makeEmpty_14 rfl (lv_at hl 0 rfl) ?_
  refine q_get hx hb hg in_X5 hown hK hI hL0.1 rfl 2 (by decide) (hg _ wf_X5_28) (fun _ h9 => h9) rfl dX5_makeEmpty_15 ?_
  refine q_goN (q_runV (As := []) (rest := []) hx hb hml hown hg (c_X7_makeEmpty l D cs hL0.2.2.2) v_X7_makeEmpty wl_X5_37 rfl rfl ⟨Nat.le_of_ble_eq_true rfl, Nat.le_of_ble_eq_true rfl⟩ hI hK 8 hL0.2.2.2.1 rfl hl.1 rfl rfl (Nat.le_of_ble_eq_true rfl) dX5_makeEmpty_18 ⟨Nat.le_of_ble_eq_true rfl, Nat.le_of_ble_eq_true rfl⟩) hI (fun M H locs hp hI => ?_)
  obtain ⟨hn0, hF⟩ := hp
  generalize heg3 : s_X7_makeEmpty v.2.2.1 = g3 at hn0 hR
  have hn := hn0
  have hn : qLQ cs M a (g1, g2, g3, v.2.2.2.1, v.2.2.2.2.1, v.2.2.2.2.2) := qLQ.s2 (v := (g1, g2, v.2.2.1, v.2.2.2.1, v.2.2.2.2.1, v.2.2.2.2.2)) hL0 hn (qFr.rf.tr hF (fun q hq => by omega))
  have hL0 := hn
  have hS := hS.tr hF (fun q hq => by omega)
  refine lv_aload_n hx hb dX5_makeEmpty_21 rfl (lv_at hl 0 rfl) ?_
  refine lv_iconst (v := 0) hx hb dX5_makeEmpty_22 (by decide) ?_
  have hn := qLQ.i3 0 hL0
  refine q_put (v := .int 0) hx hb hg in_X5 tyX5_ok nmX5 hown hK hI hL0.1 rfl 3 (by decide) (hg _ wf_X5_38) (fun _ h9 => h9) rfl rfl rfl (Nat.le_of_ble_eq_true rfl) dX5_makeEmpty_23 (fun H locs hI => ?_)
  obtain ⟨M, hn, hF, hI⟩ : ∃ Mx : qM, qLQ cs Mx a (g1, g2, g3, 0, v.2.2.2.2.1, v.2.2.2.2.2) ∧ qFr (qIn a 1) M Mx ∧ qI D M0 s.heap Mx N H locs := ⟨_, hn, qFr.up (by decide), hI⟩
  have hL0 := hn
  have hS := hS.tr hF (fun q hq => by omega)
  refine lv_aload_n hx hb dX5_makeEmpty_26 rfl (lv_at hl 0 rfl) ?_
  refine lv_iconst (v := 0) hx hb dX5_makeEmpty_27 (by decide) ?_
  have hn := qLQ.i4 0 hL0
  refine q_put (v := .int 0) hx hb hg in_X5 tyX5_ok nmX5 hown hK hI hL0.1 rfl 4 (by decide) (hg _ wf_X5_42) (fun _ h9 => h9) rfl rfl rfl (Nat.le_of_ble_eq_true rfl) dX5_makeEmpty_28 (fun H locs hI => ?_)
  obtain ⟨M, hn, hF, hI⟩ : ∃ Mx : qM, qLQ cs Mx a (g1, g2, g3, 0, 0, v.2.2.2.2.2) ∧ qFr (qIn a 1) M Mx ∧ qI D M0 s.heap Mx N H locs := ⟨_, hn, qFr.up (by decide), hI⟩
  have hL0 := hn
  have hS := hS.tr hF (fun q hq => by omega)
  refine lv_aload_n hx hb dX5_makeEmpty_31 rfl (lv_at hl 0 rfl) ?_
  refine lv_iconst (v := 0) hx hb dX5_makeEmpty_32 (by decide) ?_
  have hn := qLQ.i5 0 hL0
  refine q_put (v := .int 0) hx hb hg in_X5 tyX5_ok nmX5 hown hK hI hL0.1 rfl 5 (by decide) (hg _ wf_X5_45) (fun _ h9 => h9) rfl rfl rfl (Nat.le_of_ble_eq_true rfl) dX5_makeEmpty_33 (fun H locs hI => ?_)
  obtain ⟨M, hn, hF, hI⟩ : ∃ Mx : qM, qLQ cs Mx a (g1, g2, g3, 0, 0, 0) ∧ qFr (qIn a 1) M Mx ∧ qI D M0 s.heap Mx N H locs := ⟨_, hn, qFr.up (by decide), hI⟩
  have hL0 := hn
  have hS := hS.tr hF (fun q hq => by omega)
  exact q_vret (st := []) hx hb hret hlk hN hI (by subst hR; exact ⟨rfl, ⟨hL0, hS⟩, rfl⟩) dX5_makeEmpty_36
def s_X5_expose_L47 (p1 : Int32) : Nat → Int32 → Int32 → Int32 → qQV → qQV
  | 0, _, _, _, _ => default
  | n + 1, x2h47, x3h47, x4h47, z0 => (if 16 ≤ x4h47 then (z0.1, (s_X8_splay z0.2.1 p1), z0.2.2.1, z0.2.2.2.1, z0.2.2.2.2.1, z0.2.2.2.2.2) else (if x3h47 < 0 then (z0.1, (s_X8_splay z0.2.1 p1), z0.2.2.1, z0.2.2.2.1, z0.2.2.2.2.1, z0.2.2.2.2.2) else (s_X5_expose_L47 p1 n x3h47 (s_X1_holderOf z0.1 (s_X8_topOf (s_X8_joinRight (s_X8_takeRightOff (s_X8_splay z0.2.1 x3h47) x3h47) x3h47 x2h47) x3h47)) (x4h47 + 1) (z0.1, (s_X8_joinRight (s_X8_takeRightOff (s_X8_splay z0.2.1 x3h47) x3h47) x3h47 x2h47), z0.2.2.1, z0.2.2.2.1, z0.2.2.2.2.1, z0.2.2.2.2.2))))
def s_X5_expose (v : qQV) (p1 : Int32) : qQV := (s_X5_expose_L47 p1 ((16 : Int32).toInt.toNat + 1) p1 (s_X1_holderOf v.1 (s_X8_topOf (s_X8_takeRightOff (s_X8_splay v.2.1 p1) p1) p1)) 0 (v.1, (s_X8_takeRightOff (s_X8_splay v.2.1 p1) p1), v.2.2.1, v.2.2.2.1 + 1, v.2.2.2.2.1, v.2.2.2.2.2))
set_option maxHeartbeats 4000000 in
set_option maxRecDepth 20000 in
theorem c_X5_expose (l : Launch) (D : va_G) (cs : qC) {M0 : qM} {N a : Nat} {v : qQV} (hL0 : qLQ cs M0 a v) (p1 : Int32) :
    qMet l D cs yX5_expose (qws yX5_expose cX5_expose 5 none) ({ frames := 4, cells := 0, slots := 0, locals := 96 } : Room) M0 N [.ref a, .int p1] (qMod N none (fun M' => qLQ cs M' a (s_X5_expose v p1) ∧ qFr (qIn a 13) M0 M')) 0 0 := by
  obtain ⟨R, hR⟩ : ∃ R, s_X5_expose v p1 = R := ⟨_, rfl⟩
  rw [hR]
  rw [s_X5_expose] at hR
  refine q_head (by decide) ?_ (Nat.le_of_ble_eq_true rfl)
  intro p e s m below meth c ls hx hb hret hlk hml hown hnm hg hK hN hI hl
  have hl : lv_has ls 5 [(0, .ref a), (1, .int p1)] := hl
  have hS : qFr (qIn a 13) M0 M0 := qFr.rf
  refine lv_aload_n hx hb dX5_expose_0 rfl (lv_at hl 0 rfl) ?_
  refine lv_dup hx hb dX5_expose_1 rfl ?_
  refine q_get hx hb hg in_X5 hown hK hI hL0.1 rfl 3 (by decide) (hg _ wf_X5_38) (fun _ h9 => h9) rfl dX5_expose_2 ?_
  refine lv_iconst (v := 1) hx hb dX5_expose_5 (by decide) ?_
  refine lv_iadd hx hb dX5_expose_6 ?_
  have hn := qLQ.i3 (v.2.2.2.1 + 1) hL0
  refine q_put (v := .int (v.2.2.2.1 + 1)) hx hb hg in_X5 tyX5_ok nmX5 hown hK hI hL0.1 rfl 3 (by decide) (hg _ wf_X5_38) (fun _ h9 => h9) rfl rfl rfl (Nat.le_of_ble_eq_true rfl) dX5_expose_7 (fun H locs hI => ?_)
  obtain ⟨M, hn, hF, hI⟩ : ∃ Mx : qM, qLQ cs Mx a (v.1, v.2.1, v.2.2.1, v.2.2.2.1 + 1, v.2.2.2.2.1, v.2.2.2.2.2) ∧ qFr (qIn a 1) M0 Mx ∧ qI D M0 s.heap Mx N H locs := ⟨_, hn, qFr.up (by decide), hI⟩
  have hL0 := hn
  have hS := hS.tr hF (fun q hq => by omega)
  refine lv_aload_n hx hb dX5_expose_10 rfl (lv_at hl 0 rfl) ?_
  refine q_get hx hb hg in_X5 hown hK hI hL0.1 rfl 1 (by decide) (hg _ wf_X5_21) (fun _ h9 => h9) rfl dX5_expose_11 ?_
  refine lv_iload_n hx hb dX5_expose_14 rfl (lv_at hl 1 rfl) ?_
  refine q_goN (q_runV (As := [.int p1]) (rest := []) hx hb hml hown hg (c_X8_splay l D cs hL0.2.2.1 p1) v_X8_splay wl_X5_105 rfl rfl ⟨Nat.le_of_ble_eq_true rfl, Nat.le_of_ble_eq_true rfl⟩ hI hK 9 hL0.2.2.1.1 rfl hl.1 rfl rfl (Nat.le_of_ble_eq_true rfl) dX5_expose_15 ⟨Nat.le_of_ble_eq_true rfl, Nat.le_of_ble_eq_true rfl⟩) hI (fun M H locs hp hI => ?_)
  obtain ⟨hn0, hF⟩ := hp
  generalize heg1 : s_X8_splay v.2.1 p1 = g1 at hn0 hR
  have hn := hn0
  have hn : qLQ cs M a (v.1, g1, v.2.2.1, v.2.2.2.1 + 1, v.2.2.2.2.1, v.2.2.2.2.2) := qLQ.s1 (v := (v.1, v.2.1, v.2.2.1, v.2.2.2.1 + 1, v.2.2.2.2.1, v.2.2.2.2.2)) hL0 hn (qFr.rf.tr hF (fun q hq => by omega))
  have hL0 := hn
  have hS := hS.tr hF (fun q hq => by omega)
  refine lv_aload_n hx hb dX5_expose_18 rfl (lv_at hl 0 rfl) ?_
  refine q_get hx hb hg in_X5 hown hK hI hL0.1 rfl 1 (by decide) (hg _ wf_X5_21) (fun _ h9 => h9) rfl dX5_expose_19 ?_
  refine lv_iload_n hx hb dX5_expose_22 rfl (lv_at hl 1 rfl) ?_
  refine q_goN (q_runV (As := [.int p1]) (rest := []) hx hb hml hown hg (c_X8_takeRightOff l D cs hL0.2.2.1 p1) v_X8_takeRightOff wl_X5_134 rfl rfl ⟨Nat.le_of_ble_eq_true rfl, Nat.le_of_ble_eq_true rfl⟩ hI hK 9 hL0.2.2.1.1 rfl hl.1 rfl rfl (Nat.le_of_ble_eq_true rfl) dX5_expose_23 ⟨Nat.le_of_ble_eq_true rfl, Nat.le_of_ble_eq_true rfl⟩) hI (fun M H locs hp hI => ?_)
  obtain ⟨hn0, hF⟩ := hp
  generalize heg2 : s_X8_takeRightOff g1 p1 = g2 at hn0 hR
  have hn := hn0
  have hn : qLQ cs M a (v.1, g2, v.2.2.1, v.2.2.2.1 + 1, v.2.2.2.2.1, v.2.2.2.2.2) := qLQ.s1 (v := (v.1, g1, v.2.2.1, v.2.2.2.1 + 1, v.2.2.2.2.1, v.2.2.2.2.2)) hL0 hn (qFr.rf.tr hF (fun q hq => by omega))
  have hL0 := hn
  have hS := hS.tr hF (fun q hq => by omega)
  refine lv_iload_n hx hb dX5_expose_26 rfl (lv_at hl 1 rfl) ?_
  refine lv_istore_n (lv' := [(2, .int p1), (0, .ref a), (1, .int p1)]) hx hb dX5_expose_27 rfl hl (by decide) rfl (fun ls hl => ?_)
  refine lv_aload_n hx hb dX5_expose_28 rfl (lv_at hl 1 rfl) ?_
  refine q_get hx hb hg in_X5 hown hK hI hL0.1 rfl 0 (by decide) (hg _ wf_X5_12) (fun _ h9 => h9) rfl dX5_expose_29 ?_
  refine lv_aload_n hx hb dX5_expose_32 rfl (lv_at hl 1 rfl) ?_
  refine q_get hx hb hg in_X5 hown hK hI hL0.1 rfl 1 (by decide) (hg _ wf_X5_21) (fun _ h9 => h9) rfl dX5_expose_33 ?_
  refine lv_iload_n hx hb dX5_expose_36 rfl (lv_at hl 0 rfl) ?_
  refine q_goR (q_runV (As := [.int p1]) (rest := [.ref (a + 1)]) hx hb hml hown hg (c_X8_topOf l D cs hL0.2.2.1 p1) v_X8_topOf wl_X5_137 rfl rfl ⟨Nat.le_of_ble_eq_true rfl, Nat.le_of_ble_eq_true rfl⟩ hI hK 9 hL0.2.2.1.1 rfl hl.1 rfl rfl (Nat.le_of_ble_eq_true rfl) dX5_expose_37 ⟨Nat.le_of_ble_eq_true rfl, Nat.le_of_ble_eq_true rfl⟩) hI (fun H locs hI => ?_)
  refine q_goR (q_runV (As := [.int (s_X8_topOf g2 p1)]) (rest := []) hx hb hml hown hg (c_X1_holderOf l D cs hL0.2.1 (s_X8_topOf g2 p1)) v_X1_holderOf wl_X5_78 rfl rfl ⟨Nat.le_of_ble_eq_true rfl, Nat.le_of_ble_eq_true rfl⟩ hI hK 2 hL0.2.1.1 rfl hl.1 rfl rfl (Nat.le_of_ble_eq_true rfl) dX5_expose_40 ⟨Nat.le_of_ble_eq_true rfl, Nat.le_of_ble_eq_true rfl⟩) hI (fun H locs hI => ?_)
  refine lv_istore_n (lv' := [(3, .int (s_X1_holderOf v.1 (s_X8_topOf g2 p1))), (2, .int p1), (0, .ref a), (1, .int p1)]) hx hb dX5_expose_43 rfl hl (by decide) rfl (fun ls hl => ?_)
  refine lv_iconst (v := 0) hx hb dX5_expose_44 (by decide) ?_
  refine lv_istore (lv' := [(4, .int 0), (3, .int (s_X1_holderOf v.1 (s_X8_topOf g2 p1))), (2, .int p1), (0, .ref a), (1, .int p1)]) hx hb dX5_expose_45 hl (by decide) rfl (fun ls hl => ?_)
  have loop47 : ∀ (n47 : Nat) (x2h47 : Int32) (x3h47 : Int32) (x4h47 : Int32) (z0 : qQV), qmu 16 x4h47 < n47 → s_X5_expose_L47 p1 n47 x2h47 x3h47 x4h47 z0 = R → ∀ (M : qM) (H : Heap) (locs : List Loc) (ls : Array Slot), qLQ cs M a z0 → qFr (qIn a 13) M0 M → qI D M0 s.heap M N H locs → lv_has ls 5 [(0, .ref a), (1, .int p1), (2, .int x2h47), (3, .int x3h47), (4, .int x4h47)] →
      W p l e ({ frames := 4, cells := 0, slots := 0, locals := 96 } : Room) s m [Value.ref a, Value.int p1].toArray below meth c H locs 0 0 (MQ below (qQ D M0 N (qMod N none (fun M' => qLQ cs M' a R ∧ qFr (qIn a 13) M0 M'))) [Value.ref a, Value.int p1].toArray s 0 0 (qA M0 N)) (F0 m 47 ls []) := by
    intro n47
    induction n47 with
    | zero => intro x2h47 x3h47 x4h47 z0 hm; exact absurd hm (Nat.not_lt_zero _)
    | succ n47 ih47 =>
      intro x2h47 x3h47 x4h47 z0 hm47 hR M H locs ls hL0 hS hI hl
      rw [s_X5_expose_L47] at hR
      refine lv_iload hx hb dX5_expose_47 (lv_at hl 4 rfl) ?_
      refine lv_bipush (v := 16) hx hb dX5_expose_49 (by decide) ?_
      refine lv_icmp_ge (tgt := 107) hx hb dX5_expose_51 (by decide) (fun c3 => ?_) (fun c3 => ?_)
      · rw [if_pos c3] at hR
        refine lv_aload_n hx hb dX5_expose_107 rfl (lv_at hl 0 rfl) ?_
        refine q_get hx hb hg in_X5 hown hK hI hL0.1 rfl 1 (by decide) (hg _ wf_X5_21) (fun _ h9 => h9) rfl dX5_expose_108 ?_
        refine lv_iload_n hx hb dX5_expose_111 rfl (lv_at hl 1 rfl) ?_
        refine q_goN (q_runV (As := [.int p1]) (rest := []) hx hb hml hown hg (c_X8_splay l D cs hL0.2.2.1 p1) v_X8_splay wl_X5_105 rfl rfl ⟨Nat.le_of_ble_eq_true rfl, Nat.le_of_ble_eq_true rfl⟩ hI hK 9 hL0.2.2.1.1 rfl hl.1 rfl rfl (Nat.le_of_ble_eq_true rfl) dX5_expose_112 ⟨Nat.le_of_ble_eq_true rfl, Nat.le_of_ble_eq_true rfl⟩) hI (fun M H locs hp hI => ?_)
        obtain ⟨hn0, hF⟩ := hp
        generalize heg4 : s_X8_splay z0.2.1 p1 = g4 at hn0 hR
        have hn := hn0
        have hn : qLQ cs M a (z0.1, g4, z0.2.2.1, z0.2.2.2.1, z0.2.2.2.2.1, z0.2.2.2.2.2) := qLQ.s1 (v := z0) hL0 hn (qFr.rf.tr hF (fun q hq => by omega))
        have hL0 := hn
        have hS := hS.tr hF (fun q hq => by omega)
        exact q_vret (st := []) hx hb hret hlk hN hI (by subst hR; exact ⟨rfl, ⟨hL0, hS⟩, rfl⟩) dX5_expose_115
      · rw [if_neg c3] at hR
        refine lv_iload_n hx hb dX5_expose_54 rfl (lv_at hl 3 rfl) ?_
        refine lv_if_lt (tgt := 107) hx hb dX5_expose_55 (by decide) (fun c5 => ?_) (fun c5 => ?_)
        · rw [if_pos c5] at hR
          refine lv_aload_n hx hb dX5_expose_107 rfl (lv_at hl 0 rfl) ?_
          refine q_get hx hb hg in_X5 hown hK hI hL0.1 rfl 1 (by decide) (hg _ wf_X5_21) (fun _ h9 => h9) rfl dX5_expose_108 ?_
          refine lv_iload_n hx hb dX5_expose_111 rfl (lv_at hl 1 rfl) ?_
          refine q_goN (q_runV (As := [.int p1]) (rest := []) hx hb hml hown hg (c_X8_splay l D cs hL0.2.2.1 p1) v_X8_splay wl_X5_105 rfl rfl ⟨Nat.le_of_ble_eq_true rfl, Nat.le_of_ble_eq_true rfl⟩ hI hK 9 hL0.2.2.1.1 rfl hl.1 rfl rfl (Nat.le_of_ble_eq_true rfl) dX5_expose_112 ⟨Nat.le_of_ble_eq_true rfl, Nat.le_of_ble_eq_true rfl⟩) hI (fun M H locs hp hI => ?_)
          obtain ⟨hn0, hF⟩ := hp
          generalize heg6 : s_X8_splay z0.2.1 p1 = g6 at hn0 hR
          have hn := hn0
          have hn : qLQ cs M a (z0.1, g6, z0.2.2.1, z0.2.2.2.1, z0.2.2.2.2.1, z0.2.2.2.2.2) := qLQ.s1 (v := z0) hL0 hn (qFr.rf.tr hF (fun q hq => by omega))
          have hL0 := hn
          have hS := hS.tr hF (fun q hq => by omega)
          exact q_vret (st := []) hx hb hret hlk hN hI (by subst hR; exact ⟨rfl, ⟨hL0, hS⟩, rfl⟩) dX5_expose_115
        · rw [if_neg c5] at hR
          refine lv_aload_n hx hb dX5_expose_58 rfl (lv_at hl 0 rfl) ?_
          refine q_get hx hb hg in_X5 hown hK hI hL0.1 rfl 1 (by decide) (hg _ wf_X5_21) (fun _ h9 => h9) rfl dX5_expose_59 ?_
          refine lv_iload_n hx hb dX5_expose_62 rfl (lv_at hl 3 rfl) ?_
          refine q_goN (q_runV (As := [.int x3h47]) (rest := []) hx hb hml hown hg (c_X8_splay l D cs hL0.2.2.1 x3h47) v_X8_splay wl_X5_105 rfl rfl ⟨Nat.le_of_ble_eq_true rfl, Nat.le_of_ble_eq_true rfl⟩ hI hK 9 hL0.2.2.1.1 rfl hl.1 rfl rfl (Nat.le_of_ble_eq_true rfl) dX5_expose_63 ⟨Nat.le_of_ble_eq_true rfl, Nat.le_of_ble_eq_true rfl⟩) hI (fun M H locs hp hI => ?_)
          obtain ⟨hn0, hF⟩ := hp
          generalize heg7 : s_X8_splay z0.2.1 x3h47 = g7 at hn0 hR
          have hn := hn0
          have hn : qLQ cs M a (z0.1, g7, z0.2.2.1, z0.2.2.2.1, z0.2.2.2.2.1, z0.2.2.2.2.2) := qLQ.s1 (v := z0) hL0 hn (qFr.rf.tr hF (fun q hq => by omega))
          have hL0 := hn
          have hS := hS.tr hF (fun q hq => by omega)
          refine lv_aload_n hx hb dX5_expose_66 rfl (lv_at hl 0 rfl) ?_
          refine q_get hx hb hg in_X5 hown hK hI hL0.1 rfl 1 (by decide) (hg _ wf_X5_21) (fun _ h9 => h9) rfl dX5_expose_67 ?_
          refine lv_iload_n hx hb dX5_expose_70 rfl (lv_at hl 3 rfl) ?_
          refine q_goN (q_runV (As := [.int x3h47]) (rest := []) hx hb hml hown hg (c_X8_takeRightOff l D cs hL0.2.2.1 x3h47) v_X8_takeRightOff wl_X5_134 rfl rfl ⟨Nat.le_of_ble_eq_true rfl, Nat.le_of_ble_eq_true rfl⟩ hI hK 9 hL0.2.2.1.1 rfl hl.1 rfl rfl (Nat.le_of_ble_eq_true rfl) dX5_expose_71 ⟨Nat.le_of_ble_eq_true rfl, Nat.le_of_ble_eq_true rfl⟩) hI (fun M H locs hp hI => ?_)
          obtain ⟨hn0, hF⟩ := hp
          generalize heg8 : s_X8_takeRightOff g7 x3h47 = g8 at hn0 hR
          have hn := hn0
          have hn : qLQ cs M a (z0.1, g8, z0.2.2.1, z0.2.2.2.1, z0.2.2.2.2.1, z0.2.2.2.2.2) := qLQ.s1 (v := (z0.1, g7, z0.2.2.1, z0.2.2.2.1, z0.2.2.2.2.1, z0.2.2.2.2.2)) hL0 hn (qFr.rf.tr hF (fun q hq => by omega))
          have hL0 := hn
          have hS := hS.tr hF (fun q hq => by omega)
          refine lv_aload_n hx hb dX5_expose_74 rfl (lv_at hl 0 rfl) ?_
          refine q_get hx hb hg in_X5 hown hK hI hL0.1 rfl 1 (by decide) (hg _ wf_X5_21) (fun _ h9 => h9) rfl dX5_expose_75 ?_
          refine lv_iload_n hx hb dX5_expose_78 rfl (lv_at hl 3 rfl) ?_
          refine lv_iload_n hx hb dX5_expose_79 rfl (lv_at hl 2 rfl) ?_
          refine q_goN (q_runV (As := [.int x3h47, .int x2h47]) (rest := []) hx hb hml hown hg (c_X8_joinRight l D cs hL0.2.2.1 x3h47 x2h47) v_X8_joinRight wl_X5_140 rfl rfl ⟨Nat.le_of_ble_eq_true rfl, Nat.le_of_ble_eq_true rfl⟩ hI hK 9 hL0.2.2.1.1 rfl hl.1 rfl rfl (Nat.le_of_ble_eq_true rfl) dX5_expose_80 ⟨Nat.le_of_ble_eq_true rfl, Nat.le_of_ble_eq_true rfl⟩) hI (fun M H locs hp hI => ?_)
          obtain ⟨hn0, hF⟩ := hp
          generalize heg9 : s_X8_joinRight g8 x3h47 x2h47 = g9 at hn0 hR
          have hn := hn0
          have hn : qLQ cs M a (z0.1, g9, z0.2.2.1, z0.2.2.2.1, z0.2.2.2.2.1, z0.2.2.2.2.2) := qLQ.s1 (v := (z0.1, g8, z0.2.2.1, z0.2.2.2.1, z0.2.2.2.2.1, z0.2.2.2.2.2)) hL0 hn (qFr.rf.tr hF (fun q hq => by omega))
          have hL0 := hn
          have hS := hS.tr hF (fun q hq => by omega)
          refine lv_iload_n hx hb dX5_expose_83 rfl (lv_at hl 3 rfl) ?_
          refine lv_istore_n (lv' := [(2, .int x3h47), (0, .ref a), (1, .int p1), (3, .int x3h47), (4, .int x4h47)]) hx hb dX5_expose_84 rfl hl (by decide) rfl (fun ls hl => ?_)
          refine lv_aload_n hx hb dX5_expose_85 rfl (lv_at hl 1 rfl) ?_
          refine q_get hx hb hg in_X5 hown hK hI hL0.1 rfl 0 (by decide) (hg _ wf_X5_12) (fun _ h9 => h9) rfl dX5_expose_86 ?_
          refine lv_aload_n hx hb dX5_expose_89 rfl (lv_at hl 1 rfl) ?_
          refine q_get hx hb hg in_X5 hown hK hI hL0.1 rfl 1 (by decide) (hg _ wf_X5_21) (fun _ h9 => h9) rfl dX5_expose_90 ?_
          refine lv_iload_n hx hb dX5_expose_93 rfl (lv_at hl 0 rfl) ?_
          refine q_goR (q_runV (As := [.int x3h47]) (rest := [.ref (a + 1)]) hx hb hml hown hg (c_X8_topOf l D cs hL0.2.2.1 x3h47) v_X8_topOf wl_X5_137 rfl rfl ⟨Nat.le_of_ble_eq_true rfl, Nat.le_of_ble_eq_true rfl⟩ hI hK 9 hL0.2.2.1.1 rfl hl.1 rfl rfl (Nat.le_of_ble_eq_true rfl) dX5_expose_94 ⟨Nat.le_of_ble_eq_true rfl, Nat.le_of_ble_eq_true rfl⟩) hI (fun H locs hI => ?_)
          refine q_goR (q_runV (As := [.int (s_X8_topOf g9 x3h47)]) (rest := []) hx hb hml hown hg (c_X1_holderOf l D cs hL0.2.1 (s_X8_topOf g9 x3h47)) v_X1_holderOf wl_X5_78 rfl rfl ⟨Nat.le_of_ble_eq_true rfl, Nat.le_of_ble_eq_true rfl⟩ hI hK 2 hL0.2.1.1 rfl hl.1 rfl rfl (Nat.le_of_ble_eq_true rfl) dX5_expose_97 ⟨Nat.le_of_ble_eq_true rfl, Nat.le_of_ble_eq_true rfl⟩) hI (fun H locs hI => ?_)
          refine lv_istore_n (lv' := [(3, .int (s_X1_holderOf z0.1 (s_X8_topOf g9 x3h47))), (2, .int x3h47), (0, .ref a), (1, .int p1), (4, .int x4h47)]) hx hb dX5_expose_100 rfl hl (by decide) rfl (fun ls hl => ?_)
          refine lv_iinc (v := x4h47 + 1) (lv' := [(4, .int (x4h47 + 1)), (3, .int (s_X1_holderOf z0.1 (s_X8_topOf g9 x3h47))), (2, .int x3h47), (0, .ref a), (1, .int p1)]) hx hb dX5_expose_101 hl (k := 4) rfl rfl (by decide) rfl (fun ls hl => ?_)
          refine lv_goto (tgt := 47) hx hb dX5_expose_104 (by decide) ?_
          exact ih47 x3h47 (s_X1_holderOf z0.1 (s_X8_topOf g9 x3h47)) (x4h47 + 1) (z0.1, g9, z0.2.2.1, z0.2.2.2.1, z0.2.2.2.2.1, z0.2.2.2.2.2) (q_mu c3 hm47) hR _ _ _ _ hL0 hS hI (lv_sub hl [3, 4, 2, 1, 0] rfl)
  exact loop47 _ p1 (s_X1_holderOf v.1 (s_X8_topOf g2 p1)) 0 (v.1, g2, v.2.2.1, v.2.2.2.1 + 1, v.2.2.2.2.1, v.2.2.2.2.2) (q_fuel _) hR _ _ _ _ hL0 hS hI (lv_sub hl [3, 4, 2, 1, 0] rfl)
def s_X5_addBlock (v : qQV) (u : qRV) (p1 : Int32) : Int32 × qQV × qRV := (if (qbi (s_X5_isWeight  p1)) = 0 then ((-2), v, u) else (if v.1.2.2 < 16 then ((s_X1_add v.1 p1).1, ((s_X1_add v.1 p1).2, v.2.1, v.2.2.1, v.2.2.2.1, v.2.2.2.2.1, v.2.2.2.2.2), u) else ((s_X6_refuse u 1 16).1, v, (s_X6_refuse u 1 16).2)))
set_option maxHeartbeats 4000000 in
set_option maxRecDepth 20000 in
theorem c_X5_addBlock (l : Launch) (D : va_G) (cs : qC) {M0 : qM} {N a b : Nat} {v : qQV} {u : qRV} (hL0 : qLQ cs M0 a v) (hL1 : qLR cs M0 b u) (hd0 : a + 13 ≤ b ∨ b + 1 ≤ a) (p1 : Int32) :
    qMet l D cs yX5_addBlock (qws yX5_addBlock cX5_addBlock 3 (some .int)) ({ frames := 2, cells := 0, slots := 0, locals := 44 } : Room) M0 N [.ref a, .int p1, .ref b] (qMod N (some (.int ((s_X5_addBlock v u p1).1))) (fun M' => qLQ cs M' a ((s_X5_addBlock v u p1).2.1) ∧ qLR cs M' b ((s_X5_addBlock v u p1).2.2) ∧ qFr (fun q => qIn a 13 q ∨ qIn b 1 q) M0 M')) 0 0 := by
  obtain ⟨R, hR⟩ : ∃ R, s_X5_addBlock v u p1 = R := ⟨_, rfl⟩
  rw [hR]
  rw [s_X5_addBlock] at hR
  refine q_head (by decide) ?_ (Nat.le_of_ble_eq_true rfl)
  intro p e s m below meth c ls hx hb hret hlk hml hown hnm hg hK hN hI hl
  have hl : lv_has ls 3 [(0, .ref a), (1, .int p1), (2, .ref b)] := hl
  have hS : qFr (fun q => qIn a 13 q ∨ qIn b 1 q) M0 M0 := qFr.rf
  refine lv_iload_n hx hb dX5_addBlock_0 rfl (lv_at hl 1 rfl) ?_
  refine q_goR (q_runS (As := [.int p1]) (rest := []) hx hb hml hown hg (c_X5_isWeight l D cs p1) v_X5_isWeight wl_X5_58 rfl rfl ⟨Nat.le_of_ble_eq_true rfl, Nat.le_of_ble_eq_true rfl⟩ hI hK hl.1 rfl rfl (Nat.le_of_ble_eq_true rfl) dX5_addBlock_1 ⟨Nat.le_of_ble_eq_true rfl, Nat.le_of_ble_eq_true rfl⟩) hI (fun H locs hI => ?_)
  refine lv_if_ne (tgt := 10) hx hb dX5_addBlock_4 (by decide) (fun c1 => ?_) (fun c1 => ?_)
  · rw [if_neg c1] at hR
    refine lv_aload_n hx hb dX5_addBlock_10 rfl (lv_at hl 0 rfl) ?_
    refine q_get hx hb hg in_X5 hown hK hI hL0.1 rfl 0 (by decide) (hg _ wf_X5_12) (fun _ h9 => h9) rfl dX5_addBlock_11 ?_
    refine q_getN hx hb hg in_X1 hown hK hI hL0.2.1.1 rfl 2 (by decide) (hK.2 _ (List.mem_of_getElem? (i := 3) rfl)) (fun _ h9 => h9) rfl dX5_addBlock_14 ?_
    refine lv_bipush (v := 16) hx hb dX5_addBlock_17 (by decide) ?_
    refine lv_icmp_lt (tgt := 30) hx hb dX5_addBlock_19 (by decide) (fun c2 => ?_) (fun c2 => ?_)
    · rw [if_pos c2] at hR
      refine lv_aload_n hx hb dX5_addBlock_30 rfl (lv_at hl 0 rfl) ?_
      refine q_get hx hb hg in_X5 hown hK hI hL0.1 rfl 0 (by decide) (hg _ wf_X5_12) (fun _ h9 => h9) rfl dX5_addBlock_31 ?_
      refine lv_iload_n hx hb dX5_addBlock_34 rfl (lv_at hl 1 rfl) ?_
      refine q_goP (q_runV (As := [.int p1]) (rest := []) hx hb hml hown hg (c_X1_add l D cs hL0.2.1 p1) v_X1_add wl_X5_71 rfl rfl ⟨Nat.le_of_ble_eq_true rfl, Nat.le_of_ble_eq_true rfl⟩ hI hK 2 hL0.2.1.1 rfl hl.1 rfl rfl (Nat.le_of_ble_eq_true rfl) dX5_addBlock_35 ⟨Nat.le_of_ble_eq_true rfl, Nat.le_of_ble_eq_true rfl⟩) hI (fun M H locs hp hI => ?_)
      obtain ⟨hn0, hF⟩ := hp
      generalize heg3 : s_X1_add v.1 p1 = g3 at hn0 hR ⊢
      have hn := hn0
      have hn : qLQ cs M a (g3.2, v.2.1, v.2.2.1, v.2.2.2.1, v.2.2.2.2.1, v.2.2.2.2.2) := qLQ.s0 (v := v) hL0 hn (qFr.rf.tr hF (fun q hq => by omega))
      have hL0 := hn
      have hL1 := hL1.fr hF (fun q h1 h2 hq => by omega)
      have hS := hS.tr hF (fun q hq => by omega)
      exact q_iret hx hb hret hlk hN hI (by subst hR; exact ⟨rfl, ⟨hL0, hL1, hS⟩, rfl⟩) dX5_addBlock_38
    · rw [if_neg c2] at hR
      refine lv_aload_n hx hb dX5_addBlock_22 rfl (lv_at hl 2 rfl) ?_
      refine lv_iconst (v := 1) hx hb dX5_addBlock_23 (by decide) ?_
      refine lv_bipush (v := 16) hx hb dX5_addBlock_24 (by decide) ?_
      refine q_goP (q_runV (As := [.int 1, .int 16]) (rest := []) hx hb hml hown hg (c_X6_refuse l D cs hL1 1 16) v_X6_refuse wl_X5_65 rfl rfl ⟨Nat.le_of_ble_eq_true rfl, Nat.le_of_ble_eq_true rfl⟩ hI hK 7 hL1 rfl hl.1 rfl rfl (Nat.le_of_ble_eq_true rfl) dX5_addBlock_26 ⟨Nat.le_of_ble_eq_true rfl, Nat.le_of_ble_eq_true rfl⟩) hI (fun M H locs hp hI => ?_)
      obtain ⟨hn0, hF⟩ := hp
      generalize heg4 : s_X6_refuse u 1 16 = g4 at hn0 hR ⊢
      have hn := hn0
      have hL1 := hn
      have hL0 := hL0.fr hF (fun q h1 h2 hq => by omega)
      have hS := hS.tr hF (fun q hq => by omega)
      exact q_iret hx hb hret hlk hN hI (by subst hR; exact ⟨rfl, ⟨hL0, hL1, hS⟩, rfl⟩) dX5_addBlock_29
  · rw [if_pos c1] at hR
    refine lv_bipush (v := (-2)) hx hb dX5_addBlock_7 (by decide) ?_
    exact q_iret hx hb hret hlk hN hI (by subst hR; exact ⟨rfl, ⟨hL0, hL1, hS⟩, rfl⟩) dX5_addBlock_9
def s_X5_hangOn (v : qQV) (u : qRV) (p1 : Int32) (p2 : Int32) : Int32 × qQV × qRV := (if (qbi (s_X1_isThere v.1 p1)) = 0 then ((-1), v, u) else (if (qbi (s_X1_isThere v.1 p2)) = 0 then ((-1), v, u) else (if (s_X1_holderOf v.1 p1) < 0 then (if (s_X1_rootByHolders v.1 p2) = p1 then ((s_X6_refuse u 3 p1).1, v, (s_X6_refuse u 3 p1).2) else (s_X1_depthOf ((s_X5_expose (s_X5_expose v p1) p2).1.1, (rowPut (s_X5_expose (s_X5_expose v p1) p2).1.2.1 p1 p2), (s_X5_expose (s_X5_expose v p1) p2).1.2.2) p1, (((s_X5_expose (s_X5_expose v p1) p2).1.1, (rowPut (s_X5_expose (s_X5_expose v p1) p2).1.2.1 p1 p2), (s_X5_expose (s_X5_expose v p1) p2).1.2.2), (s_X5_expose (s_X5_expose v p1) p2).2.1, (s_X5_expose (s_X5_expose v p1) p2).2.2.1, (s_X5_expose (s_X5_expose v p1) p2).2.2.2.1, (s_X5_expose (s_X5_expose v p1) p2).2.2.2.2.1 + 1, (s_X5_expose (s_X5_expose v p1) p2).2.2.2.2.2), u)) else ((s_X6_refuse u 2 (s_X1_holderOf v.1 p1)).1, v, (s_X6_refuse u 2 (s_X1_holderOf v.1 p1)).2))))
set_option maxHeartbeats 4000000 in
set_option maxRecDepth 20000 in
theorem c_X5_hangOn (l : Launch) (D : va_G) (cs : qC) {M0 : qM} {N a b : Nat} {v : qQV} {u : qRV} (hL0 : qLQ cs M0 a v) (hL1 : qLR cs M0 b u) (hd0 : a + 13 ≤ b ∨ b + 1 ≤ a) (p1 : Int32) (p2 : Int32) :
    qMet l D cs yX5_hangOn (qws yX5_hangOn cX5_hangOn 4 (some .int)) ({ frames := 5, cells := 0, slots := 0, locals := 120 } : Room) M0 N [.ref a, .int p1, .int p2, .ref b] (qMod N (some (.int ((s_X5_hangOn v u p1 p2).1))) (fun M' => qLQ cs M' a ((s_X5_hangOn v u p1 p2).2.1) ∧ qLR cs M' b ((s_X5_hangOn v u p1 p2).2.2) ∧ qFr (fun q => qIn a 13 q ∨ qIn b 1 q) M0 M')) 0 0 := by
  obtain ⟨R, hR⟩ : ∃ R, s_X5_hangOn v u p1 p2 = R := ⟨_, rfl⟩
  rw [hR]
  rw [s_X5_hangOn] at hR
  refine q_head (by decide) ?_ (Nat.le_of_ble_eq_true rfl)
  intro p e s m below meth c ls hx hb hret hlk hml hown hnm hg hK hN hI hl
  have hl : lv_has ls 4 [(0, .ref a), (1, .int p1), (2, .int p2), (3, .ref b)] := hl
  have hS : qFr (fun q => qIn a 13 q ∨ qIn b 1 q) M0 M0 := qFr.rf
  refine lv_aload_n hx hb dX5_hangOn_0 rfl (lv_at hl 0 rfl) ?_
  refine q_get hx hb hg in_X5 hown hK hI hL0.1 rfl 0 (by decide) (hg _ wf_X5_12) (fun _ h9 => h9) rfl dX5_hangOn_1 ?_
  refine lv_iload_n hx hb dX5_hangOn_4 rfl (lv_at hl 1 rfl) ?_
  refine q_goR (q_runV (As := [.int p1]) (rest := []) hx hb hml hown hg (c_X1_isThere l D cs hL0.2.1 p1) v_X1_isThere wl_X5_75 rfl rfl ⟨Nat.le_of_ble_eq_true rfl, Nat.le_of_ble_eq_true rfl⟩ hI hK 2 hL0.2.1.1 rfl hl.1 rfl rfl (Nat.le_of_ble_eq_true rfl) dX5_hangOn_5 ⟨Nat.le_of_ble_eq_true rfl, Nat.le_of_ble_eq_true rfl⟩) hI (fun H locs hI => ?_)
  refine lv_if_eq (tgt := 22) hx hb dX5_hangOn_8 (by decide) (fun c1 => ?_) (fun c1 => ?_)
  · rw [if_pos c1] at hR
    refine lv_iconst (v := (-1)) hx hb dX5_hangOn_22 (by decide) ?_
    exact q_iret hx hb hret hlk hN hI (by subst hR; exact ⟨rfl, ⟨hL0, hL1, hS⟩, rfl⟩) dX5_hangOn_23
  · rw [if_neg c1] at hR
    refine lv_aload_n hx hb dX5_hangOn_11 rfl (lv_at hl 0 rfl) ?_
    refine q_get hx hb hg in_X5 hown hK hI hL0.1 rfl 0 (by decide) (hg _ wf_X5_12) (fun _ h9 => h9) rfl dX5_hangOn_12 ?_
    refine lv_iload_n hx hb dX5_hangOn_15 rfl (lv_at hl 2 rfl) ?_
    refine q_goR (q_runV (As := [.int p2]) (rest := []) hx hb hml hown hg (c_X1_isThere l D cs hL0.2.1 p2) v_X1_isThere wl_X5_75 rfl rfl ⟨Nat.le_of_ble_eq_true rfl, Nat.le_of_ble_eq_true rfl⟩ hI hK 2 hL0.2.1.1 rfl hl.1 rfl rfl (Nat.le_of_ble_eq_true rfl) dX5_hangOn_16 ⟨Nat.le_of_ble_eq_true rfl, Nat.le_of_ble_eq_true rfl⟩) hI (fun H locs hI => ?_)
    refine lv_if_ne (tgt := 24) hx hb dX5_hangOn_19 (by decide) (fun c2 => ?_) (fun c2 => ?_)
    · rw [if_neg c2] at hR
      refine lv_aload_n hx hb dX5_hangOn_24 rfl (lv_at hl 0 rfl) ?_
      refine q_get hx hb hg in_X5 hown hK hI hL0.1 rfl 0 (by decide) (hg _ wf_X5_12) (fun _ h9 => h9) rfl dX5_hangOn_25 ?_
      refine lv_iload_n hx hb dX5_hangOn_28 rfl (lv_at hl 1 rfl) ?_
      refine q_goR (q_runV (As := [.int p1]) (rest := []) hx hb hml hown hg (c_X1_holderOf l D cs hL0.2.1 p1) v_X1_holderOf wl_X5_78 rfl rfl ⟨Nat.le_of_ble_eq_true rfl, Nat.le_of_ble_eq_true rfl⟩ hI hK 2 hL0.2.1.1 rfl hl.1 rfl rfl (Nat.le_of_ble_eq_true rfl) dX5_hangOn_29 ⟨Nat.le_of_ble_eq_true rfl, Nat.le_of_ble_eq_true rfl⟩) hI (fun H locs hI => ?_)
      refine lv_if_lt (tgt := 49) hx hb dX5_hangOn_32 (by decide) (fun c3 => ?_) (fun c3 => ?_)
      · rw [if_pos c3] at hR
        refine lv_aload_n hx hb dX5_hangOn_49 rfl (lv_at hl 0 rfl) ?_
        refine q_get hx hb hg in_X5 hown hK hI hL0.1 rfl 0 (by decide) (hg _ wf_X5_12) (fun _ h9 => h9) rfl dX5_hangOn_50 ?_
        refine lv_iload_n hx hb dX5_hangOn_53 rfl (lv_at hl 2 rfl) ?_
        refine q_goR (q_runV (As := [.int p2]) (rest := []) hx hb hml hown hg (c_X1_rootByHolders l D cs hL0.2.1 p2) v_X1_rootByHolders wl_X5_81 rfl rfl ⟨Nat.le_of_ble_eq_true rfl, Nat.le_of_ble_eq_true rfl⟩ hI hK 2 hL0.2.1.1 rfl hl.1 rfl rfl (Nat.le_of_ble_eq_true rfl) dX5_hangOn_54 ⟨Nat.le_of_ble_eq_true rfl, Nat.le_of_ble_eq_true rfl⟩) hI (fun H locs hI => ?_)
        refine lv_iload_n hx hb dX5_hangOn_57 rfl (lv_at hl 1 rfl) ?_
        refine lv_icmp_ne (tgt := 68) hx hb dX5_hangOn_58 (by decide) (fun c4 => ?_) (fun c4 => ?_)
        · rw [if_neg c4] at hR
          refine lv_aload_n hx hb dX5_hangOn_68 rfl (lv_at hl 0 rfl) ?_
          refine lv_iload_n hx hb dX5_hangOn_69 rfl (lv_at hl 1 rfl) ?_
          refine q_goN (q_runV (As := [.int p1]) (rest := []) hx hb hml hown hg (c_X5_expose l D cs hL0 p1) v_X5_expose wl_X5_84 rfl rfl ⟨Nat.le_of_ble_eq_true rfl, Nat.le_of_ble_eq_true rfl⟩ hI hK 6 hL0.1 rfl hl.1 rfl rfl (Nat.le_of_ble_eq_true rfl) dX5_hangOn_70 ⟨Nat.le_of_ble_eq_true rfl, Nat.le_of_ble_eq_true rfl⟩) hI (fun M H locs hp hI => ?_)
          obtain ⟨hn0, hF⟩ := hp
          generalize heg5 : s_X5_expose v p1 = g5 at hn0 hR
          have hn := hn0
          have hL0 := hn
          have hL1 := hL1.fr hF (fun q h1 h2 hq => by omega)
          have hS := hS.tr hF (fun q hq => by omega)
          refine lv_aload_n hx hb dX5_hangOn_73 rfl (lv_at hl 0 rfl) ?_
          refine lv_iload_n hx hb dX5_hangOn_74 rfl (lv_at hl 2 rfl) ?_
          refine q_goN (q_runV (As := [.int p2]) (rest := []) hx hb hml hown hg (c_X5_expose l D cs hL0 p2) v_X5_expose wl_X5_84 rfl rfl ⟨Nat.le_of_ble_eq_true rfl, Nat.le_of_ble_eq_true rfl⟩ hI hK 6 hL0.1 rfl hl.1 rfl rfl (Nat.le_of_ble_eq_true rfl) dX5_hangOn_75 ⟨Nat.le_of_ble_eq_true rfl, Nat.le_of_ble_eq_true rfl⟩) hI (fun M H locs hp hI => ?_)
          obtain ⟨hn0, hF⟩ := hp
          generalize heg6 : s_X5_expose g5 p2 = g6 at hn0 hR
          have hn := hn0
          have hL0 := hn
          have hL1 := hL1.fr hF (fun q h1 h2 hq => by omega)
          have hS := hS.tr hF (fun q hq => by omega)
          refine lv_aload_n hx hb dX5_hangOn_78 rfl (lv_at hl 0 rfl) ?_
          refine q_get hx hb hg in_X5 hown hK hI hL0.1 rfl 0 (by decide) (hg _ wf_X5_12) (fun _ h9 => h9) rfl dX5_hangOn_79 ?_
          refine q_getN hx hb hg in_X1 hown hK hI hL0.2.1.1 rfl 1 (by decide) (hK.2 _ (List.mem_of_getElem? (i := 2) rfl)) (fun _ h9 => h9) rfl dX5_hangOn_82 ?_
          refine lv_iload_n hx hb dX5_hangOn_85 rfl (lv_at hl 1 rfl) ?_
          refine lv_iload_n hx hb dX5_hangOn_86 rfl (lv_at hl 2 rfl) ?_
          refine q_goN (q_runSN (As := [.ref (a + 1 + 2), .int p1, .int p2]) (rest := []) hx hb hml hown hg (c_X10_put l D cs hL0.2.1.2.2 p1 p2) v_X10_put (hK.2 _ (List.mem_of_getElem? (i := 38) rfl)) rfl rfl ⟨Nat.le_of_ble_eq_true rfl, Nat.le_of_ble_eq_true rfl⟩ hI hK hl.1 rfl rfl (Nat.le_of_ble_eq_true rfl) dX5_hangOn_87 ⟨Nat.le_of_ble_eq_true rfl, Nat.le_of_ble_eq_true rfl⟩) hI (fun M H locs hp hI => ?_)
          obtain ⟨hn0, hF⟩ := hp
          generalize heg7 : rowPut g6.1.2.1 p1 p2 = g7 at hn0 hR
          have hn := hn0
          have hn : qLB cs M (a + 1) (g6.1.1, g7, g6.1.2.2) := qLB.s1 (v := g6.1) hL0.2.1 hn (qFr.rf.tr hF (fun q hq => by omega))
          have hn : qLQ cs M a ((g6.1.1, g7, g6.1.2.2), g6.2.1, g6.2.2.1, g6.2.2.2.1, g6.2.2.2.2.1, g6.2.2.2.2.2) := qLQ.s0 (v := g6) hL0 hn (qFr.rf.tr hF (fun q hq => by omega))
          have hL0 := hn
          have hL1 := hL1.fr hF (fun q h1 h2 hq => by omega)
          have hS := hS.tr hF (fun q hq => by omega)
          refine lv_aload_n hx hb dX5_hangOn_90 rfl (lv_at hl 0 rfl) ?_
          refine lv_dup hx hb dX5_hangOn_91 rfl ?_
          refine q_get hx hb hg in_X5 hown hK hI hL0.1 rfl 4 (by decide) (hg _ wf_X5_42) (fun _ h9 => h9) rfl dX5_hangOn_92 ?_
          refine lv_iconst (v := 1) hx hb dX5_hangOn_95 (by decide) ?_
          refine lv_iadd hx hb dX5_hangOn_96 ?_
          have hn := qLQ.i4 (g6.2.2.2.2.1 + 1) hL0
          refine q_put (v := .int (g6.2.2.2.2.1 + 1)) hx hb hg in_X5 tyX5_ok nmX5 hown hK hI hL0.1 rfl 4 (by decide) (hg _ wf_X5_42) (fun _ h9 => h9) rfl rfl rfl (Nat.le_of_ble_eq_true rfl) dX5_hangOn_97 (fun H locs hI => ?_)
          obtain ⟨M, hn, hF, hI⟩ : ∃ Mx : qM, qLQ cs Mx a ((g6.1.1, g7, g6.1.2.2), g6.2.1, g6.2.2.1, g6.2.2.2.1, g6.2.2.2.2.1 + 1, g6.2.2.2.2.2) ∧ qFr (qIn a 1) M Mx ∧ qI D M0 s.heap Mx N H locs := ⟨_, hn, qFr.up (by decide), hI⟩
          have hL0 := hn
          have hL1 := hL1.fr hF (fun q h1 h2 hq => by omega)
          have hS := hS.tr hF (fun q hq => by omega)
          refine lv_aload_n hx hb dX5_hangOn_100 rfl (lv_at hl 0 rfl) ?_
          refine q_get hx hb hg in_X5 hown hK hI hL0.1 rfl 0 (by decide) (hg _ wf_X5_12) (fun _ h9 => h9) rfl dX5_hangOn_101 ?_
          refine lv_iload_n hx hb dX5_hangOn_104 rfl (lv_at hl 1 rfl) ?_
          refine q_goR (q_runV (As := [.int p1]) (rest := []) hx hb hml hown hg (c_X1_depthOf l D cs hL0.2.1 p1) v_X1_depthOf wl_X5_96 rfl rfl ⟨Nat.le_of_ble_eq_true rfl, Nat.le_of_ble_eq_true rfl⟩ hI hK 2 hL0.2.1.1 rfl hl.1 rfl rfl (Nat.le_of_ble_eq_true rfl) dX5_hangOn_105 ⟨Nat.le_of_ble_eq_true rfl, Nat.le_of_ble_eq_true rfl⟩) hI (fun H locs hI => ?_)
          exact q_iret hx hb hret hlk hN hI (by subst hR; exact ⟨rfl, ⟨hL0, hL1, hS⟩, rfl⟩) dX5_hangOn_108
        · rw [if_pos c4] at hR
          refine lv_aload_n hx hb dX5_hangOn_61 rfl (lv_at hl 3 rfl) ?_
          refine lv_iconst (v := 3) hx hb dX5_hangOn_62 (by decide) ?_
          refine lv_iload_n hx hb dX5_hangOn_63 rfl (lv_at hl 1 rfl) ?_
          refine q_goP (q_runV (As := [.int 3, .int p1]) (rest := []) hx hb hml hown hg (c_X6_refuse l D cs hL1 3 p1) v_X6_refuse wl_X5_65 rfl rfl ⟨Nat.le_of_ble_eq_true rfl, Nat.le_of_ble_eq_true rfl⟩ hI hK 7 hL1 rfl hl.1 rfl rfl (Nat.le_of_ble_eq_true rfl) dX5_hangOn_64 ⟨Nat.le_of_ble_eq_true rfl, Nat.le_of_ble_eq_true rfl⟩) hI (fun M H locs hp hI => ?_)
          obtain ⟨hn0, hF⟩ := hp
          generalize heg8 : s_X6_refuse u 3 p1 = g8 at hn0 hR ⊢
          have hn := hn0
          have hL1 := hn
          have hL0 := hL0.fr hF (fun q h1 h2 hq => by omega)
          have hS := hS.tr hF (fun q hq => by omega)
          exact q_iret hx hb hret hlk hN hI (by subst hR; exact ⟨rfl, ⟨hL0, hL1, hS⟩, rfl⟩) dX5_hangOn_67
      · rw [if_neg c3] at hR
        refine lv_aload_n hx hb dX5_hangOn_35 rfl (lv_at hl 3 rfl) ?_
        refine lv_iconst (v := 2) hx hb dX5_hangOn_36 (by decide) ?_
        refine lv_aload_n hx hb dX5_hangOn_37 rfl (lv_at hl 0 rfl) ?_
        refine q_get hx hb hg in_X5 hown hK hI hL0.1 rfl 0 (by decide) (hg _ wf_X5_12) (fun _ h9 => h9) rfl dX5_hangOn_38 ?_
        refine lv_iload_n hx hb dX5_hangOn_41 rfl (lv_at hl 1 rfl) ?_
        refine q_goR (q_runV (As := [.int p1]) (rest := [.int 2, .ref b]) hx hb hml hown hg (c_X1_holderOf l D cs hL0.2.1 p1) v_X1_holderOf wl_X5_78 rfl rfl ⟨Nat.le_of_ble_eq_true rfl, Nat.le_of_ble_eq_true rfl⟩ hI hK 2 hL0.2.1.1 rfl hl.1 rfl rfl (Nat.le_of_ble_eq_true rfl) dX5_hangOn_42 ⟨Nat.le_of_ble_eq_true rfl, Nat.le_of_ble_eq_true rfl⟩) hI (fun H locs hI => ?_)
        refine q_goP (q_runV (As := [.int 2, .int (s_X1_holderOf v.1 p1)]) (rest := []) hx hb hml hown hg (c_X6_refuse l D cs hL1 2 (s_X1_holderOf v.1 p1)) v_X6_refuse wl_X5_65 rfl rfl ⟨Nat.le_of_ble_eq_true rfl, Nat.le_of_ble_eq_true rfl⟩ hI hK 7 hL1 rfl hl.1 rfl rfl (Nat.le_of_ble_eq_true rfl) dX5_hangOn_45 ⟨Nat.le_of_ble_eq_true rfl, Nat.le_of_ble_eq_true rfl⟩) hI (fun M H locs hp hI => ?_)
        obtain ⟨hn0, hF⟩ := hp
        generalize heg9 : s_X6_refuse u 2 (s_X1_holderOf v.1 p1) = g9 at hn0 hR ⊢
        have hn := hn0
        have hL1 := hn
        have hL0 := hL0.fr hF (fun q h1 h2 hq => by omega)
        have hS := hS.tr hF (fun q hq => by omega)
        exact q_iret hx hb hret hlk hN hI (by subst hR; exact ⟨rfl, ⟨hL0, hL1, hS⟩, rfl⟩) dX5_hangOn_48
    · rw [if_pos c2] at hR
      refine lv_iconst (v := (-1)) hx hb dX5_hangOn_22 (by decide) ?_
      exact q_iret hx hb hret hlk hN hI (by subst hR; exact ⟨rfl, ⟨hL0, hL1, hS⟩, rfl⟩) dX5_hangOn_23
def s_X5_cutOff (v : qQV) (u : qRV) (p1 : Int32) : Int32 × qQV × qRV := (if (qbi (s_X1_isThere v.1 p1)) = 0 then ((-1), v, u) else (if 0 ≤ (s_X1_holderOf v.1 p1) then (s_X1_holderOf v.1 p1, (((s_X5_expose v p1).1.1, (rowPut (s_X5_expose v p1).1.2.1 p1 (-1)), (s_X5_expose v p1).1.2.2), (s_X8_takeLeftOff (s_X5_expose v p1).2.1 p1), (s_X5_expose v p1).2.2.1, (s_X5_expose v p1).2.2.2.1, (s_X5_expose v p1).2.2.2.2.1, (s_X5_expose v p1).2.2.2.2.2 + 1), u) else ((s_X6_refuse u 4 p1).1, v, (s_X6_refuse u 4 p1).2)))
set_option maxHeartbeats 4000000 in
set_option maxRecDepth 20000 in
theorem c_X5_cutOff (l : Launch) (D : va_G) (cs : qC) {M0 : qM} {N a b : Nat} {v : qQV} {u : qRV} (hL0 : qLQ cs M0 a v) (hL1 : qLR cs M0 b u) (hd0 : a + 13 ≤ b ∨ b + 1 ≤ a) (p1 : Int32) :
    qMet l D cs yX5_cutOff (qws yX5_cutOff cX5_cutOff 4 (some .int)) ({ frames := 5, cells := 0, slots := 0, locals := 120 } : Room) M0 N [.ref a, .int p1, .ref b] (qMod N (some (.int ((s_X5_cutOff v u p1).1))) (fun M' => qLQ cs M' a ((s_X5_cutOff v u p1).2.1) ∧ qLR cs M' b ((s_X5_cutOff v u p1).2.2) ∧ qFr (fun q => qIn a 13 q ∨ qIn b 1 q) M0 M')) 0 0 := by
  obtain ⟨R, hR⟩ : ∃ R, s_X5_cutOff v u p1 = R := ⟨_, rfl⟩
  rw [hR]
  rw [s_X5_cutOff] at hR
  refine q_head (by decide) ?_ (Nat.le_of_ble_eq_true rfl)
  intro p e s m below meth c ls hx hb hret hlk hml hown hnm hg hK hN hI hl
  have hl : lv_has ls 4 [(0, .ref a), (1, .int p1), (2, .ref b)] := hl
  have hS : qFr (fun q => qIn a 13 q ∨ qIn b 1 q) M0 M0 := qFr.rf
  refine lv_aload_n hx hb dX5_cutOff_0 rfl (lv_at hl 0 rfl) ?_
  refine q_get hx hb hg in_X5 hown hK hI hL0.1 rfl 0 (by decide) (hg _ wf_X5_12) (fun _ h9 => h9) rfl dX5_cutOff_1 ?_
  refine lv_iload_n hx hb dX5_cutOff_4 rfl (lv_at hl 1 rfl) ?_
  refine q_goR (q_runV (As := [.int p1]) (rest := []) hx hb hml hown hg (c_X1_isThere l D cs hL0.2.1 p1) v_X1_isThere wl_X5_75 rfl rfl ⟨Nat.le_of_ble_eq_true rfl, Nat.le_of_ble_eq_true rfl⟩ hI hK 2 hL0.2.1.1 rfl hl.1 rfl rfl (Nat.le_of_ble_eq_true rfl) dX5_cutOff_5 ⟨Nat.le_of_ble_eq_true rfl, Nat.le_of_ble_eq_true rfl⟩) hI (fun H locs hI => ?_)
  refine lv_if_ne (tgt := 13) hx hb dX5_cutOff_8 (by decide) (fun c1 => ?_) (fun c1 => ?_)
  · rw [if_neg c1] at hR
    refine lv_aload_n hx hb dX5_cutOff_13 rfl (lv_at hl 0 rfl) ?_
    refine q_get hx hb hg in_X5 hown hK hI hL0.1 rfl 0 (by decide) (hg _ wf_X5_12) (fun _ h9 => h9) rfl dX5_cutOff_14 ?_
    refine lv_iload_n hx hb dX5_cutOff_17 rfl (lv_at hl 1 rfl) ?_
    refine q_goR (q_runV (As := [.int p1]) (rest := []) hx hb hml hown hg (c_X1_holderOf l D cs hL0.2.1 p1) v_X1_holderOf wl_X5_78 rfl rfl ⟨Nat.le_of_ble_eq_true rfl, Nat.le_of_ble_eq_true rfl⟩ hI hK 2 hL0.2.1.1 rfl hl.1 rfl rfl (Nat.le_of_ble_eq_true rfl) dX5_cutOff_18 ⟨Nat.le_of_ble_eq_true rfl, Nat.le_of_ble_eq_true rfl⟩) hI (fun H locs hI => ?_)
    refine lv_istore_n (lv' := [(3, .int (s_X1_holderOf v.1 p1)), (0, .ref a), (1, .int p1), (2, .ref b)]) hx hb dX5_cutOff_21 rfl hl (by decide) rfl (fun ls hl => ?_)
    refine lv_iload_n hx hb dX5_cutOff_22 rfl (lv_at hl 0 rfl) ?_
    refine lv_if_ge (tgt := 33) hx hb dX5_cutOff_23 (by decide) (fun c2 => ?_) (fun c2 => ?_)
    · rw [if_pos c2] at hR
      refine lv_aload_n hx hb dX5_cutOff_33 rfl (lv_at hl 1 rfl) ?_
      refine lv_iload_n hx hb dX5_cutOff_34 rfl (lv_at hl 2 rfl) ?_
      refine q_goN (q_runV (As := [.int p1]) (rest := []) hx hb hml hown hg (c_X5_expose l D cs hL0 p1) v_X5_expose wl_X5_84 rfl rfl ⟨Nat.le_of_ble_eq_true rfl, Nat.le_of_ble_eq_true rfl⟩ hI hK 6 hL0.1 rfl hl.1 rfl rfl (Nat.le_of_ble_eq_true rfl) dX5_cutOff_35 ⟨Nat.le_of_ble_eq_true rfl, Nat.le_of_ble_eq_true rfl⟩) hI (fun M H locs hp hI => ?_)
      obtain ⟨hn0, hF⟩ := hp
      generalize heg3 : s_X5_expose v p1 = g3 at hn0 hR
      have hn := hn0
      have hL0 := hn
      have hL1 := hL1.fr hF (fun q h1 h2 hq => by omega)
      have hS := hS.tr hF (fun q hq => by omega)
      refine lv_aload_n hx hb dX5_cutOff_38 rfl (lv_at hl 1 rfl) ?_
      refine q_get hx hb hg in_X5 hown hK hI hL0.1 rfl 1 (by decide) (hg _ wf_X5_21) (fun _ h9 => h9) rfl dX5_cutOff_39 ?_
      refine lv_iload_n hx hb dX5_cutOff_42 rfl (lv_at hl 2 rfl) ?_
      refine q_goN (q_runV (As := [.int p1]) (rest := []) hx hb hml hown hg (c_X8_takeLeftOff l D cs hL0.2.2.1 p1) v_X8_takeLeftOff wl_X5_99 rfl rfl ⟨Nat.le_of_ble_eq_true rfl, Nat.le_of_ble_eq_true rfl⟩ hI hK 9 hL0.2.2.1.1 rfl hl.1 rfl rfl (Nat.le_of_ble_eq_true rfl) dX5_cutOff_43 ⟨Nat.le_of_ble_eq_true rfl, Nat.le_of_ble_eq_true rfl⟩) hI (fun M H locs hp hI => ?_)
      obtain ⟨hn0, hF⟩ := hp
      generalize heg4 : s_X8_takeLeftOff g3.2.1 p1 = g4 at hn0 hR
      have hn := hn0
      have hn : qLQ cs M a (g3.1, g4, g3.2.2.1, g3.2.2.2.1, g3.2.2.2.2.1, g3.2.2.2.2.2) := qLQ.s1 (v := g3) hL0 hn (qFr.rf.tr hF (fun q hq => by omega))
      have hL0 := hn
      have hL1 := hL1.fr hF (fun q h1 h2 hq => by omega)
      have hS := hS.tr hF (fun q hq => by omega)
      refine lv_aload_n hx hb dX5_cutOff_46 rfl (lv_at hl 1 rfl) ?_
      refine q_get hx hb hg in_X5 hown hK hI hL0.1 rfl 0 (by decide) (hg _ wf_X5_12) (fun _ h9 => h9) rfl dX5_cutOff_47 ?_
      refine q_getN hx hb hg in_X1 hown hK hI hL0.2.1.1 rfl 1 (by decide) (hK.2 _ (List.mem_of_getElem? (i := 2) rfl)) (fun _ h9 => h9) rfl dX5_cutOff_50 ?_
      refine lv_iload_n hx hb dX5_cutOff_53 rfl (lv_at hl 2 rfl) ?_
      refine lv_iconst (v := (-1)) hx hb dX5_cutOff_54 (by decide) ?_
      refine q_goN (q_runSN (As := [.ref (a + 1 + 2), .int p1, .int (-1)]) (rest := []) hx hb hml hown hg (c_X10_put l D cs hL0.2.1.2.2 p1 (-1)) v_X10_put (hK.2 _ (List.mem_of_getElem? (i := 38) rfl)) rfl rfl ⟨Nat.le_of_ble_eq_true rfl, Nat.le_of_ble_eq_true rfl⟩ hI hK hl.1 rfl rfl (Nat.le_of_ble_eq_true rfl) dX5_cutOff_55 ⟨Nat.le_of_ble_eq_true rfl, Nat.le_of_ble_eq_true rfl⟩) hI (fun M H locs hp hI => ?_)
      obtain ⟨hn0, hF⟩ := hp
      generalize heg5 : rowPut g3.1.2.1 p1 (-1) = g5 at hn0 hR
      have hn := hn0
      have hn : qLB cs M (a + 1) (g3.1.1, g5, g3.1.2.2) := qLB.s1 (v := g3.1) hL0.2.1 hn (qFr.rf.tr hF (fun q hq => by omega))
      have hn : qLQ cs M a ((g3.1.1, g5, g3.1.2.2), g4, g3.2.2.1, g3.2.2.2.1, g3.2.2.2.2.1, g3.2.2.2.2.2) := qLQ.s0 (v := (g3.1, g4, g3.2.2.1, g3.2.2.2.1, g3.2.2.2.2.1, g3.2.2.2.2.2)) hL0 hn (qFr.rf.tr hF (fun q hq => by omega))
      have hL0 := hn
      have hL1 := hL1.fr hF (fun q h1 h2 hq => by omega)
      have hS := hS.tr hF (fun q hq => by omega)
      refine lv_aload_n hx hb dX5_cutOff_58 rfl (lv_at hl 1 rfl) ?_
      refine lv_dup hx hb dX5_cutOff_59 rfl ?_
      refine q_get hx hb hg in_X5 hown hK hI hL0.1 rfl 5 (by decide) (hg _ wf_X5_45) (fun _ h9 => h9) rfl dX5_cutOff_60 ?_
      refine lv_iconst (v := 1) hx hb dX5_cutOff_63 (by decide) ?_
      refine lv_iadd hx hb dX5_cutOff_64 ?_
      have hn := qLQ.i5 (g3.2.2.2.2.2 + 1) hL0
      refine q_put (v := .int (g3.2.2.2.2.2 + 1)) hx hb hg in_X5 tyX5_ok nmX5 hown hK hI hL0.1 rfl 5 (by decide) (hg _ wf_X5_45) (fun _ h9 => h9) rfl rfl rfl (Nat.le_of_ble_eq_true rfl) dX5_cutOff_65 (fun H locs hI => ?_)
      obtain ⟨M, hn, hF, hI⟩ : ∃ Mx : qM, qLQ cs Mx a ((g3.1.1, g5, g3.1.2.2), g4, g3.2.2.1, g3.2.2.2.1, g3.2.2.2.2.1, g3.2.2.2.2.2 + 1) ∧ qFr (qIn a 1) M Mx ∧ qI D M0 s.heap Mx N H locs := ⟨_, hn, qFr.up (by decide), hI⟩
      have hL0 := hn
      have hL1 := hL1.fr hF (fun q h1 h2 hq => by omega)
      have hS := hS.tr hF (fun q hq => by omega)
      refine lv_iload_n hx hb dX5_cutOff_68 rfl (lv_at hl 0 rfl) ?_
      exact q_iret hx hb hret hlk hN hI (by subst hR; exact ⟨rfl, ⟨hL0, hL1, hS⟩, rfl⟩) dX5_cutOff_69
    · rw [if_neg c2] at hR
      refine lv_aload_n hx hb dX5_cutOff_26 rfl (lv_at hl 3 rfl) ?_
      refine lv_iconst (v := 4) hx hb dX5_cutOff_27 (by decide) ?_
      refine lv_iload_n hx hb dX5_cutOff_28 rfl (lv_at hl 2 rfl) ?_
      refine q_goP (q_runV (As := [.int 4, .int p1]) (rest := []) hx hb hml hown hg (c_X6_refuse l D cs hL1 4 p1) v_X6_refuse wl_X5_65 rfl rfl ⟨Nat.le_of_ble_eq_true rfl, Nat.le_of_ble_eq_true rfl⟩ hI hK 7 hL1 rfl hl.1 rfl rfl (Nat.le_of_ble_eq_true rfl) dX5_cutOff_29 ⟨Nat.le_of_ble_eq_true rfl, Nat.le_of_ble_eq_true rfl⟩) hI (fun M H locs hp hI => ?_)
      obtain ⟨hn0, hF⟩ := hp
      generalize heg6 : s_X6_refuse u 4 p1 = g6 at hn0 hR ⊢
      have hn := hn0
      have hL1 := hn
      have hL0 := hL0.fr hF (fun q h1 h2 hq => by omega)
      have hS := hS.tr hF (fun q hq => by omega)
      exact q_iret hx hb hret hlk hN hI (by subst hR; exact ⟨rfl, ⟨hL0, hL1, hS⟩, rfl⟩) dX5_cutOff_32
  · rw [if_pos c1] at hR
    refine lv_iconst (v := (-1)) hx hb dX5_cutOff_11 (by decide) ?_
    exact q_iret hx hb hret hlk hN hI (by subst hR; exact ⟨rfl, ⟨hL0, hL1, hS⟩, rfl⟩) dX5_cutOff_12
def s_X5_walkTo (v : qQV) (p1 : Int32) : Int32 × qQV := (if (qbi (s_X1_isThere v.1 p1)) = 0 then ((-1), v) else (s_X1_sumByHolders (s_X5_expose v p1).1 p1, (s_X5_expose v p1)))
set_option maxHeartbeats 4000000 in
set_option maxRecDepth 20000 in
theorem c_X5_walkTo (l : Launch) (D : va_G) (cs : qC) {M0 : qM} {N a : Nat} {v : qQV} (hL0 : qLQ cs M0 a v) (p1 : Int32) :
    qMet l D cs yX5_walkTo (qws yX5_walkTo cX5_walkTo 2 (some .int)) ({ frames := 5, cells := 0, slots := 0, locals := 120 } : Room) M0 N [.ref a, .int p1] (qMod N (some (.int ((s_X5_walkTo v p1).1))) (fun M' => qLQ cs M' a ((s_X5_walkTo v p1).2) ∧ qFr (qIn a 13) M0 M')) 0 0 := by
  obtain ⟨R, hR⟩ : ∃ R, s_X5_walkTo v p1 = R := ⟨_, rfl⟩
  rw [hR]
  rw [s_X5_walkTo] at hR
  refine q_head (by decide) ?_ (Nat.le_of_ble_eq_true rfl)
  intro p e s m below meth c ls hx hb hret hlk hml hown hnm hg hK hN hI hl
  have hl : lv_has ls 2 [(0, .ref a), (1, .int p1)] := hl
  have hS : qFr (qIn a 13) M0 M0 := qFr.rf
  refine lv_aload_n hx hb dX5_walkTo_0 rfl (lv_at hl 0 rfl) ?_
  refine q_get hx hb hg in_X5 hown hK hI hL0.1 rfl 0 (by decide) (hg _ wf_X5_12) (fun _ h9 => h9) rfl dX5_walkTo_1 ?_
  refine lv_iload_n hx hb dX5_walkTo_4 rfl (lv_at hl 1 rfl) ?_
  refine q_goR (q_runV (As := [.int p1]) (rest := []) hx hb hml hown hg (c_X1_isThere l D cs hL0.2.1 p1) v_X1_isThere wl_X5_75 rfl rfl ⟨Nat.le_of_ble_eq_true rfl, Nat.le_of_ble_eq_true rfl⟩ hI hK 2 hL0.2.1.1 rfl hl.1 rfl rfl (Nat.le_of_ble_eq_true rfl) dX5_walkTo_5 ⟨Nat.le_of_ble_eq_true rfl, Nat.le_of_ble_eq_true rfl⟩) hI (fun H locs hI => ?_)
  refine lv_if_ne (tgt := 13) hx hb dX5_walkTo_8 (by decide) (fun c1 => ?_) (fun c1 => ?_)
  · rw [if_neg c1] at hR
    refine lv_aload_n hx hb dX5_walkTo_13 rfl (lv_at hl 0 rfl) ?_
    refine lv_iload_n hx hb dX5_walkTo_14 rfl (lv_at hl 1 rfl) ?_
    refine q_goN (q_runV (As := [.int p1]) (rest := []) hx hb hml hown hg (c_X5_expose l D cs hL0 p1) v_X5_expose wl_X5_84 rfl rfl ⟨Nat.le_of_ble_eq_true rfl, Nat.le_of_ble_eq_true rfl⟩ hI hK 6 hL0.1 rfl hl.1 rfl rfl (Nat.le_of_ble_eq_true rfl) dX5_walkTo_15 ⟨Nat.le_of_ble_eq_true rfl, Nat.le_of_ble_eq_true rfl⟩) hI (fun M H locs hp hI => ?_)
    obtain ⟨hn0, hF⟩ := hp
    generalize heg2 : s_X5_expose v p1 = g2 at hn0 hR
    have hn := hn0
    have hL0 := hn
    have hS := hS.tr hF (fun q hq => by omega)
    refine lv_aload_n hx hb dX5_walkTo_18 rfl (lv_at hl 0 rfl) ?_
    refine q_get hx hb hg in_X5 hown hK hI hL0.1 rfl 0 (by decide) (hg _ wf_X5_12) (fun _ h9 => h9) rfl dX5_walkTo_19 ?_
    refine lv_iload_n hx hb dX5_walkTo_22 rfl (lv_at hl 1 rfl) ?_
    refine q_goR (q_runV (As := [.int p1]) (rest := []) hx hb hml hown hg (c_X1_sumByHolders l D cs hL0.2.1 p1) v_X1_sumByHolders wl_X5_102 rfl rfl ⟨Nat.le_of_ble_eq_true rfl, Nat.le_of_ble_eq_true rfl⟩ hI hK 2 hL0.2.1.1 rfl hl.1 rfl rfl (Nat.le_of_ble_eq_true rfl) dX5_walkTo_23 ⟨Nat.le_of_ble_eq_true rfl, Nat.le_of_ble_eq_true rfl⟩) hI (fun H locs hI => ?_)
    exact q_iret hx hb hret hlk hN hI (by subst hR; exact ⟨rfl, ⟨hL0, hS⟩, rfl⟩) dX5_walkTo_26
  · rw [if_pos c1] at hR
    refine lv_iconst (v := (-1)) hx hb dX5_walkTo_11 (by decide) ?_
    exact q_iret hx hb hret hlk hN hI (by subst hR; exact ⟨rfl, ⟨hL0, hS⟩, rfl⟩) dX5_walkTo_12
def s_X5_goUp (v : qQV) (p1 : Int32) : Int32 × qQV := (if (qbi (s_X1_isThere v.1 p1)) = 0 then ((-1), v) else (s_X1_rootByHolders (s_X5_expose v p1).1 p1, ((s_X5_expose v p1).1, (s_X8_splay (s_X5_expose v p1).2.1 (s_X1_rootByHolders (s_X5_expose v p1).1 p1)), (s_X5_expose v p1).2.2.1, (s_X5_expose v p1).2.2.2.1, (s_X5_expose v p1).2.2.2.2.1, (s_X5_expose v p1).2.2.2.2.2)))
set_option maxHeartbeats 4000000 in
set_option maxRecDepth 20000 in
theorem c_X5_goUp (l : Launch) (D : va_G) (cs : qC) {M0 : qM} {N a : Nat} {v : qQV} (hL0 : qLQ cs M0 a v) (p1 : Int32) :
    qMet l D cs yX5_goUp (qws yX5_goUp cX5_goUp 3 (some .int)) ({ frames := 5, cells := 0, slots := 0, locals := 120 } : Room) M0 N [.ref a, .int p1] (qMod N (some (.int ((s_X5_goUp v p1).1))) (fun M' => qLQ cs M' a ((s_X5_goUp v p1).2) ∧ qFr (qIn a 13) M0 M')) 0 0 := by
  obtain ⟨R, hR⟩ : ∃ R, s_X5_goUp v p1 = R := ⟨_, rfl⟩
  rw [hR]
  rw [s_X5_goUp] at hR
  refine q_head (by decide) ?_ (Nat.le_of_ble_eq_true rfl)
  intro p e s m below meth c ls hx hb hret hlk hml hown hnm hg hK hN hI hl
  have hl : lv_has ls 3 [(0, .ref a), (1, .int p1)] := hl
  have hS : qFr (qIn a 13) M0 M0 := qFr.rf
  refine lv_aload_n hx hb dX5_goUp_0 rfl (lv_at hl 0 rfl) ?_
  refine q_get hx hb hg in_X5 hown hK hI hL0.1 rfl 0 (by decide) (hg _ wf_X5_12) (fun _ h9 => h9) rfl dX5_goUp_1 ?_
  refine lv_iload_n hx hb dX5_goUp_4 rfl (lv_at hl 1 rfl) ?_
  refine q_goR (q_runV (As := [.int p1]) (rest := []) hx hb hml hown hg (c_X1_isThere l D cs hL0.2.1 p1) v_X1_isThere wl_X5_75 rfl rfl ⟨Nat.le_of_ble_eq_true rfl, Nat.le_of_ble_eq_true rfl⟩ hI hK 2 hL0.2.1.1 rfl hl.1 rfl rfl (Nat.le_of_ble_eq_true rfl) dX5_goUp_5 ⟨Nat.le_of_ble_eq_true rfl, Nat.le_of_ble_eq_true rfl⟩) hI (fun H locs hI => ?_)
  refine lv_if_ne (tgt := 13) hx hb dX5_goUp_8 (by decide) (fun c1 => ?_) (fun c1 => ?_)
  · rw [if_neg c1] at hR
    refine lv_aload_n hx hb dX5_goUp_13 rfl (lv_at hl 0 rfl) ?_
    refine lv_iload_n hx hb dX5_goUp_14 rfl (lv_at hl 1 rfl) ?_
    refine q_goN (q_runV (As := [.int p1]) (rest := []) hx hb hml hown hg (c_X5_expose l D cs hL0 p1) v_X5_expose wl_X5_84 rfl rfl ⟨Nat.le_of_ble_eq_true rfl, Nat.le_of_ble_eq_true rfl⟩ hI hK 6 hL0.1 rfl hl.1 rfl rfl (Nat.le_of_ble_eq_true rfl) dX5_goUp_15 ⟨Nat.le_of_ble_eq_true rfl, Nat.le_of_ble_eq_true rfl⟩) hI (fun M H locs hp hI => ?_)
    obtain ⟨hn0, hF⟩ := hp
    generalize heg2 : s_X5_expose v p1 = g2 at hn0 hR
    have hn := hn0
    have hL0 := hn
    have hS := hS.tr hF (fun q hq => by omega)
    refine lv_aload_n hx hb dX5_goUp_18 rfl (lv_at hl 0 rfl) ?_
    refine q_get hx hb hg in_X5 hown hK hI hL0.1 rfl 0 (by decide) (hg _ wf_X5_12) (fun _ h9 => h9) rfl dX5_goUp_19 ?_
    refine lv_iload_n hx hb dX5_goUp_22 rfl (lv_at hl 1 rfl) ?_
    refine q_goR (q_runV (As := [.int p1]) (rest := []) hx hb hml hown hg (c_X1_rootByHolders l D cs hL0.2.1 p1) v_X1_rootByHolders wl_X5_81 rfl rfl ⟨Nat.le_of_ble_eq_true rfl, Nat.le_of_ble_eq_true rfl⟩ hI hK 2 hL0.2.1.1 rfl hl.1 rfl rfl (Nat.le_of_ble_eq_true rfl) dX5_goUp_23 ⟨Nat.le_of_ble_eq_true rfl, Nat.le_of_ble_eq_true rfl⟩) hI (fun H locs hI => ?_)
    refine lv_istore_n (lv' := [(2, .int (s_X1_rootByHolders g2.1 p1)), (0, .ref a), (1, .int p1)]) hx hb dX5_goUp_26 rfl hl (by decide) rfl (fun ls hl => ?_)
    refine lv_aload_n hx hb dX5_goUp_27 rfl (lv_at hl 1 rfl) ?_
    refine q_get hx hb hg in_X5 hown hK hI hL0.1 rfl 1 (by decide) (hg _ wf_X5_21) (fun _ h9 => h9) rfl dX5_goUp_28 ?_
    refine lv_iload_n hx hb dX5_goUp_31 rfl (lv_at hl 0 rfl) ?_
    refine q_goN (q_runV (As := [.int (s_X1_rootByHolders g2.1 p1)]) (rest := []) hx hb hml hown hg (c_X8_splay l D cs hL0.2.2.1 (s_X1_rootByHolders g2.1 p1)) v_X8_splay wl_X5_105 rfl rfl ⟨Nat.le_of_ble_eq_true rfl, Nat.le_of_ble_eq_true rfl⟩ hI hK 9 hL0.2.2.1.1 rfl hl.1 rfl rfl (Nat.le_of_ble_eq_true rfl) dX5_goUp_32 ⟨Nat.le_of_ble_eq_true rfl, Nat.le_of_ble_eq_true rfl⟩) hI (fun M H locs hp hI => ?_)
    obtain ⟨hn0, hF⟩ := hp
    generalize heg3 : s_X8_splay g2.2.1 (s_X1_rootByHolders g2.1 p1) = g3 at hn0 hR
    have hn := hn0
    have hn : qLQ cs M a (g2.1, g3, g2.2.2.1, g2.2.2.2.1, g2.2.2.2.2.1, g2.2.2.2.2.2) := qLQ.s1 (v := g2) hL0 hn (qFr.rf.tr hF (fun q hq => by omega))
    have hL0 := hn
    have hS := hS.tr hF (fun q hq => by omega)
    refine lv_iload_n hx hb dX5_goUp_35 rfl (lv_at hl 0 rfl) ?_
    exact q_iret hx hb hret hlk hN hI (by subst hR; exact ⟨rfl, ⟨hL0, hS⟩, rfl⟩) dX5_goUp_36
  · rw [if_pos c1] at hR
    refine lv_iconst (v := (-1)) hx hb dX5_goUp_11 (by decide) ?_
    exact q_iret hx hb hret hlk hN hI (by subst hR; exact ⟨rfl, ⟨hL0, hS⟩, rfl⟩) dX5_goUp_12
def s_X5_changeWeight (v : qQV) (u : qRV) (p1 : Int32) (p2 : Int32) : Int32 × qQV × qRV := (if (qbi (s_X1_isThere v.1 p1)) = 0 then ((-1), v, u) else (if (qbi (s_X5_isWeight  p2)) = 0 then ((-2), v, u) else (if (s_X1_weightOf v.1 p1) = p2 then ((s_X6_refuse u 5 p2).1, v, (s_X6_refuse u 5 p2).2) else (s_X1_weightOf v.1 p1, (((rowPut v.1.1 p1 p2), v.1.2.1, v.1.2.2), v.2.1, v.2.2.1, v.2.2.2.1, v.2.2.2.2.1, v.2.2.2.2.2), u))))
set_option maxHeartbeats 4000000 in
set_option maxRecDepth 20000 in
theorem c_X5_changeWeight (l : Launch) (D : va_G) (cs : qC) {M0 : qM} {N a b : Nat} {v : qQV} {u : qRV} (hL0 : qLQ cs M0 a v) (hL1 : qLR cs M0 b u) (hd0 : a + 13 ≤ b ∨ b + 1 ≤ a) (p1 : Int32) (p2 : Int32) :
    qMet l D cs yX5_changeWeight (qws yX5_changeWeight cX5_changeWeight 5 (some .int)) ({ frames := 2, cells := 0, slots := 0, locals := 42 } : Room) M0 N [.ref a, .int p1, .int p2, .ref b] (qMod N (some (.int ((s_X5_changeWeight v u p1 p2).1))) (fun M' => qLQ cs M' a ((s_X5_changeWeight v u p1 p2).2.1) ∧ qLR cs M' b ((s_X5_changeWeight v u p1 p2).2.2) ∧ qFr (fun q => qIn a 13 q ∨ qIn b 1 q) M0 M')) 0 0 := by
  obtain ⟨R, hR⟩ : ∃ R, s_X5_changeWeight v u p1 p2 = R := ⟨_, rfl⟩
  rw [hR]
  rw [s_X5_changeWeight] at hR
  refine q_head (by decide) ?_ (Nat.le_of_ble_eq_true rfl)
  intro p e s m below meth c ls hx hb hret hlk hml hown hnm hg hK hN hI hl
  have hl : lv_has ls 5 [(0, .ref a), (1, .int p1), (2, .int p2), (3, .ref b)] := hl
  have hS : qFr (fun q => qIn a 13 q ∨ qIn b 1 q) M0 M0 := qFr.rf
  refine lv_aload_n hx hb dX5_changeWeight_0 rfl (lv_at hl 0 rfl) ?_
  refine q_get hx hb hg in_X5 hown hK hI hL0.1 rfl 0 (by decide) (hg _ wf_X5_12) (fun _ h9 => h9) rfl dX5_changeWeight_1 ?_
  refine lv_iload_n hx hb dX5_changeWeight_4 rfl (lv_at hl 1 rfl) ?_
  refine q_goR (q_runV (As := [.int p1]) (rest := []) hx hb hml hown hg (c_X1_isThere l D cs hL0.2.1 p1) v_X1_isThere wl_X5_75 rfl rfl ⟨Nat.le_of_ble_eq_true rfl, Nat.le_of_ble_eq_true rfl⟩ hI hK 2 hL0.2.1.1 rfl hl.1 rfl rfl (Nat.le_of_ble_eq_true rfl) dX5_changeWeight_5 ⟨Nat.le_of_ble_eq_true rfl, Nat.le_of_ble_eq_true rfl⟩) hI (fun H locs hI => ?_)
  refine lv_if_ne (tgt := 13) hx hb dX5_changeWeight_8 (by decide) (fun c1 => ?_) (fun c1 => ?_)
  · rw [if_neg c1] at hR
    refine lv_iload_n hx hb dX5_changeWeight_13 rfl (lv_at hl 2 rfl) ?_
    refine q_goR (q_runS (As := [.int p2]) (rest := []) hx hb hml hown hg (c_X5_isWeight l D cs p2) v_X5_isWeight wl_X5_58 rfl rfl ⟨Nat.le_of_ble_eq_true rfl, Nat.le_of_ble_eq_true rfl⟩ hI hK hl.1 rfl rfl (Nat.le_of_ble_eq_true rfl) dX5_changeWeight_14 ⟨Nat.le_of_ble_eq_true rfl, Nat.le_of_ble_eq_true rfl⟩) hI (fun H locs hI => ?_)
    refine lv_if_ne (tgt := 23) hx hb dX5_changeWeight_17 (by decide) (fun c2 => ?_) (fun c2 => ?_)
    · rw [if_neg c2] at hR
      refine lv_aload_n hx hb dX5_changeWeight_23 rfl (lv_at hl 0 rfl) ?_
      refine q_get hx hb hg in_X5 hown hK hI hL0.1 rfl 0 (by decide) (hg _ wf_X5_12) (fun _ h9 => h9) rfl dX5_changeWeight_24 ?_
      refine lv_iload_n hx hb dX5_changeWeight_27 rfl (lv_at hl 1 rfl) ?_
      refine q_goR (q_runV (As := [.int p1]) (rest := []) hx hb hml hown hg (c_X1_weightOf l D cs hL0.2.1 p1) v_X1_weightOf wl_X5_108 rfl rfl ⟨Nat.le_of_ble_eq_true rfl, Nat.le_of_ble_eq_true rfl⟩ hI hK 2 hL0.2.1.1 rfl hl.1 rfl rfl (Nat.le_of_ble_eq_true rfl) dX5_changeWeight_28 ⟨Nat.le_of_ble_eq_true rfl, Nat.le_of_ble_eq_true rfl⟩) hI (fun H locs hI => ?_)
      refine lv_istore (lv' := [(4, .int (s_X1_weightOf v.1 p1)), (0, .ref a), (1, .int p1), (2, .int p2), (3, .ref b)]) hx hb dX5_changeWeight_31 hl (by decide) rfl (fun ls hl => ?_)
      refine lv_iload hx hb dX5_changeWeight_33 (lv_at hl 0 rfl) ?_
      refine lv_iload_n hx hb dX5_changeWeight_35 rfl (lv_at hl 3 rfl) ?_
      refine lv_icmp_ne (tgt := 46) hx hb dX5_changeWeight_36 (by decide) (fun c3 => ?_) (fun c3 => ?_)
      · rw [if_neg c3] at hR
        refine lv_aload_n hx hb dX5_changeWeight_46 rfl (lv_at hl 1 rfl) ?_
        refine q_get hx hb hg in_X5 hown hK hI hL0.1 rfl 0 (by decide) (hg _ wf_X5_12) (fun _ h9 => h9) rfl dX5_changeWeight_47 ?_
        refine q_getN hx hb hg in_X1 hown hK hI hL0.2.1.1 rfl 0 (by decide) (hK.2 _ (List.mem_of_getElem? (i := 1) rfl)) (fun _ h9 => h9) rfl dX5_changeWeight_50 ?_
        refine lv_iload_n hx hb dX5_changeWeight_53 rfl (lv_at hl 2 rfl) ?_
        refine lv_iload_n hx hb dX5_changeWeight_54 rfl (lv_at hl 3 rfl) ?_
        refine q_goN (q_runSN (As := [.ref (a + 1 + 1), .int p1, .int p2]) (rest := []) hx hb hml hown hg (c_X10_put l D cs hL0.2.1.2.1 p1 p2) v_X10_put (hK.2 _ (List.mem_of_getElem? (i := 38) rfl)) rfl rfl ⟨Nat.le_of_ble_eq_true rfl, Nat.le_of_ble_eq_true rfl⟩ hI hK hl.1 rfl rfl (Nat.le_of_ble_eq_true rfl) dX5_changeWeight_55 ⟨Nat.le_of_ble_eq_true rfl, Nat.le_of_ble_eq_true rfl⟩) hI (fun M H locs hp hI => ?_)
        obtain ⟨hn0, hF⟩ := hp
        generalize heg4 : rowPut v.1.1 p1 p2 = g4 at hn0 hR
        have hn := hn0
        have hn : qLB cs M (a + 1) (g4, v.1.2.1, v.1.2.2) := qLB.s0 (v := v.1) hL0.2.1 hn (qFr.rf.tr hF (fun q hq => by omega))
        have hn : qLQ cs M a ((g4, v.1.2.1, v.1.2.2), v.2.1, v.2.2.1, v.2.2.2.1, v.2.2.2.2.1, v.2.2.2.2.2) := qLQ.s0 (v := v) hL0 hn (qFr.rf.tr hF (fun q hq => by omega))
        have hL0 := hn
        have hL1 := hL1.fr hF (fun q h1 h2 hq => by omega)
        have hS := hS.tr hF (fun q hq => by omega)
        refine lv_iload hx hb dX5_changeWeight_58 (lv_at hl 0 rfl) ?_
        exact q_iret hx hb hret hlk hN hI (by subst hR; exact ⟨rfl, ⟨hL0, hL1, hS⟩, rfl⟩) dX5_changeWeight_60
      · rw [if_pos c3] at hR
        refine lv_aload_n hx hb dX5_changeWeight_39 rfl (lv_at hl 4 rfl) ?_
        refine lv_iconst (v := 5) hx hb dX5_changeWeight_40 (by decide) ?_
        refine lv_iload_n hx hb dX5_changeWeight_41 rfl (lv_at hl 3 rfl) ?_
        refine q_goP (q_runV (As := [.int 5, .int p2]) (rest := []) hx hb hml hown hg (c_X6_refuse l D cs hL1 5 p2) v_X6_refuse wl_X5_65 rfl rfl ⟨Nat.le_of_ble_eq_true rfl, Nat.le_of_ble_eq_true rfl⟩ hI hK 7 hL1 rfl hl.1 rfl rfl (Nat.le_of_ble_eq_true rfl) dX5_changeWeight_42 ⟨Nat.le_of_ble_eq_true rfl, Nat.le_of_ble_eq_true rfl⟩) hI (fun M H locs hp hI => ?_)
        obtain ⟨hn0, hF⟩ := hp
        generalize heg5 : s_X6_refuse u 5 p2 = g5 at hn0 hR ⊢
        have hn := hn0
        have hL1 := hn
        have hL0 := hL0.fr hF (fun q h1 h2 hq => by omega)
        have hS := hS.tr hF (fun q hq => by omega)
        exact q_iret hx hb hret hlk hN hI (by subst hR; exact ⟨rfl, ⟨hL0, hL1, hS⟩, rfl⟩) dX5_changeWeight_45
    · rw [if_pos c2] at hR
      refine lv_bipush (v := (-2)) hx hb dX5_changeWeight_20 (by decide) ?_
      exact q_iret hx hb hret hlk hN hI (by subst hR; exact ⟨rfl, ⟨hL0, hL1, hS⟩, rfl⟩) dX5_changeWeight_22
  · rw [if_pos c1] at hR
    refine lv_iconst (v := (-1)) hx hb dX5_changeWeight_11 (by decide) ?_
    exact q_iret hx hb hret hlk hN hI (by subst hR; exact ⟨rfl, ⟨hL0, hL1, hS⟩, rfl⟩) dX5_changeWeight_12
def s_X5_setSledge (v : qQV) (u : qRV) (p1 : Int32) : Int32 × qQV × qRV := (if (qbi (s_X1_isThere v.1 p1)) = 0 then ((-1), v, u) else (if v.2.2.1.2.2.2.2 < 3 then ((s_X7_add v.2.2.1 p1 (s_X1_weightOf v.1 p1)).1, (v.1, v.2.1, (s_X7_add v.2.2.1 p1 (s_X1_weightOf v.1 p1)).2, v.2.2.2.1, v.2.2.2.2.1, v.2.2.2.2.2), u) else ((s_X6_refuse u 1 3).1, v, (s_X6_refuse u 1 3).2)))
set_option maxHeartbeats 4000000 in
set_option maxRecDepth 20000 in
theorem c_X5_setSledge (l : Launch) (D : va_G) (cs : qC) {M0 : qM} {N a b : Nat} {v : qQV} {u : qRV} (hL0 : qLQ cs M0 a v) (hL1 : qLR cs M0 b u) (hd0 : a + 13 ≤ b ∨ b + 1 ≤ a) (p1 : Int32) :
    qMet l D cs yX5_setSledge (qws yX5_setSledge cX5_setSledge 3 (some .int)) ({ frames := 2, cells := 0, slots := 0, locals := 45 } : Room) M0 N [.ref a, .int p1, .ref b] (qMod N (some (.int ((s_X5_setSledge v u p1).1))) (fun M' => qLQ cs M' a ((s_X5_setSledge v u p1).2.1) ∧ qLR cs M' b ((s_X5_setSledge v u p1).2.2) ∧ qFr (fun q => qIn a 13 q ∨ qIn b 1 q) M0 M')) 0 0 := by
  obtain ⟨R, hR⟩ : ∃ R, s_X5_setSledge v u p1 = R := ⟨_, rfl⟩
  rw [hR]
  rw [s_X5_setSledge] at hR
  refine q_head (by decide) ?_ (Nat.le_of_ble_eq_true rfl)
  intro p e s m below meth c ls hx hb hret hlk hml hown hnm hg hK hN hI hl
  have hl : lv_has ls 3 [(0, .ref a), (1, .int p1), (2, .ref b)] := hl
  have hS : qFr (fun q => qIn a 13 q ∨ qIn b 1 q) M0 M0 := qFr.rf
  refine lv_aload_n hx hb dX5_setSledge_0 rfl (lv_at hl 0 rfl) ?_
  refine q_get hx hb hg in_X5 hown hK hI hL0.1 rfl 0 (by decide) (hg _ wf_X5_12) (fun _ h9 => h9) rfl dX5_setSledge_1 ?_
  refine lv_iload_n hx hb dX5_setSledge_4 rfl (lv_at hl 1 rfl) ?_
  refine q_goR (q_runV (As := [.int p1]) (rest := []) hx hb hml hown hg (c_X1_isThere l D cs hL0.2.1 p1) v_X1_isThere wl_X5_75 rfl rfl ⟨Nat.le_of_ble_eq_true rfl, Nat.le_of_ble_eq_true rfl⟩ hI hK 2 hL0.2.1.1 rfl hl.1 rfl rfl (Nat.le_of_ble_eq_true rfl) dX5_setSledge_5 ⟨Nat.le_of_ble_eq_true rfl, Nat.le_of_ble_eq_true rfl⟩) hI (fun H locs hI => ?_)
  refine lv_if_ne (tgt := 13) hx hb dX5_setSledge_8 (by decide) (fun c1 => ?_) (fun c1 => ?_)
  · rw [if_neg c1] at hR
    refine lv_aload_n hx hb dX5_setSledge_13 rfl (lv_at hl 0 rfl) ?_
    refine q_get hx hb hg in_X5 hown hK hI hL0.1 rfl 2 (by decide) (hg _ wf_X5_28) (fun _ h9 => h9) rfl dX5_setSledge_14 ?_
    refine q_getN hx hb hg in_X7 hown hK hI hL0.2.2.2.1 rfl 4 (by decide) (hK.2 _ (List.mem_of_getElem? (i := 8) rfl)) (fun _ h9 => h9) rfl dX5_setSledge_17 ?_
    refine lv_iconst (v := 3) hx hb dX5_setSledge_20 (by decide) ?_
    refine lv_icmp_lt (tgt := 31) hx hb dX5_setSledge_21 (by decide) (fun c2 => ?_) (fun c2 => ?_)
    · rw [if_pos c2] at hR
      refine lv_aload_n hx hb dX5_setSledge_31 rfl (lv_at hl 0 rfl) ?_
      refine q_get hx hb hg in_X5 hown hK hI hL0.1 rfl 2 (by decide) (hg _ wf_X5_28) (fun _ h9 => h9) rfl dX5_setSledge_32 ?_
      refine lv_iload_n hx hb dX5_setSledge_35 rfl (lv_at hl 1 rfl) ?_
      refine lv_aload_n hx hb dX5_setSledge_36 rfl (lv_at hl 0 rfl) ?_
      refine q_get hx hb hg in_X5 hown hK hI hL0.1 rfl 0 (by decide) (hg _ wf_X5_12) (fun _ h9 => h9) rfl dX5_setSledge_37 ?_
      refine lv_iload_n hx hb dX5_setSledge_40 rfl (lv_at hl 1 rfl) ?_
      refine q_goR (q_runV (As := [.int p1]) (rest := [.int p1, .ref (a + 8)]) hx hb hml hown hg (c_X1_weightOf l D cs hL0.2.1 p1) v_X1_weightOf wl_X5_108 rfl rfl ⟨Nat.le_of_ble_eq_true rfl, Nat.le_of_ble_eq_true rfl⟩ hI hK 2 hL0.2.1.1 rfl hl.1 rfl rfl (Nat.le_of_ble_eq_true rfl) dX5_setSledge_41 ⟨Nat.le_of_ble_eq_true rfl, Nat.le_of_ble_eq_true rfl⟩) hI (fun H locs hI => ?_)
      refine q_goP (q_runV (As := [.int p1, .int (s_X1_weightOf v.1 p1)]) (rest := []) hx hb hml hown hg (c_X7_add l D cs hL0.2.2.2 p1 (s_X1_weightOf v.1 p1)) v_X7_add wl_X5_115 rfl rfl ⟨Nat.le_of_ble_eq_true rfl, Nat.le_of_ble_eq_true rfl⟩ hI hK 8 hL0.2.2.2.1 rfl hl.1 rfl rfl (Nat.le_of_ble_eq_true rfl) dX5_setSledge_44 ⟨Nat.le_of_ble_eq_true rfl, Nat.le_of_ble_eq_true rfl⟩) hI (fun M H locs hp hI => ?_)
      obtain ⟨hn0, hF⟩ := hp
      generalize heg3 : s_X7_add v.2.2.1 p1 (s_X1_weightOf v.1 p1) = g3 at hn0 hR ⊢
      have hn := hn0
      have hn : qLQ cs M a (v.1, v.2.1, g3.2, v.2.2.2.1, v.2.2.2.2.1, v.2.2.2.2.2) := qLQ.s2 (v := v) hL0 hn (qFr.rf.tr hF (fun q hq => by omega))
      have hL0 := hn
      have hL1 := hL1.fr hF (fun q h1 h2 hq => by omega)
      have hS := hS.tr hF (fun q hq => by omega)
      exact q_iret hx hb hret hlk hN hI (by subst hR; exact ⟨rfl, ⟨hL0, hL1, hS⟩, rfl⟩) dX5_setSledge_47
    · rw [if_neg c2] at hR
      refine lv_aload_n hx hb dX5_setSledge_24 rfl (lv_at hl 2 rfl) ?_
      refine lv_iconst (v := 1) hx hb dX5_setSledge_25 (by decide) ?_
      refine lv_iconst (v := 3) hx hb dX5_setSledge_26 (by decide) ?_
      refine q_goP (q_runV (As := [.int 1, .int 3]) (rest := []) hx hb hml hown hg (c_X6_refuse l D cs hL1 1 3) v_X6_refuse wl_X5_65 rfl rfl ⟨Nat.le_of_ble_eq_true rfl, Nat.le_of_ble_eq_true rfl⟩ hI hK 7 hL1 rfl hl.1 rfl rfl (Nat.le_of_ble_eq_true rfl) dX5_setSledge_27 ⟨Nat.le_of_ble_eq_true rfl, Nat.le_of_ble_eq_true rfl⟩) hI (fun M H locs hp hI => ?_)
      obtain ⟨hn0, hF⟩ := hp
      generalize heg4 : s_X6_refuse u 1 3 = g4 at hn0 hR ⊢
      have hn := hn0
      have hL1 := hn
      have hL0 := hL0.fr hF (fun q h1 h2 hq => by omega)
      have hS := hS.tr hF (fun q hq => by omega)
      exact q_iret hx hb hret hlk hN hI (by subst hR; exact ⟨rfl, ⟨hL0, hL1, hS⟩, rfl⟩) dX5_setSledge_30
  · rw [if_pos c1] at hR
    refine lv_iconst (v := (-1)) hx hb dX5_setSledge_11 (by decide) ?_
    exact q_iret hx hb hret hlk hN hI (by subst hR; exact ⟨rfl, ⟨hL0, hL1, hS⟩, rfl⟩) dX5_setSledge_12
def s_X5_pullSledges_L34  : Nat → Int32 → Int32 → qQV → qRV → (Int32 × qQV × qRV)
  | 0, _, _, _, _ => default
  | n + 1, x2h34, x3h34, z0, z1 => (if 3 ≤ x3h34 then ((s_X7_countArrived z0.2.2.1) - x2h34, z0, z1) else (if (qbi (s_X7_isUnderway z0.2.2.1 x3h34)) = 0 then (s_X5_pullSledges_L34  n x2h34 (x3h34 + 1) z0 z1) else (s_X5_pullSledges_L34  n x2h34 (x3h34 + 1) ((s_X5_expose z0 (s_X7_placeAt z0.2.2.1 x3h34)).1, (s_X5_expose z0 (s_X7_placeAt z0.2.2.1 x3h34)).2.1, (s_X7_drag (s_X5_expose z0 (s_X7_placeAt z0.2.2.1 x3h34)).2.2.1 x3h34 (s_X1_holderOf (s_X5_expose z0 (s_X7_placeAt z0.2.2.1 x3h34)).1 (s_X7_placeAt z0.2.2.1 x3h34))), (s_X5_expose z0 (s_X7_placeAt z0.2.2.1 x3h34)).2.2.2.1, (s_X5_expose z0 (s_X7_placeAt z0.2.2.1 x3h34)).2.2.2.2.1, (s_X5_expose z0 (s_X7_placeAt z0.2.2.1 x3h34)).2.2.2.2.2) z1)))
def s_X5_pullSledges (v : qQV) (u : qRV)  : Int32 × qQV × qRV := (if (s_X7_countUnderway v.2.2.1) = 0 then ((s_X6_refuse u 6 (s_X7_countArrived v.2.2.1)).1, v, (s_X6_refuse u 6 (s_X7_countArrived v.2.2.1)).2) else (s_X5_pullSledges_L34  ((3 : Int32).toInt.toNat + 1) (s_X7_countArrived v.2.2.1) 0 v u))
set_option maxHeartbeats 4000000 in
set_option maxRecDepth 20000 in
theorem c_X5_pullSledges (l : Launch) (D : va_G) (cs : qC) {M0 : qM} {N a b : Nat} {v : qQV} {u : qRV} (hL0 : qLQ cs M0 a v) (hL1 : qLR cs M0 b u) (hd0 : a + 13 ≤ b ∨ b + 1 ≤ a) :
    qMet l D cs yX5_pullSledges (qws yX5_pullSledges cX5_pullSledges 5 (some .int)) ({ frames := 5, cells := 0, slots := 0, locals := 120 } : Room) M0 N [.ref a, .ref b] (qMod N (some (.int ((s_X5_pullSledges v u).1))) (fun M' => qLQ cs M' a ((s_X5_pullSledges v u).2.1) ∧ qLR cs M' b ((s_X5_pullSledges v u).2.2) ∧ qFr (fun q => qIn a 13 q ∨ qIn b 1 q) M0 M')) 0 0 := by
  obtain ⟨R, hR⟩ : ∃ R, s_X5_pullSledges v u = R := ⟨_, rfl⟩
  rw [hR]
  rw [s_X5_pullSledges] at hR
  refine q_head (by decide) ?_ (Nat.le_of_ble_eq_true rfl)
  intro p e s m below meth c ls hx hb hret hlk hml hown hnm hg hK hN hI hl
  have hl : lv_has ls 5 [(0, .ref a), (1, .ref b)] := hl
  have hS : qFr (fun q => qIn a 13 q ∨ qIn b 1 q) M0 M0 := qFr.rf
  refine lv_aload_n hx hb dX5_pullSledges_0 rfl (lv_at hl 0 rfl) ?_
  refine q_get hx hb hg in_X5 hown hK hI hL0.1 rfl 2 (by decide) (hg _ wf_X5_28) (fun _ h9 => h9) rfl dX5_pullSledges_1 ?_
  refine q_goR (q_runV (As := []) (rest := []) hx hb hml hown hg (c_X7_countUnderway l D cs hL0.2.2.2) v_X7_countUnderway wl_X5_117 rfl rfl ⟨Nat.le_of_ble_eq_true rfl, Nat.le_of_ble_eq_true rfl⟩ hI hK 8 hL0.2.2.2.1 rfl hl.1 rfl rfl (Nat.le_of_ble_eq_true rfl) dX5_pullSledges_4 ⟨Nat.le_of_ble_eq_true rfl, Nat.le_of_ble_eq_true rfl⟩) hI (fun H locs hI => ?_)
  refine lv_if_ne (tgt := 24) hx hb dX5_pullSledges_7 (by decide) (fun c1 => ?_) (fun c1 => ?_)
  · rw [if_neg c1] at hR
    refine lv_aload_n hx hb dX5_pullSledges_24 rfl (lv_at hl 0 rfl) ?_
    refine q_get hx hb hg in_X5 hown hK hI hL0.1 rfl 2 (by decide) (hg _ wf_X5_28) (fun _ h9 => h9) rfl dX5_pullSledges_25 ?_
    refine q_goR (q_runV (As := []) (rest := []) hx hb hml hown hg (c_X7_countArrived l D cs hL0.2.2.2) v_X7_countArrived wl_X5_121 rfl rfl ⟨Nat.le_of_ble_eq_true rfl, Nat.le_of_ble_eq_true rfl⟩ hI hK 8 hL0.2.2.2.1 rfl hl.1 rfl rfl (Nat.le_of_ble_eq_true rfl) dX5_pullSledges_28 ⟨Nat.le_of_ble_eq_true rfl, Nat.le_of_ble_eq_true rfl⟩) hI (fun H locs hI => ?_)
    refine lv_istore_n (lv' := [(2, .int (s_X7_countArrived v.2.2.1)), (0, .ref a), (1, .ref b)]) hx hb dX5_pullSledges_31 rfl hl (by decide) rfl (fun ls hl => ?_)
    refine lv_iconst (v := 0) hx hb dX5_pullSledges_32 (by decide) ?_
    refine lv_istore_n (lv' := [(3, .int 0), (2, .int (s_X7_countArrived v.2.2.1)), (0, .ref a), (1, .ref b)]) hx hb dX5_pullSledges_33 rfl hl (by decide) rfl (fun ls hl => ?_)
    have loop34 : ∀ (n34 : Nat) (x2h34 : Int32) (x3h34 : Int32) (z0 : qQV) (z1 : qRV), qmu 3 x3h34 < n34 → s_X5_pullSledges_L34  n34 x2h34 x3h34 z0 z1 = R → ∀ (M : qM) (H : Heap) (locs : List Loc) (ls : Array Slot), qLQ cs M a z0 → qLR cs M b z1 → qFr (fun q => qIn a 13 q ∨ qIn b 1 q) M0 M → qI D M0 s.heap M N H locs → lv_has ls 5 [(0, .ref a), (1, .ref b), (2, .int x2h34), (3, .int x3h34)] →
        W p l e ({ frames := 5, cells := 0, slots := 0, locals := 120 } : Room) s m [Value.ref a, Value.ref b].toArray below meth c H locs 0 0 (MQ below (qQ D M0 N (qMod N (some (.int R.1)) (fun M' => qLQ cs M' a R.2.1 ∧ qLR cs M' b R.2.2 ∧ qFr (fun q => qIn a 13 q ∨ qIn b 1 q) M0 M'))) [Value.ref a, Value.ref b].toArray s 0 0 (qA M0 N)) (F0 m 34 ls []) := by
      intro n34
      induction n34 with
      | zero => intro x2h34 x3h34 z0 z1 hm; exact absurd hm (Nat.not_lt_zero _)
      | succ n34 ih34 =>
        intro x2h34 x3h34 z0 z1 hm34 hR M H locs ls hL0 hL1 hS hI hl
        rw [s_X5_pullSledges_L34] at hR
        refine lv_iload_n hx hb dX5_pullSledges_34 rfl (lv_at hl 3 rfl) ?_
        refine lv_iconst (v := 3) hx hb dX5_pullSledges_35 (by decide) ?_
        refine lv_icmp_ge (tgt := 89) hx hb dX5_pullSledges_36 (by decide) (fun c2 => ?_) (fun c2 => ?_)
        · rw [if_pos c2] at hR
          refine lv_aload_n hx hb dX5_pullSledges_89 rfl (lv_at hl 0 rfl) ?_
          refine q_get hx hb hg in_X5 hown hK hI hL0.1 rfl 2 (by decide) (hg _ wf_X5_28) (fun _ h9 => h9) rfl dX5_pullSledges_90 ?_
          refine q_goR (q_runV (As := []) (rest := []) hx hb hml hown hg (c_X7_countArrived l D cs hL0.2.2.2) v_X7_countArrived wl_X5_121 rfl rfl ⟨Nat.le_of_ble_eq_true rfl, Nat.le_of_ble_eq_true rfl⟩ hI hK 8 hL0.2.2.2.1 rfl hl.1 rfl rfl (Nat.le_of_ble_eq_true rfl) dX5_pullSledges_93 ⟨Nat.le_of_ble_eq_true rfl, Nat.le_of_ble_eq_true rfl⟩) hI (fun H locs hI => ?_)
          refine lv_iload_n hx hb dX5_pullSledges_96 rfl (lv_at hl 2 rfl) ?_
          refine lv_isub hx hb dX5_pullSledges_97 ?_
          exact q_iret hx hb hret hlk hN hI (by subst hR; exact ⟨rfl, ⟨hL0, hL1, hS⟩, rfl⟩) dX5_pullSledges_98
        · rw [if_neg c2] at hR
          refine lv_aload_n hx hb dX5_pullSledges_39 rfl (lv_at hl 0 rfl) ?_
          refine q_get hx hb hg in_X5 hown hK hI hL0.1 rfl 2 (by decide) (hg _ wf_X5_28) (fun _ h9 => h9) rfl dX5_pullSledges_40 ?_
          refine lv_iload_n hx hb dX5_pullSledges_43 rfl (lv_at hl 3 rfl) ?_
          refine q_goR (q_runV (As := [.int x3h34]) (rest := []) hx hb hml hown hg (c_X7_isUnderway l D cs hL0.2.2.2 x3h34) v_X7_isUnderway wl_X5_124 rfl rfl ⟨Nat.le_of_ble_eq_true rfl, Nat.le_of_ble_eq_true rfl⟩ hI hK 8 hL0.2.2.2.1 rfl hl.1 rfl rfl (Nat.le_of_ble_eq_true rfl) dX5_pullSledges_44 ⟨Nat.le_of_ble_eq_true rfl, Nat.le_of_ble_eq_true rfl⟩) hI (fun H locs hI => ?_)
          refine lv_if_eq (tgt := 83) hx hb dX5_pullSledges_47 (by decide) (fun c3 => ?_) (fun c3 => ?_)
          · rw [if_pos c3] at hR
            refine lv_iinc (v := x3h34 + 1) (lv' := [(3, .int (x3h34 + 1)), (0, .ref a), (1, .ref b), (2, .int x2h34)]) hx hb dX5_pullSledges_83 hl (k := 3) rfl rfl (by decide) rfl (fun ls hl => ?_)
            refine lv_goto (tgt := 34) hx hb dX5_pullSledges_86 (by decide) ?_
            exact ih34 x2h34 (x3h34 + 1) z0 z1 (q_mu c2 hm34) hR _ _ _ _ hL0 hL1 hS hI (lv_sub hl [1, 2, 3, 0] rfl)
          · rw [if_neg c3] at hR
            refine lv_aload_n hx hb dX5_pullSledges_50 rfl (lv_at hl 0 rfl) ?_
            refine q_get hx hb hg in_X5 hown hK hI hL0.1 rfl 2 (by decide) (hg _ wf_X5_28) (fun _ h9 => h9) rfl dX5_pullSledges_51 ?_
            refine lv_iload_n hx hb dX5_pullSledges_54 rfl (lv_at hl 3 rfl) ?_
            refine q_goR (q_runV (As := [.int x3h34]) (rest := []) hx hb hml hown hg (c_X7_placeAt l D cs hL0.2.2.2 x3h34) v_X7_placeAt wl_X5_127 rfl rfl ⟨Nat.le_of_ble_eq_true rfl, Nat.le_of_ble_eq_true rfl⟩ hI hK 8 hL0.2.2.2.1 rfl hl.1 rfl rfl (Nat.le_of_ble_eq_true rfl) dX5_pullSledges_55 ⟨Nat.le_of_ble_eq_true rfl, Nat.le_of_ble_eq_true rfl⟩) hI (fun H locs hI => ?_)
            refine lv_istore (lv' := [(4, .int (s_X7_placeAt z0.2.2.1 x3h34)), (0, .ref a), (1, .ref b), (2, .int x2h34), (3, .int x3h34)]) hx hb dX5_pullSledges_58 hl (by decide) rfl (fun ls hl => ?_)
            refine lv_aload_n hx hb dX5_pullSledges_60 rfl (lv_at hl 1 rfl) ?_
            refine lv_iload hx hb dX5_pullSledges_61 (lv_at hl 0 rfl) ?_
            refine q_goN (q_runV (As := [.int (s_X7_placeAt z0.2.2.1 x3h34)]) (rest := []) hx hb hml hown hg (c_X5_expose l D cs hL0 (s_X7_placeAt z0.2.2.1 x3h34)) v_X5_expose wl_X5_84 rfl rfl ⟨Nat.le_of_ble_eq_true rfl, Nat.le_of_ble_eq_true rfl⟩ hI hK 6 hL0.1 rfl hl.1 rfl rfl (Nat.le_of_ble_eq_true rfl) dX5_pullSledges_63 ⟨Nat.le_of_ble_eq_true rfl, Nat.le_of_ble_eq_true rfl⟩) hI (fun M H locs hp hI => ?_)
            obtain ⟨hn0, hF⟩ := hp
            generalize heg4 : s_X5_expose z0 (s_X7_placeAt z0.2.2.1 x3h34) = g4 at hn0 hR
            have hn := hn0
            have hL0 := hn
            have hL1 := hL1.fr hF (fun q h1 h2 hq => by omega)
            have hS := hS.tr hF (fun q hq => by omega)
            refine lv_aload_n hx hb dX5_pullSledges_66 rfl (lv_at hl 1 rfl) ?_
            refine q_get hx hb hg in_X5 hown hK hI hL0.1 rfl 2 (by decide) (hg _ wf_X5_28) (fun _ h9 => h9) rfl dX5_pullSledges_67 ?_
            refine lv_iload_n hx hb dX5_pullSledges_70 rfl (lv_at hl 4 rfl) ?_
            refine lv_aload_n hx hb dX5_pullSledges_71 rfl (lv_at hl 1 rfl) ?_
            refine q_get hx hb hg in_X5 hown hK hI hL0.1 rfl 0 (by decide) (hg _ wf_X5_12) (fun _ h9 => h9) rfl dX5_pullSledges_72 ?_
            refine lv_iload hx hb dX5_pullSledges_75 (lv_at hl 0 rfl) ?_
            refine q_goR (q_runV (As := [.int (s_X7_placeAt z0.2.2.1 x3h34)]) (rest := [.int x3h34, .ref (a + 8)]) hx hb hml hown hg (c_X1_holderOf l D cs hL0.2.1 (s_X7_placeAt z0.2.2.1 x3h34)) v_X1_holderOf wl_X5_78 rfl rfl ⟨Nat.le_of_ble_eq_true rfl, Nat.le_of_ble_eq_true rfl⟩ hI hK 2 hL0.2.1.1 rfl hl.1 rfl rfl (Nat.le_of_ble_eq_true rfl) dX5_pullSledges_77 ⟨Nat.le_of_ble_eq_true rfl, Nat.le_of_ble_eq_true rfl⟩) hI (fun H locs hI => ?_)
            refine q_goN (q_runV (As := [.int x3h34, .int (s_X1_holderOf g4.1 (s_X7_placeAt z0.2.2.1 x3h34))]) (rest := []) hx hb hml hown hg (c_X7_drag l D cs hL0.2.2.2 x3h34 (s_X1_holderOf g4.1 (s_X7_placeAt z0.2.2.1 x3h34))) v_X7_drag wl_X5_130 rfl rfl ⟨Nat.le_of_ble_eq_true rfl, Nat.le_of_ble_eq_true rfl⟩ hI hK 8 hL0.2.2.2.1 rfl hl.1 rfl rfl (Nat.le_of_ble_eq_true rfl) dX5_pullSledges_80 ⟨Nat.le_of_ble_eq_true rfl, Nat.le_of_ble_eq_true rfl⟩) hI (fun M H locs hp hI => ?_)
            obtain ⟨hn0, hF⟩ := hp
            generalize heg5 : s_X7_drag g4.2.2.1 x3h34 (s_X1_holderOf g4.1 (s_X7_placeAt z0.2.2.1 x3h34)) = g5 at hn0 hR
            have hn := hn0
            have hn : qLQ cs M a (g4.1, g4.2.1, g5, g4.2.2.2.1, g4.2.2.2.2.1, g4.2.2.2.2.2) := qLQ.s2 (v := g4) hL0 hn (qFr.rf.tr hF (fun q hq => by omega))
            have hL0 := hn
            have hL1 := hL1.fr hF (fun q h1 h2 hq => by omega)
            have hS := hS.tr hF (fun q hq => by omega)
            refine lv_iinc (v := x3h34 + 1) (lv' := [(3, .int (x3h34 + 1)), (4, .int (s_X7_placeAt z0.2.2.1 x3h34)), (0, .ref a), (1, .ref b), (2, .int x2h34)]) hx hb dX5_pullSledges_83 hl (k := 4) rfl rfl (by decide) rfl (fun ls hl => ?_)
            refine lv_goto (tgt := 34) hx hb dX5_pullSledges_86 (by decide) ?_
            exact ih34 x2h34 (x3h34 + 1) (g4.1, g4.2.1, g5, g4.2.2.2.1, g4.2.2.2.2.1, g4.2.2.2.2.2) z1 (q_mu c2 hm34) hR _ _ _ _ hL0 hL1 hS hI (lv_sub hl [2, 3, 4, 0] rfl)
    exact loop34 _ (s_X7_countArrived v.2.2.1) 0 v u (q_fuel _) hR _ _ _ _ hL0 hL1 hS hI (lv_sub hl [2, 3, 1, 0] rfl)
  · rw [if_pos c1] at hR
    refine lv_aload_n hx hb dX5_pullSledges_10 rfl (lv_at hl 1 rfl) ?_
    refine lv_bipush (v := 6) hx hb dX5_pullSledges_11 (by decide) ?_
    refine lv_aload_n hx hb dX5_pullSledges_13 rfl (lv_at hl 0 rfl) ?_
    refine q_get hx hb hg in_X5 hown hK hI hL0.1 rfl 2 (by decide) (hg _ wf_X5_28) (fun _ h9 => h9) rfl dX5_pullSledges_14 ?_
    refine q_goR (q_runV (As := []) (rest := [.int 6, .ref b]) hx hb hml hown hg (c_X7_countArrived l D cs hL0.2.2.2) v_X7_countArrived wl_X5_121 rfl rfl ⟨Nat.le_of_ble_eq_true rfl, Nat.le_of_ble_eq_true rfl⟩ hI hK 8 hL0.2.2.2.1 rfl hl.1 rfl rfl (Nat.le_of_ble_eq_true rfl) dX5_pullSledges_17 ⟨Nat.le_of_ble_eq_true rfl, Nat.le_of_ble_eq_true rfl⟩) hI (fun H locs hI => ?_)
    refine q_goP (q_runV (As := [.int 6, .int (s_X7_countArrived v.2.2.1)]) (rest := []) hx hb hml hown hg (c_X6_refuse l D cs hL1 6 (s_X7_countArrived v.2.2.1)) v_X6_refuse wl_X5_65 rfl rfl ⟨Nat.le_of_ble_eq_true rfl, Nat.le_of_ble_eq_true rfl⟩ hI hK 7 hL1 rfl hl.1 rfl rfl (Nat.le_of_ble_eq_true rfl) dX5_pullSledges_20 ⟨Nat.le_of_ble_eq_true rfl, Nat.le_of_ble_eq_true rfl⟩) hI (fun M H locs hp hI => ?_)
    obtain ⟨hn0, hF⟩ := hp
    generalize heg6 : s_X6_refuse u 6 (s_X7_countArrived v.2.2.1) = g6 at hn0 hR ⊢
    have hn := hn0
    have hL1 := hn
    have hL0 := hL0.fr hF (fun q h1 h2 hq => by omega)
    have hS := hS.tr hF (fun q hq => by omega)
    exact q_iret hx hb hret hlk hN hI (by subst hR; exact ⟨rfl, ⟨hL0, hL1, hS⟩, rfl⟩) dX5_pullSledges_23
def s_X5_countRopes_L4 (v : qQV) : Nat → Int32 → Int32 → Int32
  | 0, _, _ => default
  | n + 1, x1h4, x2h4 => (if v.1.2.2 ≤ x2h4 then x1h4 else (if 0 ≤ (s_X8_upperOf v.2.1 x2h4) then (s_X5_countRopes_L4 v n (x1h4 + 0) (x2h4 + 1)) else (s_X5_countRopes_L4 v n (x1h4 + 1) (x2h4 + 1))))
def s_X5_countRopes (v : qQV)  : Int32 := (s_X5_countRopes_L4 v (v.1.2.2.toInt.toNat + 1) 0 0)
set_option maxHeartbeats 4000000 in
set_option maxRecDepth 20000 in
theorem c_X5_countRopes (l : Launch) (D : va_G) (cs : qC) {M0 : qM} {N a : Nat} {v : qQV} (hL0 : qLQ cs M0 a v) :
    qMet l D cs yX5_countRopes (qws yX5_countRopes cX5_countRopes 3 (some .int)) ({ frames := 2, cells := 0, slots := 0, locals := 42 } : Room) M0 N [.ref a] (qRet M0 N (.int (s_X5_countRopes v))) 0 0 := by
  obtain ⟨R, hR⟩ : ∃ R, s_X5_countRopes v = R := ⟨_, rfl⟩
  rw [hR]
  rw [s_X5_countRopes] at hR
  refine q_head (by decide) ?_ (Nat.le_of_ble_eq_true rfl)
  intro p e s m below meth c ls hx hb hret hlk hml hown hnm hg hK hN hI hl
  have hl : lv_has ls 3 [(0, .ref a)] := hl
  refine lv_iconst (v := 0) hx hb dX5_countRopes_0 (by decide) ?_
  refine lv_istore_n (lv' := [(1, .int 0), (0, .ref a)]) hx hb dX5_countRopes_1 rfl hl (by decide) rfl (fun ls hl => ?_)
  refine lv_iconst (v := 0) hx hb dX5_countRopes_2 (by decide) ?_
  refine lv_istore_n (lv' := [(2, .int 0), (1, .int 0), (0, .ref a)]) hx hb dX5_countRopes_3 rfl hl (by decide) rfl (fun ls hl => ?_)
  have loop4 : ∀ (n4 : Nat) (x1h4 : Int32) (x2h4 : Int32), qmu v.1.2.2 x2h4 < n4 → s_X5_countRopes_L4 v n4 x1h4 x2h4 = R → ∀ (H : Heap) (locs : List Loc) (ls : Array Slot), qI D M0 s.heap M0 N H locs → lv_has ls 3 [(0, .ref a), (1, .int x1h4), (2, .int x2h4)] →
      W p l e ({ frames := 2, cells := 0, slots := 0, locals := 42 } : Room) s m [Value.ref a].toArray below meth c H locs 0 0 (MQ below (qQ D M0 N (qRet M0 N (.int R))) [Value.ref a].toArray s 0 0 (qA M0 N)) (F0 m 4 ls []) := by
    intro n4
    induction n4 with
    | zero => intro x1h4 x2h4 hm; exact absurd hm (Nat.not_lt_zero _)
    | succ n4 ih4 =>
      intro x1h4 x2h4 hm4 hR H locs ls  hI hl
      rw [s_X5_countRopes_L4] at hR
      refine lv_iload_n hx hb dX5_countRopes_4 rfl (lv_at hl 2 rfl) ?_
      refine lv_aload_n hx hb dX5_countRopes_5 rfl (lv_at hl 0 rfl) ?_
      refine q_get hx hb hg in_X5 hown hK hI hL0.1 rfl 0 (by decide) (hg _ wf_X5_12) (fun _ h9 => h9) rfl dX5_countRopes_6 ?_
      refine q_getN hx hb hg in_X1 hown hK hI hL0.2.1.1 rfl 2 (by decide) (hK.2 _ (List.mem_of_getElem? (i := 3) rfl)) (fun _ h9 => h9) rfl dX5_countRopes_9 ?_
      refine lv_icmp_ge (tgt := 40) hx hb dX5_countRopes_12 (by decide) (fun c1 => ?_) (fun c1 => ?_)
      · rw [if_pos c1] at hR
        refine lv_iload_n hx hb dX5_countRopes_40 rfl (lv_at hl 1 rfl) ?_
        exact q_iret hx hb hret hlk hN hI (by subst hR; exact ⟨rfl, rfl, rfl⟩) dX5_countRopes_41
      · rw [if_neg c1] at hR
        refine lv_iload_n hx hb dX5_countRopes_15 rfl (lv_at hl 1 rfl) ?_
        refine lv_aload_n hx hb dX5_countRopes_16 rfl (lv_at hl 0 rfl) ?_
        refine q_get hx hb hg in_X5 hown hK hI hL0.1 rfl 1 (by decide) (hg _ wf_X5_21) (fun _ h9 => h9) rfl dX5_countRopes_17 ?_
        refine lv_iload_n hx hb dX5_countRopes_20 rfl (lv_at hl 2 rfl) ?_
        refine q_goR (q_runV (As := [.int x2h4]) (rest := [.int x1h4]) hx hb hml hown hg (c_X8_upperOf l D cs hL0.2.2.1 x2h4) v_X8_upperOf wl_X5_143 rfl rfl ⟨Nat.le_of_ble_eq_true rfl, Nat.le_of_ble_eq_true rfl⟩ hI hK 9 hL0.2.2.1.1 rfl hl.1 rfl rfl (Nat.le_of_ble_eq_true rfl) dX5_countRopes_21 ⟨Nat.le_of_ble_eq_true rfl, Nat.le_of_ble_eq_true rfl⟩) hI (fun H locs hI => ?_)
        refine lv_if_ge (tgt := 31) hx hb dX5_countRopes_24 (by decide) (fun c2 => ?_) (fun c2 => ?_)
        · rw [if_pos c2] at hR
          refine lv_iconst (v := 0) hx hb dX5_countRopes_31 (by decide) ?_
          refine lv_iadd hx hb dX5_countRopes_32 ?_
          refine lv_istore_n (lv' := [(1, .int (x1h4 + 0)), (0, .ref a), (2, .int x2h4)]) hx hb dX5_countRopes_33 rfl hl (by decide) rfl (fun ls hl => ?_)
          refine lv_iinc (v := x2h4 + 1) (lv' := [(2, .int (x2h4 + 1)), (1, .int (x1h4 + 0)), (0, .ref a)]) hx hb dX5_countRopes_34 hl (k := 2) rfl rfl (by decide) rfl (fun ls hl => ?_)
          refine lv_goto (tgt := 4) hx hb dX5_countRopes_37 (by decide) ?_
          exact ih4 (x1h4 + 0) (x2h4 + 1) (q_mu c1 hm4) hR _ _ _  hI (lv_sub hl [2, 1, 0] rfl)
        · rw [if_neg c2] at hR
          refine lv_iconst (v := 1) hx hb dX5_countRopes_27 (by decide) ?_
          refine lv_goto (tgt := 32) hx hb dX5_countRopes_28 (by decide) ?_
          refine lv_iadd hx hb dX5_countRopes_32 ?_
          refine lv_istore_n (lv' := [(1, .int (x1h4 + 1)), (0, .ref a), (2, .int x2h4)]) hx hb dX5_countRopes_33 rfl hl (by decide) rfl (fun ls hl => ?_)
          refine lv_iinc (v := x2h4 + 1) (lv' := [(2, .int (x2h4 + 1)), (1, .int (x1h4 + 1)), (0, .ref a)]) hx hb dX5_countRopes_34 hl (k := 2) rfl rfl (by decide) rfl (fun ls hl => ?_)
          refine lv_goto (tgt := 4) hx hb dX5_countRopes_37 (by decide) ?_
          exact ih4 (x1h4 + 1) (x2h4 + 1) (q_mu c1 hm4) hR _ _ _  hI (lv_sub hl [2, 1, 0] rfl)
  exact loop4 _ 0 0 (q_fuel _) hR _ _ _  hI (lv_sub hl [2, 1, 0] rfl)
def s_X5_countRopesUp_L4 (v : qQV) (p1 : Int32) : Nat → Int32 → Int32 → Int32
  | 0, _, _ => default
  | n + 1, x2h4, x3h4 => (if 16 ≤ x2h4 then x2h4 else (if x3h4 < 0 then x2h4 else (s_X5_countRopesUp_L4 v p1 n (x2h4 + 1) (s_X1_holderOf v.1 (s_X8_topOf v.2.1 x3h4)))))
def s_X5_countRopesUp (v : qQV) (p1 : Int32) : Int32 := (s_X5_countRopesUp_L4 v p1 ((16 : Int32).toInt.toNat + 1) 0 p1)
set_option maxHeartbeats 4000000 in
set_option maxRecDepth 20000 in
theorem c_X5_countRopesUp (l : Launch) (D : va_G) (cs : qC) {M0 : qM} {N a : Nat} {v : qQV} (hL0 : qLQ cs M0 a v) (p1 : Int32) :
    qMet l D cs yX5_countRopesUp (qws yX5_countRopesUp cX5_countRopesUp 4 (some .int)) ({ frames := 4, cells := 0, slots := 0, locals := 86 } : Room) M0 N [.ref a, .int p1] (qRet M0 N (.int (s_X5_countRopesUp v p1))) 0 0 := by
  obtain ⟨R, hR⟩ : ∃ R, s_X5_countRopesUp v p1 = R := ⟨_, rfl⟩
  rw [hR]
  rw [s_X5_countRopesUp] at hR
  refine q_head (by decide) ?_ (Nat.le_of_ble_eq_true rfl)
  intro p e s m below meth c ls hx hb hret hlk hml hown hnm hg hK hN hI hl
  have hl : lv_has ls 4 [(0, .ref a), (1, .int p1)] := hl
  refine lv_iconst (v := 0) hx hb dX5_countRopesUp_0 (by decide) ?_
  refine lv_istore_n (lv' := [(2, .int 0), (0, .ref a), (1, .int p1)]) hx hb dX5_countRopesUp_1 rfl hl (by decide) rfl (fun ls hl => ?_)
  refine lv_iload_n hx hb dX5_countRopesUp_2 rfl (lv_at hl 2 rfl) ?_
  refine lv_istore_n (lv' := [(3, .int p1), (2, .int 0), (0, .ref a), (1, .int p1)]) hx hb dX5_countRopesUp_3 rfl hl (by decide) rfl (fun ls hl => ?_)
  have loop4 : ∀ (n4 : Nat) (x2h4 : Int32) (x3h4 : Int32), qmu 16 x2h4 < n4 → s_X5_countRopesUp_L4 v p1 n4 x2h4 x3h4 = R → ∀ (H : Heap) (locs : List Loc) (ls : Array Slot), qI D M0 s.heap M0 N H locs → lv_has ls 4 [(0, .ref a), (1, .int p1), (2, .int x2h4), (3, .int x3h4)] →
      W p l e ({ frames := 4, cells := 0, slots := 0, locals := 86 } : Room) s m [Value.ref a, Value.int p1].toArray below meth c H locs 0 0 (MQ below (qQ D M0 N (qRet M0 N (.int R))) [Value.ref a, Value.int p1].toArray s 0 0 (qA M0 N)) (F0 m 4 ls []) := by
    intro n4
    induction n4 with
    | zero => intro x2h4 x3h4 hm; exact absurd hm (Nat.not_lt_zero _)
    | succ n4 ih4 =>
      intro x2h4 x3h4 hm4 hR H locs ls  hI hl
      rw [s_X5_countRopesUp_L4] at hR
      refine lv_iload_n hx hb dX5_countRopesUp_4 rfl (lv_at hl 2 rfl) ?_
      refine lv_bipush (v := 16) hx hb dX5_countRopesUp_5 (by decide) ?_
      refine lv_icmp_ge (tgt := 36) hx hb dX5_countRopesUp_7 (by decide) (fun c1 => ?_) (fun c1 => ?_)
      · rw [if_pos c1] at hR
        refine lv_iload_n hx hb dX5_countRopesUp_36 rfl (lv_at hl 2 rfl) ?_
        exact q_iret hx hb hret hlk hN hI (by subst hR; exact ⟨rfl, rfl, rfl⟩) dX5_countRopesUp_37
      · rw [if_neg c1] at hR
        refine lv_iload_n hx hb dX5_countRopesUp_10 rfl (lv_at hl 3 rfl) ?_
        refine lv_if_lt (tgt := 36) hx hb dX5_countRopesUp_11 (by decide) (fun c2 => ?_) (fun c2 => ?_)
        · rw [if_pos c2] at hR
          refine lv_iload_n hx hb dX5_countRopesUp_36 rfl (lv_at hl 2 rfl) ?_
          exact q_iret hx hb hret hlk hN hI (by subst hR; exact ⟨rfl, rfl, rfl⟩) dX5_countRopesUp_37
        · rw [if_neg c2] at hR
          refine lv_iinc (v := x2h4 + 1) (lv' := [(2, .int (x2h4 + 1)), (0, .ref a), (1, .int p1), (3, .int x3h4)]) hx hb dX5_countRopesUp_14 hl (k := 2) rfl rfl (by decide) rfl (fun ls hl => ?_)
          refine lv_aload_n hx hb dX5_countRopesUp_17 rfl (lv_at hl 1 rfl) ?_
          refine q_get hx hb hg in_X5 hown hK hI hL0.1 rfl 0 (by decide) (hg _ wf_X5_12) (fun _ h9 => h9) rfl dX5_countRopesUp_18 ?_
          refine lv_aload_n hx hb dX5_countRopesUp_21 rfl (lv_at hl 1 rfl) ?_
          refine q_get hx hb hg in_X5 hown hK hI hL0.1 rfl 1 (by decide) (hg _ wf_X5_21) (fun _ h9 => h9) rfl dX5_countRopesUp_22 ?_
          refine lv_iload_n hx hb dX5_countRopesUp_25 rfl (lv_at hl 3 rfl) ?_
          refine q_goR (q_runV (As := [.int x3h4]) (rest := [.ref (a + 1)]) hx hb hml hown hg (c_X8_topOf l D cs hL0.2.2.1 x3h4) v_X8_topOf wl_X5_137 rfl rfl ⟨Nat.le_of_ble_eq_true rfl, Nat.le_of_ble_eq_true rfl⟩ hI hK 9 hL0.2.2.1.1 rfl hl.1 rfl rfl (Nat.le_of_ble_eq_true rfl) dX5_countRopesUp_26 ⟨Nat.le_of_ble_eq_true rfl, Nat.le_of_ble_eq_true rfl⟩) hI (fun H locs hI => ?_)
          refine q_goR (q_runV (As := [.int (s_X8_topOf v.2.1 x3h4)]) (rest := []) hx hb hml hown hg (c_X1_holderOf l D cs hL0.2.1 (s_X8_topOf v.2.1 x3h4)) v_X1_holderOf wl_X5_78 rfl rfl ⟨Nat.le_of_ble_eq_true rfl, Nat.le_of_ble_eq_true rfl⟩ hI hK 2 hL0.2.1.1 rfl hl.1 rfl rfl (Nat.le_of_ble_eq_true rfl) dX5_countRopesUp_29 ⟨Nat.le_of_ble_eq_true rfl, Nat.le_of_ble_eq_true rfl⟩) hI (fun H locs hI => ?_)
          refine lv_istore_n (lv' := [(3, .int (s_X1_holderOf v.1 (s_X8_topOf v.2.1 x3h4))), (2, .int (x2h4 + 1)), (0, .ref a), (1, .int p1)]) hx hb dX5_countRopesUp_32 rfl hl (by decide) rfl (fun ls hl => ?_)
          refine lv_goto (tgt := 4) hx hb dX5_countRopesUp_33 (by decide) ?_
          exact ih4 (x2h4 + 1) (s_X1_holderOf v.1 (s_X8_topOf v.2.1 x3h4)) (q_mu c1 hm4) hR _ _ _  hI (lv_sub hl [2, 3, 1, 0] rfl)
  exact loop4 _ 0 p1 (q_fuel _) hR _ _ _  hI (lv_sub hl [2, 3, 1, 0] rfl)
def s_X5_weightBelow_L4 (v : qQV) (p1 : Int32) : Nat → Int32 → Int32 → Int32
  | 0, _, _ => default
  | n + 1, x2h4, x3h4 => (if v.1.2.2 ≤ x3h4 then x2h4 else (if (qbi (s_X8_isAtOrBelow v.2.1 x3h4 p1)) = 0 then (s_X5_weightBelow_L4 v p1 n (x2h4 + 0) (x3h4 + 1)) else (s_X5_weightBelow_L4 v p1 n (x2h4 + (s_X1_weightOf v.1 x3h4)) (x3h4 + 1))))
def s_X5_weightBelow (v : qQV) (p1 : Int32) : Int32 := (s_X5_weightBelow_L4 v p1 (v.1.2.2.toInt.toNat + 1) 0 0)
set_option maxHeartbeats 4000000 in
set_option maxRecDepth 20000 in
theorem c_X5_weightBelow (l : Launch) (D : va_G) (cs : qC) {M0 : qM} {N a : Nat} {v : qQV} (hL0 : qLQ cs M0 a v) (p1 : Int32) :
    qMet l D cs yX5_weightBelow (qws yX5_weightBelow cX5_weightBelow 4 (some .int)) ({ frames := 3, cells := 0, slots := 0, locals := 67 } : Room) M0 N [.ref a, .int p1] (qRet M0 N (.int (s_X5_weightBelow v p1))) 0 0 := by
  obtain ⟨R, hR⟩ : ∃ R, s_X5_weightBelow v p1 = R := ⟨_, rfl⟩
  rw [hR]
  rw [s_X5_weightBelow] at hR
  refine q_head (by decide) ?_ (Nat.le_of_ble_eq_true rfl)
  intro p e s m below meth c ls hx hb hret hlk hml hown hnm hg hK hN hI hl
  have hl : lv_has ls 4 [(0, .ref a), (1, .int p1)] := hl
  refine lv_iconst (v := 0) hx hb dX5_weightBelow_0 (by decide) ?_
  refine lv_istore_n (lv' := [(2, .int 0), (0, .ref a), (1, .int p1)]) hx hb dX5_weightBelow_1 rfl hl (by decide) rfl (fun ls hl => ?_)
  refine lv_iconst (v := 0) hx hb dX5_weightBelow_2 (by decide) ?_
  refine lv_istore_n (lv' := [(3, .int 0), (2, .int 0), (0, .ref a), (1, .int p1)]) hx hb dX5_weightBelow_3 rfl hl (by decide) rfl (fun ls hl => ?_)
  have loop4 : ∀ (n4 : Nat) (x2h4 : Int32) (x3h4 : Int32), qmu v.1.2.2 x3h4 < n4 → s_X5_weightBelow_L4 v p1 n4 x2h4 x3h4 = R → ∀ (H : Heap) (locs : List Loc) (ls : Array Slot), qI D M0 s.heap M0 N H locs → lv_has ls 4 [(0, .ref a), (1, .int p1), (2, .int x2h4), (3, .int x3h4)] →
      W p l e ({ frames := 3, cells := 0, slots := 0, locals := 67 } : Room) s m [Value.ref a, Value.int p1].toArray below meth c H locs 0 0 (MQ below (qQ D M0 N (qRet M0 N (.int R))) [Value.ref a, Value.int p1].toArray s 0 0 (qA M0 N)) (F0 m 4 ls []) := by
    intro n4
    induction n4 with
    | zero => intro x2h4 x3h4 hm; exact absurd hm (Nat.not_lt_zero _)
    | succ n4 ih4 =>
      intro x2h4 x3h4 hm4 hR H locs ls  hI hl
      rw [s_X5_weightBelow_L4] at hR
      refine lv_iload_n hx hb dX5_weightBelow_4 rfl (lv_at hl 3 rfl) ?_
      refine lv_aload_n hx hb dX5_weightBelow_5 rfl (lv_at hl 0 rfl) ?_
      refine q_get hx hb hg in_X5 hown hK hI hL0.1 rfl 0 (by decide) (hg _ wf_X5_12) (fun _ h9 => h9) rfl dX5_weightBelow_6 ?_
      refine q_getN hx hb hg in_X1 hown hK hI hL0.2.1.1 rfl 2 (by decide) (hK.2 _ (List.mem_of_getElem? (i := 3) rfl)) (fun _ h9 => h9) rfl dX5_weightBelow_9 ?_
      refine lv_icmp_ge (tgt := 48) hx hb dX5_weightBelow_12 (by decide) (fun c1 => ?_) (fun c1 => ?_)
      · rw [if_pos c1] at hR
        refine lv_iload_n hx hb dX5_weightBelow_48 rfl (lv_at hl 2 rfl) ?_
        exact q_iret hx hb hret hlk hN hI (by subst hR; exact ⟨rfl, rfl, rfl⟩) dX5_weightBelow_49
      · rw [if_neg c1] at hR
        refine lv_iload_n hx hb dX5_weightBelow_15 rfl (lv_at hl 2 rfl) ?_
        refine lv_aload_n hx hb dX5_weightBelow_16 rfl (lv_at hl 0 rfl) ?_
        refine q_get hx hb hg in_X5 hown hK hI hL0.1 rfl 1 (by decide) (hg _ wf_X5_21) (fun _ h9 => h9) rfl dX5_weightBelow_17 ?_
        refine lv_iload_n hx hb dX5_weightBelow_20 rfl (lv_at hl 3 rfl) ?_
        refine lv_iload_n hx hb dX5_weightBelow_21 rfl (lv_at hl 1 rfl) ?_
        refine q_goR (q_runV (As := [.int x3h4, .int p1]) (rest := [.int x2h4]) hx hb hml hown hg (c_X8_isAtOrBelow l D cs hL0.2.2.1 x3h4 p1) v_X8_isAtOrBelow wl_X5_158 rfl rfl ⟨Nat.le_of_ble_eq_true rfl, Nat.le_of_ble_eq_true rfl⟩ hI hK 9 hL0.2.2.1.1 rfl hl.1 rfl rfl (Nat.le_of_ble_eq_true rfl) dX5_weightBelow_22 ⟨Nat.le_of_ble_eq_true rfl, Nat.le_of_ble_eq_true rfl⟩) hI (fun H locs hI => ?_)
        refine lv_if_eq (tgt := 39) hx hb dX5_weightBelow_25 (by decide) (fun c2 => ?_) (fun c2 => ?_)
        · rw [if_pos c2] at hR
          refine lv_iconst (v := 0) hx hb dX5_weightBelow_39 (by decide) ?_
          refine lv_iadd hx hb dX5_weightBelow_40 ?_
          refine lv_istore_n (lv' := [(2, .int (x2h4 + 0)), (0, .ref a), (1, .int p1), (3, .int x3h4)]) hx hb dX5_weightBelow_41 rfl hl (by decide) rfl (fun ls hl => ?_)
          refine lv_iinc (v := x3h4 + 1) (lv' := [(3, .int (x3h4 + 1)), (2, .int (x2h4 + 0)), (0, .ref a), (1, .int p1)]) hx hb dX5_weightBelow_42 hl (k := 3) rfl rfl (by decide) rfl (fun ls hl => ?_)
          refine lv_goto (tgt := 4) hx hb dX5_weightBelow_45 (by decide) ?_
          exact ih4 (x2h4 + 0) (x3h4 + 1) (q_mu c1 hm4) hR _ _ _  hI (lv_sub hl [2, 3, 1, 0] rfl)
        · rw [if_neg c2] at hR
          refine lv_aload_n hx hb dX5_weightBelow_28 rfl (lv_at hl 0 rfl) ?_
          refine q_get hx hb hg in_X5 hown hK hI hL0.1 rfl 0 (by decide) (hg _ wf_X5_12) (fun _ h9 => h9) rfl dX5_weightBelow_29 ?_
          refine lv_iload_n hx hb dX5_weightBelow_32 rfl (lv_at hl 3 rfl) ?_
          refine q_goR (q_runV (As := [.int x3h4]) (rest := [.int x2h4]) hx hb hml hown hg (c_X1_weightOf l D cs hL0.2.1 x3h4) v_X1_weightOf wl_X5_108 rfl rfl ⟨Nat.le_of_ble_eq_true rfl, Nat.le_of_ble_eq_true rfl⟩ hI hK 2 hL0.2.1.1 rfl hl.1 rfl rfl (Nat.le_of_ble_eq_true rfl) dX5_weightBelow_33 ⟨Nat.le_of_ble_eq_true rfl, Nat.le_of_ble_eq_true rfl⟩) hI (fun H locs hI => ?_)
          refine lv_goto (tgt := 40) hx hb dX5_weightBelow_36 (by decide) ?_
          refine lv_iadd hx hb dX5_weightBelow_40 ?_
          refine lv_istore_n (lv' := [(2, .int (x2h4 + (s_X1_weightOf v.1 x3h4))), (0, .ref a), (1, .int p1), (3, .int x3h4)]) hx hb dX5_weightBelow_41 rfl hl (by decide) rfl (fun ls hl => ?_)
          refine lv_iinc (v := x3h4 + 1) (lv' := [(3, .int (x3h4 + 1)), (2, .int (x2h4 + (s_X1_weightOf v.1 x3h4))), (0, .ref a), (1, .int p1)]) hx hb dX5_weightBelow_42 hl (k := 3) rfl rfl (by decide) rfl (fun ls hl => ?_)
          refine lv_goto (tgt := 4) hx hb dX5_weightBelow_45 (by decide) ?_
          exact ih4 (x2h4 + (s_X1_weightOf v.1 x3h4)) (x3h4 + 1) (q_mu c1 hm4) hR _ _ _  hI (lv_sub hl [2, 3, 1, 0] rfl)
  exact loop4 _ 0 0 (q_fuel _) hR _ _ _  hI (lv_sub hl [2, 3, 1, 0] rfl)
def s_X5_weightDownTo_L37 (v : qQV) (p1 : Int32) : Nat → Int32 → Int32 → Int32 → Int32 → Int32
  | 0, _, _, _, _ => default
  | n + 1, x2h37, x3h37, x4h37, x5h37 => (if 16 ≤ x5h37 then x2h37 else (if x4h37 < 0 then x2h37 else (if (s_X8_rightOf v.2.1 x4h37) = x3h37 then (s_X5_weightDownTo_L37 v p1 n (x2h37 + ((s_X1_weightOf v.1 x4h37) + (s_X5_weightBelow v (s_X8_leftOf v.2.1 x4h37)))) x4h37 (s_X8_upperOf v.2.1 x4h37) (x5h37 + 1)) else (s_X5_weightDownTo_L37 v p1 n x2h37 x4h37 (s_X8_upperOf v.2.1 x4h37) (x5h37 + 1)))))
def s_X5_weightDownTo (v : qQV) (p1 : Int32) : Int32 := (s_X5_weightDownTo_L37 v p1 ((16 : Int32).toInt.toNat + 1) ((s_X1_weightOf v.1 p1) + (s_X5_weightBelow v (s_X8_leftOf v.2.1 p1))) p1 (s_X8_upperOf v.2.1 p1) 0)
set_option maxHeartbeats 4000000 in
set_option maxRecDepth 20000 in
theorem c_X5_weightDownTo (l : Launch) (D : va_G) (cs : qC) {M0 : qM} {N a : Nat} {v : qQV} (hL0 : qLQ cs M0 a v) (p1 : Int32) :
    qMet l D cs yX5_weightDownTo (qws yX5_weightDownTo cX5_weightDownTo 6 (some .int)) ({ frames := 4, cells := 0, slots := 0, locals := 90 } : Room) M0 N [.ref a, .int p1] (qRet M0 N (.int (s_X5_weightDownTo v p1))) 0 0 := by
  obtain ⟨R, hR⟩ : ∃ R, s_X5_weightDownTo v p1 = R := ⟨_, rfl⟩
  rw [hR]
  rw [s_X5_weightDownTo] at hR
  refine q_head (by decide) ?_ (Nat.le_of_ble_eq_true rfl)
  intro p e s m below meth c ls hx hb hret hlk hml hown hnm hg hK hN hI hl
  have hl : lv_has ls 6 [(0, .ref a), (1, .int p1)] := hl
  refine lv_aload_n hx hb dX5_weightDownTo_0 rfl (lv_at hl 0 rfl) ?_
  refine q_get hx hb hg in_X5 hown hK hI hL0.1 rfl 0 (by decide) (hg _ wf_X5_12) (fun _ h9 => h9) rfl dX5_weightDownTo_1 ?_
  refine lv_iload_n hx hb dX5_weightDownTo_4 rfl (lv_at hl 1 rfl) ?_
  refine q_goR (q_runV (As := [.int p1]) (rest := []) hx hb hml hown hg (c_X1_weightOf l D cs hL0.2.1 p1) v_X1_weightOf wl_X5_108 rfl rfl ⟨Nat.le_of_ble_eq_true rfl, Nat.le_of_ble_eq_true rfl⟩ hI hK 2 hL0.2.1.1 rfl hl.1 rfl rfl (Nat.le_of_ble_eq_true rfl) dX5_weightDownTo_5 ⟨Nat.le_of_ble_eq_true rfl, Nat.le_of_ble_eq_true rfl⟩) hI (fun H locs hI => ?_)
  refine lv_aload_n hx hb dX5_weightDownTo_8 rfl (lv_at hl 0 rfl) ?_
  refine lv_aload_n hx hb dX5_weightDownTo_9 rfl (lv_at hl 0 rfl) ?_
  refine q_get hx hb hg in_X5 hown hK hI hL0.1 rfl 1 (by decide) (hg _ wf_X5_21) (fun _ h9 => h9) rfl dX5_weightDownTo_10 ?_
  refine lv_iload_n hx hb dX5_weightDownTo_13 rfl (lv_at hl 1 rfl) ?_
  refine q_goR (q_runV (As := [.int p1]) (rest := [.ref a, .int (s_X1_weightOf v.1 p1)]) hx hb hml hown hg (c_X8_leftOf l D cs hL0.2.2.1 p1) v_X8_leftOf wl_X5_149 rfl rfl ⟨Nat.le_of_ble_eq_true rfl, Nat.le_of_ble_eq_true rfl⟩ hI hK 9 hL0.2.2.1.1 rfl hl.1 rfl rfl (Nat.le_of_ble_eq_true rfl) dX5_weightDownTo_14 ⟨Nat.le_of_ble_eq_true rfl, Nat.le_of_ble_eq_true rfl⟩) hI (fun H locs hI => ?_)
  refine q_goR (q_runV (As := [.int (s_X8_leftOf v.2.1 p1)]) (rest := [.int (s_X1_weightOf v.1 p1)]) hx hb hml hown hg (c_X5_weightBelow l D cs hL0 (s_X8_leftOf v.2.1 p1)) v_X5_weightBelow wl_X5_152 rfl rfl ⟨Nat.le_of_ble_eq_true rfl, Nat.le_of_ble_eq_true rfl⟩ hI hK 6 hL0.1 rfl hl.1 rfl rfl (Nat.le_of_ble_eq_true rfl) dX5_weightDownTo_17 ⟨Nat.le_of_ble_eq_true rfl, Nat.le_of_ble_eq_true rfl⟩) hI (fun H locs hI => ?_)
  refine lv_iadd hx hb dX5_weightDownTo_20 ?_
  refine lv_istore_n (lv' := [(2, .int ((s_X1_weightOf v.1 p1) + (s_X5_weightBelow v (s_X8_leftOf v.2.1 p1)))), (0, .ref a), (1, .int p1)]) hx hb dX5_weightDownTo_21 rfl hl (by decide) rfl (fun ls hl => ?_)
  refine lv_iload_n hx hb dX5_weightDownTo_22 rfl (lv_at hl 2 rfl) ?_
  refine lv_istore_n (lv' := [(3, .int p1), (2, .int ((s_X1_weightOf v.1 p1) + (s_X5_weightBelow v (s_X8_leftOf v.2.1 p1)))), (0, .ref a), (1, .int p1)]) hx hb dX5_weightDownTo_23 rfl hl (by decide) rfl (fun ls hl => ?_)
  refine lv_aload_n hx hb dX5_weightDownTo_24 rfl (lv_at hl 2 rfl) ?_
  refine q_get hx hb hg in_X5 hown hK hI hL0.1 rfl 1 (by decide) (hg _ wf_X5_21) (fun _ h9 => h9) rfl dX5_weightDownTo_25 ?_
  refine lv_iload_n hx hb dX5_weightDownTo_28 rfl (lv_at hl 0 rfl) ?_
  refine q_goR (q_runV (As := [.int p1]) (rest := []) hx hb hml hown hg (c_X8_upperOf l D cs hL0.2.2.1 p1) v_X8_upperOf wl_X5_143 rfl rfl ⟨Nat.le_of_ble_eq_true rfl, Nat.le_of_ble_eq_true rfl⟩ hI hK 9 hL0.2.2.1.1 rfl hl.1 rfl rfl (Nat.le_of_ble_eq_true rfl) dX5_weightDownTo_29 ⟨Nat.le_of_ble_eq_true rfl, Nat.le_of_ble_eq_true rfl⟩) hI (fun H locs hI => ?_)
  refine lv_istore (lv' := [(4, .int (s_X8_upperOf v.2.1 p1)), (3, .int p1), (2, .int ((s_X1_weightOf v.1 p1) + (s_X5_weightBelow v (s_X8_leftOf v.2.1 p1)))), (0, .ref a), (1, .int p1)]) hx hb dX5_weightDownTo_32 hl (by decide) rfl (fun ls hl => ?_)
  refine lv_iconst (v := 0) hx hb dX5_weightDownTo_34 (by decide) ?_
  refine lv_istore (lv' := [(5, .int 0), (4, .int (s_X8_upperOf v.2.1 p1)), (3, .int p1), (2, .int ((s_X1_weightOf v.1 p1) + (s_X5_weightBelow v (s_X8_leftOf v.2.1 p1)))), (0, .ref a), (1, .int p1)]) hx hb dX5_weightDownTo_35 hl (by decide) rfl (fun ls hl => ?_)
  have loop37 : ∀ (n37 : Nat) (x2h37 : Int32) (x3h37 : Int32) (x4h37 : Int32) (x5h37 : Int32), qmu 16 x5h37 < n37 → s_X5_weightDownTo_L37 v p1 n37 x2h37 x3h37 x4h37 x5h37 = R → ∀ (H : Heap) (locs : List Loc) (ls : Array Slot), qI D M0 s.heap M0 N H locs → lv_has ls 6 [(0, .ref a), (1, .int p1), (2, .int x2h37), (3, .int x3h37), (4, .int x4h37), (5, .int x5h37)] →
      W p l e ({ frames := 4, cells := 0, slots := 0, locals := 90 } : Room) s m [Value.ref a, Value.int p1].toArray below meth c H locs 0 0 (MQ below (qQ D M0 N (qRet M0 N (.int R))) [Value.ref a, Value.int p1].toArray s 0 0 (qA M0 N)) (F0 m 37 ls []) := by
    intro n37
    induction n37 with
    | zero => intro x2h37 x3h37 x4h37 x5h37 hm; exact absurd hm (Nat.not_lt_zero _)
    | succ n37 ih37 =>
      intro x2h37 x3h37 x4h37 x5h37 hm37 hR H locs ls  hI hl
      rw [s_X5_weightDownTo_L37] at hR
      refine lv_iload hx hb dX5_weightDownTo_37 (lv_at hl 5 rfl) ?_
      refine lv_bipush (v := 16) hx hb dX5_weightDownTo_39 (by decide) ?_
      refine lv_icmp_ge (tgt := 107) hx hb dX5_weightDownTo_41 (by decide) (fun c1 => ?_) (fun c1 => ?_)
      · rw [if_pos c1] at hR
        refine lv_iload_n hx hb dX5_weightDownTo_107 rfl (lv_at hl 2 rfl) ?_
        exact q_iret hx hb hret hlk hN hI (by subst hR; exact ⟨rfl, rfl, rfl⟩) dX5_weightDownTo_108
      · rw [if_neg c1] at hR
        refine lv_iload hx hb dX5_weightDownTo_44 (lv_at hl 4 rfl) ?_
        refine lv_if_lt (tgt := 107) hx hb dX5_weightDownTo_46 (by decide) (fun c2 => ?_) (fun c2 => ?_)
        · rw [if_pos c2] at hR
          refine lv_iload_n hx hb dX5_weightDownTo_107 rfl (lv_at hl 2 rfl) ?_
          exact q_iret hx hb hret hlk hN hI (by subst hR; exact ⟨rfl, rfl, rfl⟩) dX5_weightDownTo_108
        · rw [if_neg c2] at hR
          refine lv_aload_n hx hb dX5_weightDownTo_49 rfl (lv_at hl 0 rfl) ?_
          refine q_get hx hb hg in_X5 hown hK hI hL0.1 rfl 1 (by decide) (hg _ wf_X5_21) (fun _ h9 => h9) rfl dX5_weightDownTo_50 ?_
          refine lv_iload hx hb dX5_weightDownTo_53 (lv_at hl 4 rfl) ?_
          refine q_goR (q_runV (As := [.int x4h37]) (rest := []) hx hb hml hown hg (c_X8_rightOf l D cs hL0.2.2.1 x4h37) v_X8_rightOf wl_X5_155 rfl rfl ⟨Nat.le_of_ble_eq_true rfl, Nat.le_of_ble_eq_true rfl⟩ hI hK 9 hL0.2.2.1.1 rfl hl.1 rfl rfl (Nat.le_of_ble_eq_true rfl) dX5_weightDownTo_55 ⟨Nat.le_of_ble_eq_true rfl, Nat.le_of_ble_eq_true rfl⟩) hI (fun H locs hI => ?_)
          refine lv_iload_n hx hb dX5_weightDownTo_58 rfl (lv_at hl 3 rfl) ?_
          refine lv_icmp_ne (tgt := 88) hx hb dX5_weightDownTo_59 (by decide) (fun c3 => ?_) (fun c3 => ?_)
          · rw [if_neg c3] at hR
            refine lv_iload hx hb dX5_weightDownTo_88 (lv_at hl 4 rfl) ?_
            refine lv_istore_n (lv' := [(3, .int x4h37), (0, .ref a), (1, .int p1), (2, .int x2h37), (4, .int x4h37), (5, .int x5h37)]) hx hb dX5_weightDownTo_90 rfl hl (by decide) rfl (fun ls hl => ?_)
            refine lv_aload_n hx hb dX5_weightDownTo_91 rfl (lv_at hl 1 rfl) ?_
            refine q_get hx hb hg in_X5 hown hK hI hL0.1 rfl 1 (by decide) (hg _ wf_X5_21) (fun _ h9 => h9) rfl dX5_weightDownTo_92 ?_
            refine lv_iload_n hx hb dX5_weightDownTo_95 rfl (lv_at hl 0 rfl) ?_
            refine q_goR (q_runV (As := [.int x4h37]) (rest := []) hx hb hml hown hg (c_X8_upperOf l D cs hL0.2.2.1 x4h37) v_X8_upperOf wl_X5_143 rfl rfl ⟨Nat.le_of_ble_eq_true rfl, Nat.le_of_ble_eq_true rfl⟩ hI hK 9 hL0.2.2.1.1 rfl hl.1 rfl rfl (Nat.le_of_ble_eq_true rfl) dX5_weightDownTo_96 ⟨Nat.le_of_ble_eq_true rfl, Nat.le_of_ble_eq_true rfl⟩) hI (fun H locs hI => ?_)
            refine lv_istore (lv' := [(4, .int (s_X8_upperOf v.2.1 x4h37)), (3, .int x4h37), (0, .ref a), (1, .int p1), (2, .int x2h37), (5, .int x5h37)]) hx hb dX5_weightDownTo_99 hl (by decide) rfl (fun ls hl => ?_)
            refine lv_iinc (v := x5h37 + 1) (lv' := [(5, .int (x5h37 + 1)), (4, .int (s_X8_upperOf v.2.1 x4h37)), (3, .int x4h37), (0, .ref a), (1, .int p1), (2, .int x2h37)]) hx hb dX5_weightDownTo_101 hl (k := 5) rfl rfl (by decide) rfl (fun ls hl => ?_)
            refine lv_goto (tgt := 37) hx hb dX5_weightDownTo_104 (by decide) ?_
            exact ih37 x2h37 x4h37 (s_X8_upperOf v.2.1 x4h37) (x5h37 + 1) (q_mu c1 hm37) hR _ _ _  hI (lv_sub hl [3, 4, 5, 2, 1, 0] rfl)
          · rw [if_pos c3] at hR
            refine lv_iload_n hx hb dX5_weightDownTo_62 rfl (lv_at hl 2 rfl) ?_
            refine lv_aload_n hx hb dX5_weightDownTo_63 rfl (lv_at hl 0 rfl) ?_
            refine q_get hx hb hg in_X5 hown hK hI hL0.1 rfl 0 (by decide) (hg _ wf_X5_12) (fun _ h9 => h9) rfl dX5_weightDownTo_64 ?_
            refine lv_iload hx hb dX5_weightDownTo_67 (lv_at hl 4 rfl) ?_
            refine q_goR (q_runV (As := [.int x4h37]) (rest := [.int x2h37]) hx hb hml hown hg (c_X1_weightOf l D cs hL0.2.1 x4h37) v_X1_weightOf wl_X5_108 rfl rfl ⟨Nat.le_of_ble_eq_true rfl, Nat.le_of_ble_eq_true rfl⟩ hI hK 2 hL0.2.1.1 rfl hl.1 rfl rfl (Nat.le_of_ble_eq_true rfl) dX5_weightDownTo_69 ⟨Nat.le_of_ble_eq_true rfl, Nat.le_of_ble_eq_true rfl⟩) hI (fun H locs hI => ?_)
            refine lv_aload_n hx hb dX5_weightDownTo_72 rfl (lv_at hl 0 rfl) ?_
            refine lv_aload_n hx hb dX5_weightDownTo_73 rfl (lv_at hl 0 rfl) ?_
            refine q_get hx hb hg in_X5 hown hK hI hL0.1 rfl 1 (by decide) (hg _ wf_X5_21) (fun _ h9 => h9) rfl dX5_weightDownTo_74 ?_
            refine lv_iload hx hb dX5_weightDownTo_77 (lv_at hl 4 rfl) ?_
            refine q_goR (q_runV (As := [.int x4h37]) (rest := [.ref a, .int (s_X1_weightOf v.1 x4h37), .int x2h37]) hx hb hml hown hg (c_X8_leftOf l D cs hL0.2.2.1 x4h37) v_X8_leftOf wl_X5_149 rfl rfl ⟨Nat.le_of_ble_eq_true rfl, Nat.le_of_ble_eq_true rfl⟩ hI hK 9 hL0.2.2.1.1 rfl hl.1 rfl rfl (Nat.le_of_ble_eq_true rfl) dX5_weightDownTo_79 ⟨Nat.le_of_ble_eq_true rfl, Nat.le_of_ble_eq_true rfl⟩) hI (fun H locs hI => ?_)
            refine q_goR (q_runV (As := [.int (s_X8_leftOf v.2.1 x4h37)]) (rest := [.int (s_X1_weightOf v.1 x4h37), .int x2h37]) hx hb hml hown hg (c_X5_weightBelow l D cs hL0 (s_X8_leftOf v.2.1 x4h37)) v_X5_weightBelow wl_X5_152 rfl rfl ⟨Nat.le_of_ble_eq_true rfl, Nat.le_of_ble_eq_true rfl⟩ hI hK 6 hL0.1 rfl hl.1 rfl rfl (Nat.le_of_ble_eq_true rfl) dX5_weightDownTo_82 ⟨Nat.le_of_ble_eq_true rfl, Nat.le_of_ble_eq_true rfl⟩) hI (fun H locs hI => ?_)
            refine lv_iadd hx hb dX5_weightDownTo_85 ?_
            refine lv_iadd hx hb dX5_weightDownTo_86 ?_
            refine lv_istore_n (lv' := [(2, .int (x2h37 + ((s_X1_weightOf v.1 x4h37) + (s_X5_weightBelow v (s_X8_leftOf v.2.1 x4h37))))), (0, .ref a), (1, .int p1), (3, .int x3h37), (4, .int x4h37), (5, .int x5h37)]) hx hb dX5_weightDownTo_87 rfl hl (by decide) rfl (fun ls hl => ?_)
            refine lv_iload hx hb dX5_weightDownTo_88 (lv_at hl 4 rfl) ?_
            refine lv_istore_n (lv' := [(3, .int x4h37), (2, .int (x2h37 + ((s_X1_weightOf v.1 x4h37) + (s_X5_weightBelow v (s_X8_leftOf v.2.1 x4h37))))), (0, .ref a), (1, .int p1), (4, .int x4h37), (5, .int x5h37)]) hx hb dX5_weightDownTo_90 rfl hl (by decide) rfl (fun ls hl => ?_)
            refine lv_aload_n hx hb dX5_weightDownTo_91 rfl (lv_at hl 2 rfl) ?_
            refine q_get hx hb hg in_X5 hown hK hI hL0.1 rfl 1 (by decide) (hg _ wf_X5_21) (fun _ h9 => h9) rfl dX5_weightDownTo_92 ?_
            refine lv_iload_n hx hb dX5_weightDownTo_95 rfl (lv_at hl 0 rfl) ?_
            refine q_goR (q_runV (As := [.int x4h37]) (rest := []) hx hb hml hown hg (c_X8_upperOf l D cs hL0.2.2.1 x4h37) v_X8_upperOf wl_X5_143 rfl rfl ⟨Nat.le_of_ble_eq_true rfl, Nat.le_of_ble_eq_true rfl⟩ hI hK 9 hL0.2.2.1.1 rfl hl.1 rfl rfl (Nat.le_of_ble_eq_true rfl) dX5_weightDownTo_96 ⟨Nat.le_of_ble_eq_true rfl, Nat.le_of_ble_eq_true rfl⟩) hI (fun H locs hI => ?_)
            refine lv_istore (lv' := [(4, .int (s_X8_upperOf v.2.1 x4h37)), (3, .int x4h37), (2, .int (x2h37 + ((s_X1_weightOf v.1 x4h37) + (s_X5_weightBelow v (s_X8_leftOf v.2.1 x4h37))))), (0, .ref a), (1, .int p1), (5, .int x5h37)]) hx hb dX5_weightDownTo_99 hl (by decide) rfl (fun ls hl => ?_)
            refine lv_iinc (v := x5h37 + 1) (lv' := [(5, .int (x5h37 + 1)), (4, .int (s_X8_upperOf v.2.1 x4h37)), (3, .int x4h37), (2, .int (x2h37 + ((s_X1_weightOf v.1 x4h37) + (s_X5_weightBelow v (s_X8_leftOf v.2.1 x4h37))))), (0, .ref a), (1, .int p1)]) hx hb dX5_weightDownTo_101 hl (k := 5) rfl rfl (by decide) rfl (fun ls hl => ?_)
            refine lv_goto (tgt := 37) hx hb dX5_weightDownTo_104 (by decide) ?_
            exact ih37 (x2h37 + ((s_X1_weightOf v.1 x4h37) + (s_X5_weightBelow v (s_X8_leftOf v.2.1 x4h37)))) x4h37 (s_X8_upperOf v.2.1 x4h37) (x5h37 + 1) (q_mu c1 hm37) hR _ _ _  hI (lv_sub hl [4, 5, 3, 2, 1, 0] rfl)
  exact loop37 _ ((s_X1_weightOf v.1 p1) + (s_X5_weightBelow v (s_X8_leftOf v.2.1 p1))) p1 (s_X8_upperOf v.2.1 p1) 0 (q_fuel _) hR _ _ _  hI (lv_sub hl [4, 5, 3, 2, 1, 0] rfl)
def s_X5_sumByRopes_L7 (v : qQV) (p1 : Int32) : Nat → Int32 → Int32 → Int32 → Int32
  | 0, _, _, _ => default
  | n + 1, x2h7, x3h7, x4h7 => (if 16 ≤ x4h7 then x2h7 else (if x3h7 < 0 then x2h7 else (s_X5_sumByRopes_L7 v p1 n (x2h7 + (s_X5_weightDownTo v x3h7)) (s_X1_holderOf v.1 (s_X8_topOf v.2.1 x3h7)) (x4h7 + 1))))
def s_X5_sumByRopes (v : qQV) (p1 : Int32) : Int32 := (s_X5_sumByRopes_L7 v p1 ((16 : Int32).toInt.toNat + 1) 0 p1 0)
set_option maxHeartbeats 4000000 in
set_option maxRecDepth 20000 in
theorem c_X5_sumByRopes (l : Launch) (D : va_G) (cs : qC) {M0 : qM} {N a : Nat} {v : qQV} (hL0 : qLQ cs M0 a v) (p1 : Int32) :
    qMet l D cs yX5_sumByRopes (qws yX5_sumByRopes cX5_sumByRopes 5 (some .int)) ({ frames := 5, cells := 0, slots := 0, locals := 115 } : Room) M0 N [.ref a, .int p1] (qRet M0 N (.int (s_X5_sumByRopes v p1))) 0 0 := by
  obtain ⟨R, hR⟩ : ∃ R, s_X5_sumByRopes v p1 = R := ⟨_, rfl⟩
  rw [hR]
  rw [s_X5_sumByRopes] at hR
  refine q_head (by decide) ?_ (Nat.le_of_ble_eq_true rfl)
  intro p e s m below meth c ls hx hb hret hlk hml hown hnm hg hK hN hI hl
  have hl : lv_has ls 5 [(0, .ref a), (1, .int p1)] := hl
  refine lv_iconst (v := 0) hx hb dX5_sumByRopes_0 (by decide) ?_
  refine lv_istore_n (lv' := [(2, .int 0), (0, .ref a), (1, .int p1)]) hx hb dX5_sumByRopes_1 rfl hl (by decide) rfl (fun ls hl => ?_)
  refine lv_iload_n hx hb dX5_sumByRopes_2 rfl (lv_at hl 2 rfl) ?_
  refine lv_istore_n (lv' := [(3, .int p1), (2, .int 0), (0, .ref a), (1, .int p1)]) hx hb dX5_sumByRopes_3 rfl hl (by decide) rfl (fun ls hl => ?_)
  refine lv_iconst (v := 0) hx hb dX5_sumByRopes_4 (by decide) ?_
  refine lv_istore (lv' := [(4, .int 0), (3, .int p1), (2, .int 0), (0, .ref a), (1, .int p1)]) hx hb dX5_sumByRopes_5 hl (by decide) rfl (fun ls hl => ?_)
  have loop7 : ∀ (n7 : Nat) (x2h7 : Int32) (x3h7 : Int32) (x4h7 : Int32), qmu 16 x4h7 < n7 → s_X5_sumByRopes_L7 v p1 n7 x2h7 x3h7 x4h7 = R → ∀ (H : Heap) (locs : List Loc) (ls : Array Slot), qI D M0 s.heap M0 N H locs → lv_has ls 5 [(0, .ref a), (1, .int p1), (2, .int x2h7), (3, .int x3h7), (4, .int x4h7)] →
      W p l e ({ frames := 5, cells := 0, slots := 0, locals := 115 } : Room) s m [Value.ref a, Value.int p1].toArray below meth c H locs 0 0 (MQ below (qQ D M0 N (qRet M0 N (.int R))) [Value.ref a, Value.int p1].toArray s 0 0 (qA M0 N)) (F0 m 7 ls []) := by
    intro n7
    induction n7 with
    | zero => intro x2h7 x3h7 x4h7 hm; exact absurd hm (Nat.not_lt_zero _)
    | succ n7 ih7 =>
      intro x2h7 x3h7 x4h7 hm7 hR H locs ls  hI hl
      rw [s_X5_sumByRopes_L7] at hR
      refine lv_iload hx hb dX5_sumByRopes_7 (lv_at hl 4 rfl) ?_
      refine lv_bipush (v := 16) hx hb dX5_sumByRopes_9 (by decide) ?_
      refine lv_icmp_ge (tgt := 48) hx hb dX5_sumByRopes_11 (by decide) (fun c1 => ?_) (fun c1 => ?_)
      · rw [if_pos c1] at hR
        refine lv_iload_n hx hb dX5_sumByRopes_48 rfl (lv_at hl 2 rfl) ?_
        exact q_iret hx hb hret hlk hN hI (by subst hR; exact ⟨rfl, rfl, rfl⟩) dX5_sumByRopes_49
      · rw [if_neg c1] at hR
        refine lv_iload_n hx hb dX5_sumByRopes_14 rfl (lv_at hl 3 rfl) ?_
        refine lv_if_lt (tgt := 48) hx hb dX5_sumByRopes_15 (by decide) (fun c2 => ?_) (fun c2 => ?_)
        · rw [if_pos c2] at hR
          refine lv_iload_n hx hb dX5_sumByRopes_48 rfl (lv_at hl 2 rfl) ?_
          exact q_iret hx hb hret hlk hN hI (by subst hR; exact ⟨rfl, rfl, rfl⟩) dX5_sumByRopes_49
        · rw [if_neg c2] at hR
          refine lv_iload_n hx hb dX5_sumByRopes_18 rfl (lv_at hl 2 rfl) ?_
          refine lv_aload_n hx hb dX5_sumByRopes_19 rfl (lv_at hl 0 rfl) ?_
          refine lv_iload_n hx hb dX5_sumByRopes_20 rfl (lv_at hl 3 rfl) ?_
          refine q_goR (q_runV (As := [.int x3h7]) (rest := [.int x2h7]) hx hb hml hown hg (c_X5_weightDownTo l D cs hL0 x3h7) v_X5_weightDownTo wl_X5_146 rfl rfl ⟨Nat.le_of_ble_eq_true rfl, Nat.le_of_ble_eq_true rfl⟩ hI hK 6 hL0.1 rfl hl.1 rfl rfl (Nat.le_of_ble_eq_true rfl) dX5_sumByRopes_21 ⟨Nat.le_of_ble_eq_true rfl, Nat.le_of_ble_eq_true rfl⟩) hI (fun H locs hI => ?_)
          refine lv_iadd hx hb dX5_sumByRopes_24 ?_
          refine lv_istore_n (lv' := [(2, .int (x2h7 + (s_X5_weightDownTo v x3h7))), (0, .ref a), (1, .int p1), (3, .int x3h7), (4, .int x4h7)]) hx hb dX5_sumByRopes_25 rfl hl (by decide) rfl (fun ls hl => ?_)
          refine lv_aload_n hx hb dX5_sumByRopes_26 rfl (lv_at hl 1 rfl) ?_
          refine q_get hx hb hg in_X5 hown hK hI hL0.1 rfl 0 (by decide) (hg _ wf_X5_12) (fun _ h9 => h9) rfl dX5_sumByRopes_27 ?_
          refine lv_aload_n hx hb dX5_sumByRopes_30 rfl (lv_at hl 1 rfl) ?_
          refine q_get hx hb hg in_X5 hown hK hI hL0.1 rfl 1 (by decide) (hg _ wf_X5_21) (fun _ h9 => h9) rfl dX5_sumByRopes_31 ?_
          refine lv_iload_n hx hb dX5_sumByRopes_34 rfl (lv_at hl 3 rfl) ?_
          refine q_goR (q_runV (As := [.int x3h7]) (rest := [.ref (a + 1)]) hx hb hml hown hg (c_X8_topOf l D cs hL0.2.2.1 x3h7) v_X8_topOf wl_X5_137 rfl rfl ⟨Nat.le_of_ble_eq_true rfl, Nat.le_of_ble_eq_true rfl⟩ hI hK 9 hL0.2.2.1.1 rfl hl.1 rfl rfl (Nat.le_of_ble_eq_true rfl) dX5_sumByRopes_35 ⟨Nat.le_of_ble_eq_true rfl, Nat.le_of_ble_eq_true rfl⟩) hI (fun H locs hI => ?_)
          refine q_goR (q_runV (As := [.int (s_X8_topOf v.2.1 x3h7)]) (rest := []) hx hb hml hown hg (c_X1_holderOf l D cs hL0.2.1 (s_X8_topOf v.2.1 x3h7)) v_X1_holderOf wl_X5_78 rfl rfl ⟨Nat.le_of_ble_eq_true rfl, Nat.le_of_ble_eq_true rfl⟩ hI hK 2 hL0.2.1.1 rfl hl.1 rfl rfl (Nat.le_of_ble_eq_true rfl) dX5_sumByRopes_38 ⟨Nat.le_of_ble_eq_true rfl, Nat.le_of_ble_eq_true rfl⟩) hI (fun H locs hI => ?_)
          refine lv_istore_n (lv' := [(3, .int (s_X1_holderOf v.1 (s_X8_topOf v.2.1 x3h7))), (2, .int (x2h7 + (s_X5_weightDownTo v x3h7))), (0, .ref a), (1, .int p1), (4, .int x4h7)]) hx hb dX5_sumByRopes_41 rfl hl (by decide) rfl (fun ls hl => ?_)
          refine lv_iinc (v := x4h7 + 1) (lv' := [(4, .int (x4h7 + 1)), (3, .int (s_X1_holderOf v.1 (s_X8_topOf v.2.1 x3h7))), (2, .int (x2h7 + (s_X5_weightDownTo v x3h7))), (0, .ref a), (1, .int p1)]) hx hb dX5_sumByRopes_42 hl (k := 4) rfl rfl (by decide) rfl (fun ls hl => ?_)
          refine lv_goto (tgt := 7) hx hb dX5_sumByRopes_45 (by decide) ?_
          exact ih7 (x2h7 + (s_X5_weightDownTo v x3h7)) (s_X1_holderOf v.1 (s_X8_topOf v.2.1 x3h7)) (x4h7 + 1) (q_mu c1 hm7) hR _ _ _  hI (lv_sub hl [3, 4, 2, 1, 0] rfl)
  exact loop7 _ 0 p1 0 (q_fuel _) hR _ _ _  hI (lv_sub hl [3, 4, 2, 1, 0] rfl)
def s_X5_rootByTops_L11 (v : qQV) (p1 : Int32) : Nat → Int32 → Int32 → Int32
  | 0, _, _ => default
  | n + 1, x2h11, x3h11 => (if 16 ≤ x3h11 then x2h11 else (if (s_X1_holderOf v.1 x2h11) < 0 then x2h11 else (s_X5_rootByTops_L11 v p1 n (s_X8_topOf v.2.1 (s_X1_holderOf v.1 x2h11)) (x3h11 + 1))))
def s_X5_rootByTops (v : qQV) (p1 : Int32) : Int32 := (s_X5_rootByTops_L11 v p1 ((16 : Int32).toInt.toNat + 1) (s_X8_topOf v.2.1 p1) 0)
set_option maxHeartbeats 4000000 in
set_option maxRecDepth 20000 in
theorem c_X5_rootByTops (l : Launch) (D : va_G) (cs : qC) {M0 : qM} {N a : Nat} {v : qQV} (hL0 : qLQ cs M0 a v) (p1 : Int32) :
    qMet l D cs yX5_rootByTops (qws yX5_rootByTops cX5_rootByTops 4 (some .int)) ({ frames := 4, cells := 0, slots := 0, locals := 86 } : Room) M0 N [.ref a, .int p1] (qRet M0 N (.int (s_X5_rootByTops v p1))) 0 0 := by
  obtain ⟨R, hR⟩ : ∃ R, s_X5_rootByTops v p1 = R := ⟨_, rfl⟩
  rw [hR]
  rw [s_X5_rootByTops] at hR
  refine q_head (by decide) ?_ (Nat.le_of_ble_eq_true rfl)
  intro p e s m below meth c ls hx hb hret hlk hml hown hnm hg hK hN hI hl
  have hl : lv_has ls 4 [(0, .ref a), (1, .int p1)] := hl
  refine lv_aload_n hx hb dX5_rootByTops_0 rfl (lv_at hl 0 rfl) ?_
  refine q_get hx hb hg in_X5 hown hK hI hL0.1 rfl 1 (by decide) (hg _ wf_X5_21) (fun _ h9 => h9) rfl dX5_rootByTops_1 ?_
  refine lv_iload_n hx hb dX5_rootByTops_4 rfl (lv_at hl 1 rfl) ?_
  refine q_goR (q_runV (As := [.int p1]) (rest := []) hx hb hml hown hg (c_X8_topOf l D cs hL0.2.2.1 p1) v_X8_topOf wl_X5_137 rfl rfl ⟨Nat.le_of_ble_eq_true rfl, Nat.le_of_ble_eq_true rfl⟩ hI hK 9 hL0.2.2.1.1 rfl hl.1 rfl rfl (Nat.le_of_ble_eq_true rfl) dX5_rootByTops_5 ⟨Nat.le_of_ble_eq_true rfl, Nat.le_of_ble_eq_true rfl⟩) hI (fun H locs hI => ?_)
  refine lv_istore_n (lv' := [(2, .int (s_X8_topOf v.2.1 p1)), (0, .ref a), (1, .int p1)]) hx hb dX5_rootByTops_8 rfl hl (by decide) rfl (fun ls hl => ?_)
  refine lv_iconst (v := 0) hx hb dX5_rootByTops_9 (by decide) ?_
  refine lv_istore_n (lv' := [(3, .int 0), (2, .int (s_X8_topOf v.2.1 p1)), (0, .ref a), (1, .int p1)]) hx hb dX5_rootByTops_10 rfl hl (by decide) rfl (fun ls hl => ?_)
  have loop11 : ∀ (n11 : Nat) (x2h11 : Int32) (x3h11 : Int32), qmu 16 x3h11 < n11 → s_X5_rootByTops_L11 v p1 n11 x2h11 x3h11 = R → ∀ (H : Heap) (locs : List Loc) (ls : Array Slot), qI D M0 s.heap M0 N H locs → lv_has ls 4 [(0, .ref a), (1, .int p1), (2, .int x2h11), (3, .int x3h11)] →
      W p l e ({ frames := 4, cells := 0, slots := 0, locals := 86 } : Room) s m [Value.ref a, Value.int p1].toArray below meth c H locs 0 0 (MQ below (qQ D M0 N (qRet M0 N (.int R))) [Value.ref a, Value.int p1].toArray s 0 0 (qA M0 N)) (F0 m 11 ls []) := by
    intro n11
    induction n11 with
    | zero => intro x2h11 x3h11 hm; exact absurd hm (Nat.not_lt_zero _)
    | succ n11 ih11 =>
      intro x2h11 x3h11 hm11 hR H locs ls  hI hl
      rw [s_X5_rootByTops_L11] at hR
      refine lv_iload_n hx hb dX5_rootByTops_11 rfl (lv_at hl 3 rfl) ?_
      refine lv_bipush (v := 16) hx hb dX5_rootByTops_12 (by decide) ?_
      refine lv_icmp_ge (tgt := 50) hx hb dX5_rootByTops_14 (by decide) (fun c1 => ?_) (fun c1 => ?_)
      · rw [if_pos c1] at hR
        refine lv_iload_n hx hb dX5_rootByTops_50 rfl (lv_at hl 2 rfl) ?_
        exact q_iret hx hb hret hlk hN hI (by subst hR; exact ⟨rfl, rfl, rfl⟩) dX5_rootByTops_51
      · rw [if_neg c1] at hR
        refine lv_aload_n hx hb dX5_rootByTops_17 rfl (lv_at hl 0 rfl) ?_
        refine q_get hx hb hg in_X5 hown hK hI hL0.1 rfl 0 (by decide) (hg _ wf_X5_12) (fun _ h9 => h9) rfl dX5_rootByTops_18 ?_
        refine lv_iload_n hx hb dX5_rootByTops_21 rfl (lv_at hl 2 rfl) ?_
        refine q_goR (q_runV (As := [.int x2h11]) (rest := []) hx hb hml hown hg (c_X1_holderOf l D cs hL0.2.1 x2h11) v_X1_holderOf wl_X5_78 rfl rfl ⟨Nat.le_of_ble_eq_true rfl, Nat.le_of_ble_eq_true rfl⟩ hI hK 2 hL0.2.1.1 rfl hl.1 rfl rfl (Nat.le_of_ble_eq_true rfl) dX5_rootByTops_22 ⟨Nat.le_of_ble_eq_true rfl, Nat.le_of_ble_eq_true rfl⟩) hI (fun H locs hI => ?_)
        refine lv_if_lt (tgt := 50) hx hb dX5_rootByTops_25 (by decide) (fun c2 => ?_) (fun c2 => ?_)
        · rw [if_pos c2] at hR
          refine lv_iload_n hx hb dX5_rootByTops_50 rfl (lv_at hl 2 rfl) ?_
          exact q_iret hx hb hret hlk hN hI (by subst hR; exact ⟨rfl, rfl, rfl⟩) dX5_rootByTops_51
        · rw [if_neg c2] at hR
          refine lv_aload_n hx hb dX5_rootByTops_28 rfl (lv_at hl 0 rfl) ?_
          refine q_get hx hb hg in_X5 hown hK hI hL0.1 rfl 1 (by decide) (hg _ wf_X5_21) (fun _ h9 => h9) rfl dX5_rootByTops_29 ?_
          refine lv_aload_n hx hb dX5_rootByTops_32 rfl (lv_at hl 0 rfl) ?_
          refine q_get hx hb hg in_X5 hown hK hI hL0.1 rfl 0 (by decide) (hg _ wf_X5_12) (fun _ h9 => h9) rfl dX5_rootByTops_33 ?_
          refine lv_iload_n hx hb dX5_rootByTops_36 rfl (lv_at hl 2 rfl) ?_
          refine q_goR (q_runV (As := [.int x2h11]) (rest := [.ref (a + 4)]) hx hb hml hown hg (c_X1_holderOf l D cs hL0.2.1 x2h11) v_X1_holderOf wl_X5_78 rfl rfl ⟨Nat.le_of_ble_eq_true rfl, Nat.le_of_ble_eq_true rfl⟩ hI hK 2 hL0.2.1.1 rfl hl.1 rfl rfl (Nat.le_of_ble_eq_true rfl) dX5_rootByTops_37 ⟨Nat.le_of_ble_eq_true rfl, Nat.le_of_ble_eq_true rfl⟩) hI (fun H locs hI => ?_)
          refine q_goR (q_runV (As := [.int (s_X1_holderOf v.1 x2h11)]) (rest := []) hx hb hml hown hg (c_X8_topOf l D cs hL0.2.2.1 (s_X1_holderOf v.1 x2h11)) v_X8_topOf wl_X5_137 rfl rfl ⟨Nat.le_of_ble_eq_true rfl, Nat.le_of_ble_eq_true rfl⟩ hI hK 9 hL0.2.2.1.1 rfl hl.1 rfl rfl (Nat.le_of_ble_eq_true rfl) dX5_rootByTops_40 ⟨Nat.le_of_ble_eq_true rfl, Nat.le_of_ble_eq_true rfl⟩) hI (fun H locs hI => ?_)
          refine lv_istore_n (lv' := [(2, .int (s_X8_topOf v.2.1 (s_X1_holderOf v.1 x2h11))), (0, .ref a), (1, .int p1), (3, .int x3h11)]) hx hb dX5_rootByTops_43 rfl hl (by decide) rfl (fun ls hl => ?_)
          refine lv_iinc (v := x3h11 + 1) (lv' := [(3, .int (x3h11 + 1)), (2, .int (s_X8_topOf v.2.1 (s_X1_holderOf v.1 x2h11))), (0, .ref a), (1, .int p1)]) hx hb dX5_rootByTops_44 hl (k := 3) rfl rfl (by decide) rfl (fun ls hl => ?_)
          refine lv_goto (tgt := 11) hx hb dX5_rootByTops_47 (by decide) ?_
          exact ih11 (s_X8_topOf v.2.1 (s_X1_holderOf v.1 x2h11)) (x3h11 + 1) (q_mu c1 hm11) hR _ _ _  hI (lv_sub hl [2, 3, 1, 0] rfl)
  exact loop11 _ (s_X8_topOf v.2.1 p1) 0 (q_fuel _) hR _ _ _  hI (lv_sub hl [2, 3, 1, 0] rfl)
def s_X5_jointByRopes_L8 (v : qQV) (p1 : Int32) (p2 : Int32) : Nat → Int32 → Int32 → Int32 → Int32
  | 0, _, _, _ => default
  | n + 1, x3h8, x4h8, x5h8 => (if 16 ≤ x5h8 then (-4) else (if x3h8 < 0 then (-4) else (if x4h8 < 0 then (-4) else (if (s_X8_topOf v.2.1 x3h8) = (s_X8_topOf v.2.1 x4h8) then (if (s_X8_countAhead v.2.1 x4h8) < (s_X8_countAhead v.2.1 x3h8) then x4h8 else x3h8) else (if (s_X1_depthOf v.1 (s_X8_topOf v.2.1 x3h8)) < (s_X1_depthOf v.1 (s_X8_topOf v.2.1 x4h8)) then (s_X5_jointByRopes_L8 v p1 p2 n x3h8 (s_X1_holderOf v.1 (s_X8_topOf v.2.1 x4h8)) (x5h8 + 1)) else (s_X5_jointByRopes_L8 v p1 p2 n (s_X1_holderOf v.1 (s_X8_topOf v.2.1 x3h8)) x4h8 (x5h8 + 1)))))))
def s_X5_jointByRopes (v : qQV) (p1 : Int32) (p2 : Int32) : Int32 := (s_X5_jointByRopes_L8 v p1 p2 ((16 : Int32).toInt.toNat + 1) p1 p2 0)
set_option maxHeartbeats 4000000 in
set_option maxRecDepth 20000 in
theorem c_X5_jointByRopes (l : Launch) (D : va_G) (cs : qC) {M0 : qM} {N a : Nat} {v : qQV} (hL0 : qLQ cs M0 a v) (p1 : Int32) (p2 : Int32) :
    qMet l D cs yX5_jointByRopes (qws yX5_jointByRopes cX5_jointByRopes 8 (some .int)) ({ frames := 5, cells := 0, slots := 0, locals := 115 } : Room) M0 N [.ref a, .int p1, .int p2] (qRet M0 N (.int (s_X5_jointByRopes v p1 p2))) 0 0 := by
  obtain ⟨R, hR⟩ : ∃ R, s_X5_jointByRopes v p1 p2 = R := ⟨_, rfl⟩
  rw [hR]
  rw [s_X5_jointByRopes] at hR
  refine q_head (by decide) ?_ (Nat.le_of_ble_eq_true rfl)
  intro p e s m below meth c ls hx hb hret hlk hml hown hnm hg hK hN hI hl
  have hl : lv_has ls 8 [(0, .ref a), (1, .int p1), (2, .int p2)] := hl
  refine lv_iload_n hx hb dX5_jointByRopes_0 rfl (lv_at hl 1 rfl) ?_
  refine lv_istore_n (lv' := [(3, .int p1), (0, .ref a), (1, .int p1), (2, .int p2)]) hx hb dX5_jointByRopes_1 rfl hl (by decide) rfl (fun ls hl => ?_)
  refine lv_iload_n hx hb dX5_jointByRopes_2 rfl (lv_at hl 3 rfl) ?_
  refine lv_istore (lv' := [(4, .int p2), (3, .int p1), (0, .ref a), (1, .int p1), (2, .int p2)]) hx hb dX5_jointByRopes_3 hl (by decide) rfl (fun ls hl => ?_)
  refine lv_iconst (v := 0) hx hb dX5_jointByRopes_5 (by decide) ?_
  refine lv_istore (lv' := [(5, .int 0), (4, .int p2), (3, .int p1), (0, .ref a), (1, .int p1), (2, .int p2)]) hx hb dX5_jointByRopes_6 hl (by decide) rfl (fun ls hl => ?_)
  have loop8 : ∀ (n8 : Nat) (x3h8 : Int32) (x4h8 : Int32) (x5h8 : Int32), qmu 16 x5h8 < n8 → s_X5_jointByRopes_L8 v p1 p2 n8 x3h8 x4h8 x5h8 = R → ∀ (H : Heap) (locs : List Loc) (ls : Array Slot), qI D M0 s.heap M0 N H locs → lv_has ls 8 [(0, .ref a), (1, .int p1), (2, .int p2), (3, .int x3h8), (4, .int x4h8), (5, .int x5h8)] →
      W p l e ({ frames := 5, cells := 0, slots := 0, locals := 115 } : Room) s m [Value.ref a, Value.int p1, Value.int p2].toArray below meth c H locs 0 0 (MQ below (qQ D M0 N (qRet M0 N (.int R))) [Value.ref a, Value.int p1, Value.int p2].toArray s 0 0 (qA M0 N)) (F0 m 8 ls []) := by
    intro n8
    induction n8 with
    | zero => intro x3h8 x4h8 x5h8 hm; exact absurd hm (Nat.not_lt_zero _)
    | succ n8 ih8 =>
      intro x3h8 x4h8 x5h8 hm8 hR H locs ls  hI hl
      rw [s_X5_jointByRopes_L8] at hR
      refine lv_iload hx hb dX5_jointByRopes_8 (lv_at hl 5 rfl) ?_
      refine lv_bipush (v := 16) hx hb dX5_jointByRopes_10 (by decide) ?_
      refine lv_icmp_ge (tgt := 130) hx hb dX5_jointByRopes_12 (by decide) (fun c1 => ?_) (fun c1 => ?_)
      · rw [if_pos c1] at hR
        refine lv_bipush (v := (-4)) hx hb dX5_jointByRopes_130 (by decide) ?_
        exact q_iret hx hb hret hlk hN hI (by subst hR; exact ⟨rfl, rfl, rfl⟩) dX5_jointByRopes_132
      · rw [if_neg c1] at hR
        refine lv_iload_n hx hb dX5_jointByRopes_15 rfl (lv_at hl 3 rfl) ?_
        refine lv_if_lt (tgt := 130) hx hb dX5_jointByRopes_16 (by decide) (fun c2 => ?_) (fun c2 => ?_)
        · rw [if_pos c2] at hR
          refine lv_bipush (v := (-4)) hx hb dX5_jointByRopes_130 (by decide) ?_
          exact q_iret hx hb hret hlk hN hI (by subst hR; exact ⟨rfl, rfl, rfl⟩) dX5_jointByRopes_132
        · rw [if_neg c2] at hR
          refine lv_iload hx hb dX5_jointByRopes_19 (lv_at hl 4 rfl) ?_
          refine lv_if_lt (tgt := 130) hx hb dX5_jointByRopes_21 (by decide) (fun c3 => ?_) (fun c3 => ?_)
          · rw [if_pos c3] at hR
            refine lv_bipush (v := (-4)) hx hb dX5_jointByRopes_130 (by decide) ?_
            exact q_iret hx hb hret hlk hN hI (by subst hR; exact ⟨rfl, rfl, rfl⟩) dX5_jointByRopes_132
          · rw [if_neg c3] at hR
            refine lv_aload_n hx hb dX5_jointByRopes_24 rfl (lv_at hl 0 rfl) ?_
            refine q_get hx hb hg in_X5 hown hK hI hL0.1 rfl 1 (by decide) (hg _ wf_X5_21) (fun _ h9 => h9) rfl dX5_jointByRopes_25 ?_
            refine lv_iload_n hx hb dX5_jointByRopes_28 rfl (lv_at hl 3 rfl) ?_
            refine q_goR (q_runV (As := [.int x3h8]) (rest := []) hx hb hml hown hg (c_X8_topOf l D cs hL0.2.2.1 x3h8) v_X8_topOf wl_X5_137 rfl rfl ⟨Nat.le_of_ble_eq_true rfl, Nat.le_of_ble_eq_true rfl⟩ hI hK 9 hL0.2.2.1.1 rfl hl.1 rfl rfl (Nat.le_of_ble_eq_true rfl) dX5_jointByRopes_29 ⟨Nat.le_of_ble_eq_true rfl, Nat.le_of_ble_eq_true rfl⟩) hI (fun H locs hI => ?_)
            refine lv_istore (lv' := [(6, .int (s_X8_topOf v.2.1 x3h8)), (0, .ref a), (1, .int p1), (2, .int p2), (3, .int x3h8), (4, .int x4h8), (5, .int x5h8)]) hx hb dX5_jointByRopes_32 hl (by decide) rfl (fun ls hl => ?_)
            refine lv_aload_n hx hb dX5_jointByRopes_34 rfl (lv_at hl 1 rfl) ?_
            refine q_get hx hb hg in_X5 hown hK hI hL0.1 rfl 1 (by decide) (hg _ wf_X5_21) (fun _ h9 => h9) rfl dX5_jointByRopes_35 ?_
            refine lv_iload hx hb dX5_jointByRopes_38 (lv_at hl 5 rfl) ?_
            refine q_goR (q_runV (As := [.int x4h8]) (rest := []) hx hb hml hown hg (c_X8_topOf l D cs hL0.2.2.1 x4h8) v_X8_topOf wl_X5_137 rfl rfl ⟨Nat.le_of_ble_eq_true rfl, Nat.le_of_ble_eq_true rfl⟩ hI hK 9 hL0.2.2.1.1 rfl hl.1 rfl rfl (Nat.le_of_ble_eq_true rfl) dX5_jointByRopes_40 ⟨Nat.le_of_ble_eq_true rfl, Nat.le_of_ble_eq_true rfl⟩) hI (fun H locs hI => ?_)
            refine lv_istore (lv' := [(7, .int (s_X8_topOf v.2.1 x4h8)), (6, .int (s_X8_topOf v.2.1 x3h8)), (0, .ref a), (1, .int p1), (2, .int p2), (3, .int x3h8), (4, .int x4h8), (5, .int x5h8)]) hx hb dX5_jointByRopes_43 hl (by decide) rfl (fun ls hl => ?_)
            refine lv_iload hx hb dX5_jointByRopes_45 (lv_at hl 1 rfl) ?_
            refine lv_iload hx hb dX5_jointByRopes_47 (lv_at hl 0 rfl) ?_
            refine lv_icmp_ne (tgt := 79) hx hb dX5_jointByRopes_49 (by decide) (fun c4 => ?_) (fun c4 => ?_)
            · rw [if_neg c4] at hR
              refine lv_aload_n hx hb dX5_jointByRopes_79 rfl (lv_at hl 2 rfl) ?_
              refine q_get hx hb hg in_X5 hown hK hI hL0.1 rfl 0 (by decide) (hg _ wf_X5_12) (fun _ h9 => h9) rfl dX5_jointByRopes_80 ?_
              refine lv_iload hx hb dX5_jointByRopes_83 (lv_at hl 1 rfl) ?_
              refine q_goR (q_runV (As := [.int (s_X8_topOf v.2.1 x3h8)]) (rest := []) hx hb hml hown hg (c_X1_depthOf l D cs hL0.2.1 (s_X8_topOf v.2.1 x3h8)) v_X1_depthOf wl_X5_96 rfl rfl ⟨Nat.le_of_ble_eq_true rfl, Nat.le_of_ble_eq_true rfl⟩ hI hK 2 hL0.2.1.1 rfl hl.1 rfl rfl (Nat.le_of_ble_eq_true rfl) dX5_jointByRopes_85 ⟨Nat.le_of_ble_eq_true rfl, Nat.le_of_ble_eq_true rfl⟩) hI (fun H locs hI => ?_)
              refine lv_aload_n hx hb dX5_jointByRopes_88 rfl (lv_at hl 2 rfl) ?_
              refine q_get hx hb hg in_X5 hown hK hI hL0.1 rfl 0 (by decide) (hg _ wf_X5_12) (fun _ h9 => h9) rfl dX5_jointByRopes_89 ?_
              refine lv_iload hx hb dX5_jointByRopes_92 (lv_at hl 0 rfl) ?_
              refine q_goR (q_runV (As := [.int (s_X8_topOf v.2.1 x4h8)]) (rest := [.int (s_X1_depthOf v.1 (s_X8_topOf v.2.1 x3h8))]) hx hb hml hown hg (c_X1_depthOf l D cs hL0.2.1 (s_X8_topOf v.2.1 x4h8)) v_X1_depthOf wl_X5_96 rfl rfl ⟨Nat.le_of_ble_eq_true rfl, Nat.le_of_ble_eq_true rfl⟩ hI hK 2 hL0.2.1.1 rfl hl.1 rfl rfl (Nat.le_of_ble_eq_true rfl) dX5_jointByRopes_94 ⟨Nat.le_of_ble_eq_true rfl, Nat.le_of_ble_eq_true rfl⟩) hI (fun H locs hI => ?_)
              refine lv_icmp_lt (tgt := 113) hx hb dX5_jointByRopes_97 (by decide) (fun c5 => ?_) (fun c5 => ?_)
              · rw [if_pos c5] at hR
                refine lv_aload_n hx hb dX5_jointByRopes_113 rfl (lv_at hl 2 rfl) ?_
                refine q_get hx hb hg in_X5 hown hK hI hL0.1 rfl 0 (by decide) (hg _ wf_X5_12) (fun _ h9 => h9) rfl dX5_jointByRopes_114 ?_
                refine lv_iload hx hb dX5_jointByRopes_117 (lv_at hl 0 rfl) ?_
                refine q_goR (q_runV (As := [.int (s_X8_topOf v.2.1 x4h8)]) (rest := []) hx hb hml hown hg (c_X1_holderOf l D cs hL0.2.1 (s_X8_topOf v.2.1 x4h8)) v_X1_holderOf wl_X5_78 rfl rfl ⟨Nat.le_of_ble_eq_true rfl, Nat.le_of_ble_eq_true rfl⟩ hI hK 2 hL0.2.1.1 rfl hl.1 rfl rfl (Nat.le_of_ble_eq_true rfl) dX5_jointByRopes_119 ⟨Nat.le_of_ble_eq_true rfl, Nat.le_of_ble_eq_true rfl⟩) hI (fun H locs hI => ?_)
                refine lv_istore (lv' := [(4, .int (s_X1_holderOf v.1 (s_X8_topOf v.2.1 x4h8))), (7, .int (s_X8_topOf v.2.1 x4h8)), (6, .int (s_X8_topOf v.2.1 x3h8)), (0, .ref a), (1, .int p1), (2, .int p2), (3, .int x3h8), (5, .int x5h8)]) hx hb dX5_jointByRopes_122 hl (by decide) rfl (fun ls hl => ?_)
                refine lv_iinc (v := x5h8 + 1) (lv' := [(5, .int (x5h8 + 1)), (4, .int (s_X1_holderOf v.1 (s_X8_topOf v.2.1 x4h8))), (7, .int (s_X8_topOf v.2.1 x4h8)), (6, .int (s_X8_topOf v.2.1 x3h8)), (0, .ref a), (1, .int p1), (2, .int p2), (3, .int x3h8)]) hx hb dX5_jointByRopes_124 hl (k := 7) rfl rfl (by decide) rfl (fun ls hl => ?_)
                refine lv_goto (tgt := 8) hx hb dX5_jointByRopes_127 (by decide) ?_
                exact ih8 x3h8 (s_X1_holderOf v.1 (s_X8_topOf v.2.1 x4h8)) (x5h8 + 1) (q_mu c1 hm8) hR _ _ _  hI (lv_sub hl [4, 5, 6, 7, 1, 0] rfl)
              · rw [if_neg c5] at hR
                refine lv_aload_n hx hb dX5_jointByRopes_100 rfl (lv_at hl 2 rfl) ?_
                refine q_get hx hb hg in_X5 hown hK hI hL0.1 rfl 0 (by decide) (hg _ wf_X5_12) (fun _ h9 => h9) rfl dX5_jointByRopes_101 ?_
                refine lv_iload hx hb dX5_jointByRopes_104 (lv_at hl 1 rfl) ?_
                refine q_goR (q_runV (As := [.int (s_X8_topOf v.2.1 x3h8)]) (rest := []) hx hb hml hown hg (c_X1_holderOf l D cs hL0.2.1 (s_X8_topOf v.2.1 x3h8)) v_X1_holderOf wl_X5_78 rfl rfl ⟨Nat.le_of_ble_eq_true rfl, Nat.le_of_ble_eq_true rfl⟩ hI hK 2 hL0.2.1.1 rfl hl.1 rfl rfl (Nat.le_of_ble_eq_true rfl) dX5_jointByRopes_106 ⟨Nat.le_of_ble_eq_true rfl, Nat.le_of_ble_eq_true rfl⟩) hI (fun H locs hI => ?_)
                refine lv_istore_n (lv' := [(3, .int (s_X1_holderOf v.1 (s_X8_topOf v.2.1 x3h8))), (7, .int (s_X8_topOf v.2.1 x4h8)), (6, .int (s_X8_topOf v.2.1 x3h8)), (0, .ref a), (1, .int p1), (2, .int p2), (4, .int x4h8), (5, .int x5h8)]) hx hb dX5_jointByRopes_109 rfl hl (by decide) rfl (fun ls hl => ?_)
                refine lv_goto (tgt := 124) hx hb dX5_jointByRopes_110 (by decide) ?_
                refine lv_iinc (v := x5h8 + 1) (lv' := [(5, .int (x5h8 + 1)), (3, .int (s_X1_holderOf v.1 (s_X8_topOf v.2.1 x3h8))), (7, .int (s_X8_topOf v.2.1 x4h8)), (6, .int (s_X8_topOf v.2.1 x3h8)), (0, .ref a), (1, .int p1), (2, .int p2), (4, .int x4h8)]) hx hb dX5_jointByRopes_124 hl (k := 7) rfl rfl (by decide) rfl (fun ls hl => ?_)
                refine lv_goto (tgt := 8) hx hb dX5_jointByRopes_127 (by decide) ?_
                exact ih8 (s_X1_holderOf v.1 (s_X8_topOf v.2.1 x3h8)) x4h8 (x5h8 + 1) (q_mu c1 hm8) hR _ _ _  hI (lv_sub hl [4, 5, 6, 1, 7, 0] rfl)
            · rw [if_pos c4] at hR
              refine lv_aload_n hx hb dX5_jointByRopes_52 rfl (lv_at hl 2 rfl) ?_
              refine q_get hx hb hg in_X5 hown hK hI hL0.1 rfl 1 (by decide) (hg _ wf_X5_21) (fun _ h9 => h9) rfl dX5_jointByRopes_53 ?_
              refine lv_iload_n hx hb dX5_jointByRopes_56 rfl (lv_at hl 5 rfl) ?_
              refine q_goR (q_runV (As := [.int x3h8]) (rest := []) hx hb hml hown hg (c_X8_countAhead l D cs hL0.2.2.1 x3h8) v_X8_countAhead wl_X5_162 rfl rfl ⟨Nat.le_of_ble_eq_true rfl, Nat.le_of_ble_eq_true rfl⟩ hI hK 9 hL0.2.2.1.1 rfl hl.1 rfl rfl (Nat.le_of_ble_eq_true rfl) dX5_jointByRopes_57 ⟨Nat.le_of_ble_eq_true rfl, Nat.le_of_ble_eq_true rfl⟩) hI (fun H locs hI => ?_)
              refine lv_aload_n hx hb dX5_jointByRopes_60 rfl (lv_at hl 2 rfl) ?_
              refine q_get hx hb hg in_X5 hown hK hI hL0.1 rfl 1 (by decide) (hg _ wf_X5_21) (fun _ h9 => h9) rfl dX5_jointByRopes_61 ?_
              refine lv_iload hx hb dX5_jointByRopes_64 (lv_at hl 6 rfl) ?_
              refine q_goR (q_runV (As := [.int x4h8]) (rest := [.int (s_X8_countAhead v.2.1 x3h8)]) hx hb hml hown hg (c_X8_countAhead l D cs hL0.2.2.1 x4h8) v_X8_countAhead wl_X5_162 rfl rfl ⟨Nat.le_of_ble_eq_true rfl, Nat.le_of_ble_eq_true rfl⟩ hI hK 9 hL0.2.2.1.1 rfl hl.1 rfl rfl (Nat.le_of_ble_eq_true rfl) dX5_jointByRopes_66 ⟨Nat.le_of_ble_eq_true rfl, Nat.le_of_ble_eq_true rfl⟩) hI (fun H locs hI => ?_)
              refine lv_icmp_gt (tgt := 76) hx hb dX5_jointByRopes_69 (by decide) (fun c6 => ?_) (fun c6 => ?_)
              · rw [if_pos c6] at hR
                refine lv_iload hx hb dX5_jointByRopes_76 (lv_at hl 6 rfl) ?_
                exact q_iret hx hb hret hlk hN hI (by subst hR; exact ⟨rfl, rfl, rfl⟩) dX5_jointByRopes_78
              · rw [if_neg c6] at hR
                refine lv_iload_n hx hb dX5_jointByRopes_72 rfl (lv_at hl 5 rfl) ?_
                refine lv_goto (tgt := 78) hx hb dX5_jointByRopes_73 (by decide) ?_
                exact q_iret hx hb hret hlk hN hI (by subst hR; exact ⟨rfl, rfl, rfl⟩) dX5_jointByRopes_78
  exact loop8 _ p1 p2 0 (q_fuel _) hR _ _ _  hI (lv_sub hl [3, 4, 5, 2, 1, 0] rfl)
end
section
def s_X5_doWaysAgree_L49 (v : qQV) (x1h2 : Int32) (K2 : Int32 → Bool) : Nat → Int32 → Bool
  | 0, _ => default
  | n + 1, x2h49 => (if v.1.2.2 ≤ x2h49 then (K2 (x1h2 + 1)) else (if (s_X5_jointByRopes v x1h2 x2h49) = (s_X1_jointByHolders v.1 x1h2 x2h49) then (s_X5_doWaysAgree_L49 v x1h2 K2 n (x2h49 + 1)) else false))
def s_X5_doWaysAgree_L2 (v : qQV) : Nat → Int32 → Bool
  | 0, _ => default
  | n + 1, x1h2 => (if v.1.2.2 ≤ x1h2 then true else (if (s_X5_sumByRopes v x1h2) = (s_X1_sumByHolders v.1 x1h2) then (if (s_X5_rootByTops v x1h2) = (s_X1_rootByHolders v.1 x1h2) then (s_X5_doWaysAgree_L49 v x1h2 (s_X5_doWaysAgree_L2 v n) (v.1.2.2.toInt.toNat + 1) 0) else false) else false))
def s_X5_doWaysAgree (v : qQV)  : Bool := (s_X5_doWaysAgree_L2 v (v.1.2.2.toInt.toNat + 1) 0)
set_option maxHeartbeats 4000000 in
set_option maxRecDepth 20000 in
theorem c_X5_doWaysAgree (l : Launch) (D : va_G) (cs : qC) {M0 : qM} {N a : Nat} {v : qQV} (hL0 : qLQ cs M0 a v) :
    qMet l D cs yX5_doWaysAgree (qws yX5_doWaysAgree cX5_doWaysAgree 3 (some .boolean)) ({ frames := 6, cells := 0, slots := 0, locals := 142 } : Room) M0 N [.ref a] (qRet M0 N (.int (qbi (s_X5_doWaysAgree v)))) 0 0 := by
  obtain ⟨R, hR⟩ : ∃ R, s_X5_doWaysAgree v = R := ⟨_, rfl⟩
  rw [hR]
  rw [s_X5_doWaysAgree] at hR
  refine q_head (by decide) ?_ (Nat.le_of_ble_eq_true rfl)
  intro p e s m below meth c ls hx hb hret hlk hml hown hnm hg hK hN hI hl
  have hl : lv_has ls 3 [(0, .ref a)] := hl
  refine lv_iconst (v := 0) hx hb dX5_doWaysAgree_0 (by decide) ?_
  refine lv_istore_n (lv' := [(1, .int 0), (0, .ref a)]) hx hb dX5_doWaysAgree_1 rfl hl (by decide) rfl (fun ls hl => ?_)
  have loop2 : ∀ (n2 : Nat) (x1h2 : Int32), qmu v.1.2.2 x1h2 < n2 → s_X5_doWaysAgree_L2 v n2 x1h2 = R → ∀ (H : Heap) (locs : List Loc) (ls : Array Slot), qI D M0 s.heap M0 N H locs → lv_has ls 3 [(0, .ref a), (1, .int x1h2)] →
      W p l e ({ frames := 6, cells := 0, slots := 0, locals := 142 } : Room) s m [Value.ref a].toArray below meth c H locs 0 0 (MQ below (qQ D M0 N (qRet M0 N (.int (qbi R)))) [Value.ref a].toArray s 0 0 (qA M0 N)) (F0 m 2 ls []) := by
    intro n2
    induction n2 with
    | zero => intro x1h2 hm; exact absurd hm (Nat.not_lt_zero _)
    | succ n2 ih2 =>
      intro x1h2 hm2 hR H locs ls  hI hl
      rw [s_X5_doWaysAgree_L2] at hR
      refine lv_iload_n hx hb dX5_doWaysAgree_2 rfl (lv_at hl 1 rfl) ?_
      refine lv_aload_n hx hb dX5_doWaysAgree_3 rfl (lv_at hl 0 rfl) ?_
      refine q_get hx hb hg in_X5 hown hK hI hL0.1 rfl 0 (by decide) (hg _ wf_X5_12) (fun _ h9 => h9) rfl dX5_doWaysAgree_4 ?_
      refine q_getN hx hb hg in_X1 hown hK hI hL0.2.1.1 rfl 2 (by decide) (hK.2 _ (List.mem_of_getElem? (i := 3) rfl)) (fun _ h9 => h9) rfl dX5_doWaysAgree_7 ?_
      refine lv_icmp_ge (tgt := 92) hx hb dX5_doWaysAgree_10 (by decide) (fun c1 => ?_) (fun c1 => ?_)
      · rw [if_pos c1] at hR
        refine lv_iconst (v := 1) hx hb dX5_doWaysAgree_92 (by decide) ?_
        exact q_zret hx hb hret rfl hlk hN hI (by subst hR; exact ⟨rfl, rfl, rfl⟩) dX5_doWaysAgree_93
      · rw [if_neg c1] at hR
        refine lv_aload_n hx hb dX5_doWaysAgree_13 rfl (lv_at hl 0 rfl) ?_
        refine lv_iload_n hx hb dX5_doWaysAgree_14 rfl (lv_at hl 1 rfl) ?_
        refine q_goR (q_runV (As := [.int x1h2]) (rest := []) hx hb hml hown hg (c_X5_sumByRopes l D cs hL0 x1h2) v_X5_sumByRopes wl_X5_165 rfl rfl ⟨Nat.le_of_ble_eq_true rfl, Nat.le_of_ble_eq_true rfl⟩ hI hK 6 hL0.1 rfl hl.1 rfl rfl (Nat.le_of_ble_eq_true rfl) dX5_doWaysAgree_15 ⟨Nat.le_of_ble_eq_true rfl, Nat.le_of_ble_eq_true rfl⟩) hI (fun H locs hI => ?_)
        refine lv_aload_n hx hb dX5_doWaysAgree_18 rfl (lv_at hl 0 rfl) ?_
        refine q_get hx hb hg in_X5 hown hK hI hL0.1 rfl 0 (by decide) (hg _ wf_X5_12) (fun _ h9 => h9) rfl dX5_doWaysAgree_19 ?_
        refine lv_iload_n hx hb dX5_doWaysAgree_22 rfl (lv_at hl 1 rfl) ?_
        refine q_goR (q_runV (As := [.int x1h2]) (rest := [.int (s_X5_sumByRopes v x1h2)]) hx hb hml hown hg (c_X1_sumByHolders l D cs hL0.2.1 x1h2) v_X1_sumByHolders wl_X5_102 rfl rfl ⟨Nat.le_of_ble_eq_true rfl, Nat.le_of_ble_eq_true rfl⟩ hI hK 2 hL0.2.1.1 rfl hl.1 rfl rfl (Nat.le_of_ble_eq_true rfl) dX5_doWaysAgree_23 ⟨Nat.le_of_ble_eq_true rfl, Nat.le_of_ble_eq_true rfl⟩) hI (fun H locs hI => ?_)
        refine lv_icmp_ne (tgt := 45) hx hb dX5_doWaysAgree_26 (by decide) (fun c2 => ?_) (fun c2 => ?_)
        · rw [if_neg c2] at hR
          refine lv_iconst (v := 0) hx hb dX5_doWaysAgree_45 (by decide) ?_
          exact q_zret hx hb hret rfl hlk hN hI (by subst hR; exact ⟨rfl, rfl, rfl⟩) dX5_doWaysAgree_46
        · rw [if_pos c2] at hR
          refine lv_aload_n hx hb dX5_doWaysAgree_29 rfl (lv_at hl 0 rfl) ?_
          refine lv_iload_n hx hb dX5_doWaysAgree_30 rfl (lv_at hl 1 rfl) ?_
          refine q_goR (q_runV (As := [.int x1h2]) (rest := []) hx hb hml hown hg (c_X5_rootByTops l D cs hL0 x1h2) v_X5_rootByTops wl_X5_168 rfl rfl ⟨Nat.le_of_ble_eq_true rfl, Nat.le_of_ble_eq_true rfl⟩ hI hK 6 hL0.1 rfl hl.1 rfl rfl (Nat.le_of_ble_eq_true rfl) dX5_doWaysAgree_31 ⟨Nat.le_of_ble_eq_true rfl, Nat.le_of_ble_eq_true rfl⟩) hI (fun H locs hI => ?_)
          refine lv_aload_n hx hb dX5_doWaysAgree_34 rfl (lv_at hl 0 rfl) ?_
          refine q_get hx hb hg in_X5 hown hK hI hL0.1 rfl 0 (by decide) (hg _ wf_X5_12) (fun _ h9 => h9) rfl dX5_doWaysAgree_35 ?_
          refine lv_iload_n hx hb dX5_doWaysAgree_38 rfl (lv_at hl 1 rfl) ?_
          refine q_goR (q_runV (As := [.int x1h2]) (rest := [.int (s_X5_rootByTops v x1h2)]) hx hb hml hown hg (c_X1_rootByHolders l D cs hL0.2.1 x1h2) v_X1_rootByHolders wl_X5_81 rfl rfl ⟨Nat.le_of_ble_eq_true rfl, Nat.le_of_ble_eq_true rfl⟩ hI hK 2 hL0.2.1.1 rfl hl.1 rfl rfl (Nat.le_of_ble_eq_true rfl) dX5_doWaysAgree_39 ⟨Nat.le_of_ble_eq_true rfl, Nat.le_of_ble_eq_true rfl⟩) hI (fun H locs hI => ?_)
          refine lv_icmp_eq (tgt := 47) hx hb dX5_doWaysAgree_42 (by decide) (fun c3 => ?_) (fun c3 => ?_)
          · rw [if_pos c3] at hR
            refine lv_iconst (v := 0) hx hb dX5_doWaysAgree_47 (by decide) ?_
            refine lv_istore_n (lv' := [(2, .int 0), (0, .ref a), (1, .int x1h2)]) hx hb dX5_doWaysAgree_48 rfl hl (by decide) rfl (fun ls hl => ?_)
            have loop49 : ∀ (n49 : Nat) (x2h49 : Int32), qmu v.1.2.2 x2h49 < n49 → s_X5_doWaysAgree_L49 v x1h2 (s_X5_doWaysAgree_L2 v n2) n49 x2h49 = R → ∀ (H : Heap) (locs : List Loc) (ls : Array Slot), qI D M0 s.heap M0 N H locs → lv_has ls 3 [(0, .ref a), (1, .int x1h2), (2, .int x2h49)] →
                W p l e ({ frames := 6, cells := 0, slots := 0, locals := 142 } : Room) s m [Value.ref a].toArray below meth c H locs 0 0 (MQ below (qQ D M0 N (qRet M0 N (.int (qbi R)))) [Value.ref a].toArray s 0 0 (qA M0 N)) (F0 m 49 ls []) := by
              intro n49
              induction n49 with
              | zero => intro x2h49 hm; exact absurd hm (Nat.not_lt_zero _)
              | succ n49 ih49 =>
                intro x2h49 hm49 hR H locs ls  hI hl
                rw [s_X5_doWaysAgree_L49] at hR
                refine lv_iload_n hx hb dX5_doWaysAgree_49 rfl (lv_at hl 2 rfl) ?_
                refine lv_aload_n hx hb dX5_doWaysAgree_50 rfl (lv_at hl 0 rfl) ?_
                refine q_get hx hb hg in_X5 hown hK hI hL0.1 rfl 0 (by decide) (hg _ wf_X5_12) (fun _ h9 => h9) rfl dX5_doWaysAgree_51 ?_
                refine q_getN hx hb hg in_X1 hown hK hI hL0.2.1.1 rfl 2 (by decide) (hK.2 _ (List.mem_of_getElem? (i := 3) rfl)) (fun _ h9 => h9) rfl dX5_doWaysAgree_54 ?_
                refine lv_icmp_ge (tgt := 86) hx hb dX5_doWaysAgree_57 (by decide) (fun c4 => ?_) (fun c4 => ?_)
                · rw [if_pos c4] at hR
                  refine lv_iinc (v := x1h2 + 1) (lv' := [(1, .int (x1h2 + 1)), (0, .ref a), (2, .int x2h49)]) hx hb dX5_doWaysAgree_86 hl (k := 1) rfl rfl (by decide) rfl (fun ls hl => ?_)
                  refine lv_goto (tgt := 2) hx hb dX5_doWaysAgree_89 (by decide) ?_
                  exact ih2 (x1h2 + 1) (q_mu c1 hm2) hR _ _ _  hI (lv_sub hl [1, 0] rfl)
                · rw [if_neg c4] at hR
                  refine lv_aload_n hx hb dX5_doWaysAgree_60 rfl (lv_at hl 0 rfl) ?_
                  refine lv_iload_n hx hb dX5_doWaysAgree_61 rfl (lv_at hl 1 rfl) ?_
                  refine lv_iload_n hx hb dX5_doWaysAgree_62 rfl (lv_at hl 2 rfl) ?_
                  refine q_goR (q_runV (As := [.int x1h2, .int x2h49]) (rest := []) hx hb hml hown hg (c_X5_jointByRopes l D cs hL0 x1h2 x2h49) v_X5_jointByRopes wl_X5_171 rfl rfl ⟨Nat.le_of_ble_eq_true rfl, Nat.le_of_ble_eq_true rfl⟩ hI hK 6 hL0.1 rfl hl.1 rfl rfl (Nat.le_of_ble_eq_true rfl) dX5_doWaysAgree_63 ⟨Nat.le_of_ble_eq_true rfl, Nat.le_of_ble_eq_true rfl⟩) hI (fun H locs hI => ?_)
                  refine lv_aload_n hx hb dX5_doWaysAgree_66 rfl (lv_at hl 0 rfl) ?_
                  refine q_get hx hb hg in_X5 hown hK hI hL0.1 rfl 0 (by decide) (hg _ wf_X5_12) (fun _ h9 => h9) rfl dX5_doWaysAgree_67 ?_
                  refine lv_iload_n hx hb dX5_doWaysAgree_70 rfl (lv_at hl 1 rfl) ?_
                  refine lv_iload_n hx hb dX5_doWaysAgree_71 rfl (lv_at hl 2 rfl) ?_
                  refine q_goR (q_runV (As := [.int x1h2, .int x2h49]) (rest := [.int (s_X5_jointByRopes v x1h2 x2h49)]) hx hb hml hown hg (c_X1_jointByHolders l D cs hL0.2.1 x1h2 x2h49) v_X1_jointByHolders wl_X5_174 rfl rfl ⟨Nat.le_of_ble_eq_true rfl, Nat.le_of_ble_eq_true rfl⟩ hI hK 2 hL0.2.1.1 rfl hl.1 rfl rfl (Nat.le_of_ble_eq_true rfl) dX5_doWaysAgree_72 ⟨Nat.le_of_ble_eq_true rfl, Nat.le_of_ble_eq_true rfl⟩) hI (fun H locs hI => ?_)
                  refine lv_icmp_eq (tgt := 80) hx hb dX5_doWaysAgree_75 (by decide) (fun c5 => ?_) (fun c5 => ?_)
                  · rw [if_pos c5] at hR
                    refine lv_iinc (v := x2h49 + 1) (lv' := [(2, .int (x2h49 + 1)), (0, .ref a), (1, .int x1h2)]) hx hb dX5_doWaysAgree_80 hl (k := 2) rfl rfl (by decide) rfl (fun ls hl => ?_)
                    refine lv_goto (tgt := 49) hx hb dX5_doWaysAgree_83 (by decide) ?_
                    exact ih49 (x2h49 + 1) (q_mu c4 hm49) hR _ _ _  hI (lv_sub hl [1, 2, 0] rfl)
                  · rw [if_neg c5] at hR
                    refine lv_iconst (v := 0) hx hb dX5_doWaysAgree_78 (by decide) ?_
                    exact q_zret hx hb hret rfl hlk hN hI (by subst hR; exact ⟨rfl, rfl, rfl⟩) dX5_doWaysAgree_79
            exact loop49 _ 0 (q_fuel _) hR _ _ _  hI (lv_sub hl [1, 2, 0] rfl)
          · rw [if_neg c3] at hR
            refine lv_iconst (v := 0) hx hb dX5_doWaysAgree_45 (by decide) ?_
            exact q_zret hx hb hret rfl hlk hN hI (by subst hR; exact ⟨rfl, rfl, rfl⟩) dX5_doWaysAgree_46
  exact loop2 _ 0 (q_fuel _) hR _ _ _  hI (lv_sub hl [1, 0] rfl)
def s_X5_timesOnRopes_L37 (v : qQV) (p1 : Int32) (x2h4 : Int32) (x3h4 : Int32) (K4 : Int32 → Int32 → Int32) : Nat → Int32 → Int32 → Int32 → Int32
  | 0, _, _, _ => default
  | n + 1, x2h37, x4h37, x5h37 => (if 16 ≤ x5h37 then (K4 x2h37 (x3h4 + 1)) else (if x4h37 < 0 then (K4 x2h37 (x3h4 + 1)) else (if x4h37 = p1 then (s_X5_timesOnRopes_L37 v p1 x2h4 x3h4 K4 n (x2h37 + 1) (s_X8_behind v.2.1 x4h37) (x5h37 + 1)) else (s_X5_timesOnRopes_L37 v p1 x2h4 x3h4 K4 n (x2h37 + 0) (s_X8_behind v.2.1 x4h37) (x5h37 + 1)))))
def s_X5_timesOnRopes_L4 (v : qQV) (p1 : Int32) : Nat → Int32 → Int32 → Int32
  | 0, _, _ => default
  | n + 1, x2h4, x3h4 => (if v.1.2.2 ≤ x3h4 then x2h4 else (if (s_X8_topOf v.2.1 x3h4) = x3h4 then (s_X5_timesOnRopes_L37 v p1 x2h4 x3h4 (s_X5_timesOnRopes_L4 v p1 n) ((16 : Int32).toInt.toNat + 1) x2h4 x3h4 0) else (s_X5_timesOnRopes_L37 v p1 x2h4 x3h4 (s_X5_timesOnRopes_L4 v p1 n) ((16 : Int32).toInt.toNat + 1) x2h4 (-1) 0)))
def s_X5_timesOnRopes (v : qQV) (p1 : Int32) : Int32 := (s_X5_timesOnRopes_L4 v p1 (v.1.2.2.toInt.toNat + 1) 0 0)
set_option maxHeartbeats 4000000 in
set_option maxRecDepth 20000 in
theorem c_X5_timesOnRopes (l : Launch) (D : va_G) (cs : qC) {M0 : qM} {N a : Nat} {v : qQV} (hL0 : qLQ cs M0 a v) (p1 : Int32) :
    qMet l D cs yX5_timesOnRopes (qws yX5_timesOnRopes cX5_timesOnRopes 6 (some .int)) ({ frames := 4, cells := 0, slots := 0, locals := 92 } : Room) M0 N [.ref a, .int p1] (qRet M0 N (.int (s_X5_timesOnRopes v p1))) 0 0 := by
  obtain ⟨R, hR⟩ : ∃ R, s_X5_timesOnRopes v p1 = R := ⟨_, rfl⟩
  rw [hR]
  rw [s_X5_timesOnRopes] at hR
  refine q_head (by decide) ?_ (Nat.le_of_ble_eq_true rfl)
  intro p e s m below meth c ls hx hb hret hlk hml hown hnm hg hK hN hI hl
  have hl : lv_has ls 6 [(0, .ref a), (1, .int p1)] := hl
  refine lv_iconst (v := 0) hx hb dX5_timesOnRopes_0 (by decide) ?_
  refine lv_istore_n (lv' := [(2, .int 0), (0, .ref a), (1, .int p1)]) hx hb dX5_timesOnRopes_1 rfl hl (by decide) rfl (fun ls hl => ?_)
  refine lv_iconst (v := 0) hx hb dX5_timesOnRopes_2 (by decide) ?_
  refine lv_istore_n (lv' := [(3, .int 0), (2, .int 0), (0, .ref a), (1, .int p1)]) hx hb dX5_timesOnRopes_3 rfl hl (by decide) rfl (fun ls hl => ?_)
  have loop4 : ∀ (n4 : Nat) (x2h4 : Int32) (x3h4 : Int32), qmu v.1.2.2 x3h4 < n4 → s_X5_timesOnRopes_L4 v p1 n4 x2h4 x3h4 = R → ∀ (H : Heap) (locs : List Loc) (ls : Array Slot), qI D M0 s.heap M0 N H locs → lv_has ls 6 [(0, .ref a), (1, .int p1), (2, .int x2h4), (3, .int x3h4)] →
      W p l e ({ frames := 4, cells := 0, slots := 0, locals := 92 } : Room) s m [Value.ref a, Value.int p1].toArray below meth c H locs 0 0 (MQ below (qQ D M0 N (qRet M0 N (.int R))) [Value.ref a, Value.int p1].toArray s 0 0 (qA M0 N)) (F0 m 4 ls []) := by
    intro n4
    induction n4 with
    | zero => intro x2h4 x3h4 hm; exact absurd hm (Nat.not_lt_zero _)
    | succ n4 ih4 =>
      intro x2h4 x3h4 hm4 hR H locs ls  hI hl
      rw [s_X5_timesOnRopes_L4] at hR
      refine lv_iload_n hx hb dX5_timesOnRopes_4 rfl (lv_at hl 3 rfl) ?_
      refine lv_aload_n hx hb dX5_timesOnRopes_5 rfl (lv_at hl 0 rfl) ?_
      refine q_get hx hb hg in_X5 hown hK hI hL0.1 rfl 0 (by decide) (hg _ wf_X5_12) (fun _ h9 => h9) rfl dX5_timesOnRopes_6 ?_
      refine q_getN hx hb hg in_X1 hown hK hI hL0.2.1.1 rfl 2 (by decide) (hK.2 _ (List.mem_of_getElem? (i := 3) rfl)) (fun _ h9 => h9) rfl dX5_timesOnRopes_9 ?_
      refine lv_icmp_ge (tgt := 86) hx hb dX5_timesOnRopes_12 (by decide) (fun c1 => ?_) (fun c1 => ?_)
      · rw [if_pos c1] at hR
        refine lv_iload_n hx hb dX5_timesOnRopes_86 rfl (lv_at hl 2 rfl) ?_
        exact q_iret hx hb hret hlk hN hI (by subst hR; exact ⟨rfl, rfl, rfl⟩) dX5_timesOnRopes_87
      · rw [if_neg c1] at hR
        refine lv_aload_n hx hb dX5_timesOnRopes_15 rfl (lv_at hl 0 rfl) ?_
        refine q_get hx hb hg in_X5 hown hK hI hL0.1 rfl 1 (by decide) (hg _ wf_X5_21) (fun _ h9 => h9) rfl dX5_timesOnRopes_16 ?_
        refine lv_iload_n hx hb dX5_timesOnRopes_19 rfl (lv_at hl 3 rfl) ?_
        refine q_goR (q_runV (As := [.int x3h4]) (rest := []) hx hb hml hown hg (c_X8_topOf l D cs hL0.2.2.1 x3h4) v_X8_topOf wl_X5_137 rfl rfl ⟨Nat.le_of_ble_eq_true rfl, Nat.le_of_ble_eq_true rfl⟩ hI hK 9 hL0.2.2.1.1 rfl hl.1 rfl rfl (Nat.le_of_ble_eq_true rfl) dX5_timesOnRopes_20 ⟨Nat.le_of_ble_eq_true rfl, Nat.le_of_ble_eq_true rfl⟩) hI (fun H locs hI => ?_)
        refine lv_iload_n hx hb dX5_timesOnRopes_23 rfl (lv_at hl 3 rfl) ?_
        refine lv_icmp_ne (tgt := 31) hx hb dX5_timesOnRopes_24 (by decide) (fun c2 => ?_) (fun c2 => ?_)
        · rw [if_neg c2] at hR
          refine lv_iconst (v := (-1)) hx hb dX5_timesOnRopes_31 (by decide) ?_
          refine lv_istore (lv' := [(4, .int (-1)), (0, .ref a), (1, .int p1), (2, .int x2h4), (3, .int x3h4)]) hx hb dX5_timesOnRopes_32 hl (by decide) rfl (fun ls hl => ?_)
          refine lv_iconst (v := 0) hx hb dX5_timesOnRopes_34 (by decide) ?_
          refine lv_istore (lv' := [(5, .int 0), (4, .int (-1)), (0, .ref a), (1, .int p1), (2, .int x2h4), (3, .int x3h4)]) hx hb dX5_timesOnRopes_35 hl (by decide) rfl (fun ls hl => ?_)
          have loop37 : ∀ (n37 : Nat) (x2h37 : Int32) (x4h37 : Int32) (x5h37 : Int32), qmu 16 x5h37 < n37 → s_X5_timesOnRopes_L37 v p1 x2h4 x3h4 (s_X5_timesOnRopes_L4 v p1 n4) n37 x2h37 x4h37 x5h37 = R → ∀ (H : Heap) (locs : List Loc) (ls : Array Slot), qI D M0 s.heap M0 N H locs → lv_has ls 6 [(0, .ref a), (1, .int p1), (2, .int x2h37), (3, .int x3h4), (4, .int x4h37), (5, .int x5h37)] →
              W p l e ({ frames := 4, cells := 0, slots := 0, locals := 92 } : Room) s m [Value.ref a, Value.int p1].toArray below meth c H locs 0 0 (MQ below (qQ D M0 N (qRet M0 N (.int R))) [Value.ref a, Value.int p1].toArray s 0 0 (qA M0 N)) (F0 m 37 ls []) := by
            intro n37
            induction n37 with
            | zero => intro x2h37 x4h37 x5h37 hm; exact absurd hm (Nat.not_lt_zero _)
            | succ n37 ih37 =>
              intro x2h37 x4h37 x5h37 hm37 hR H locs ls  hI hl
              rw [s_X5_timesOnRopes_L37] at hR
              refine lv_iload hx hb dX5_timesOnRopes_37 (lv_at hl 5 rfl) ?_
              refine lv_bipush (v := 16) hx hb dX5_timesOnRopes_39 (by decide) ?_
              refine lv_icmp_ge (tgt := 80) hx hb dX5_timesOnRopes_41 (by decide) (fun c3 => ?_) (fun c3 => ?_)
              · rw [if_pos c3] at hR
                refine lv_iinc (v := x3h4 + 1) (lv' := [(3, .int (x3h4 + 1)), (0, .ref a), (1, .int p1), (2, .int x2h37), (4, .int x4h37), (5, .int x5h37)]) hx hb dX5_timesOnRopes_80 hl (k := 3) rfl rfl (by decide) rfl (fun ls hl => ?_)
                refine lv_goto (tgt := 4) hx hb dX5_timesOnRopes_83 (by decide) ?_
                exact ih4 x2h37 (x3h4 + 1) (q_mu c1 hm4) hR _ _ _  hI (lv_sub hl [1, 2, 3, 0] rfl)
              · rw [if_neg c3] at hR
                refine lv_iload hx hb dX5_timesOnRopes_44 (lv_at hl 4 rfl) ?_
                refine lv_if_lt (tgt := 80) hx hb dX5_timesOnRopes_46 (by decide) (fun c4 => ?_) (fun c4 => ?_)
                · rw [if_pos c4] at hR
                  refine lv_iinc (v := x3h4 + 1) (lv' := [(3, .int (x3h4 + 1)), (0, .ref a), (1, .int p1), (2, .int x2h37), (4, .int x4h37), (5, .int x5h37)]) hx hb dX5_timesOnRopes_80 hl (k := 3) rfl rfl (by decide) rfl (fun ls hl => ?_)
                  refine lv_goto (tgt := 4) hx hb dX5_timesOnRopes_83 (by decide) ?_
                  exact ih4 x2h37 (x3h4 + 1) (q_mu c1 hm4) hR _ _ _  hI (lv_sub hl [1, 2, 3, 0] rfl)
                · rw [if_neg c4] at hR
                  refine lv_iload_n hx hb dX5_timesOnRopes_49 rfl (lv_at hl 2 rfl) ?_
                  refine lv_iload hx hb dX5_timesOnRopes_50 (lv_at hl 4 rfl) ?_
                  refine lv_iload_n hx hb dX5_timesOnRopes_52 rfl (lv_at hl 1 rfl) ?_
                  refine lv_icmp_ne (tgt := 60) hx hb dX5_timesOnRopes_53 (by decide) (fun c5 => ?_) (fun c5 => ?_)
                  · rw [if_neg c5] at hR
                    refine lv_iconst (v := 0) hx hb dX5_timesOnRopes_60 (by decide) ?_
                    refine lv_iadd hx hb dX5_timesOnRopes_61 ?_
                    refine lv_istore_n (lv' := [(2, .int (x2h37 + 0)), (0, .ref a), (1, .int p1), (3, .int x3h4), (4, .int x4h37), (5, .int x5h37)]) hx hb dX5_timesOnRopes_62 rfl hl (by decide) rfl (fun ls hl => ?_)
                    refine lv_aload_n hx hb dX5_timesOnRopes_63 rfl (lv_at hl 1 rfl) ?_
                    refine q_get hx hb hg in_X5 hown hK hI hL0.1 rfl 1 (by decide) (hg _ wf_X5_21) (fun _ h9 => h9) rfl dX5_timesOnRopes_64 ?_
                    refine lv_iload hx hb dX5_timesOnRopes_67 (lv_at hl 4 rfl) ?_
                    refine q_goR (q_runV (As := [.int x4h37]) (rest := []) hx hb hml hown hg (c_X8_behind l D cs hL0.2.2.1 x4h37) v_X8_behind wl_X5_183 rfl rfl ⟨Nat.le_of_ble_eq_true rfl, Nat.le_of_ble_eq_true rfl⟩ hI hK 9 hL0.2.2.1.1 rfl hl.1 rfl rfl (Nat.le_of_ble_eq_true rfl) dX5_timesOnRopes_69 ⟨Nat.le_of_ble_eq_true rfl, Nat.le_of_ble_eq_true rfl⟩) hI (fun H locs hI => ?_)
                    refine lv_istore (lv' := [(4, .int (s_X8_behind v.2.1 x4h37)), (2, .int (x2h37 + 0)), (0, .ref a), (1, .int p1), (3, .int x3h4), (5, .int x5h37)]) hx hb dX5_timesOnRopes_72 hl (by decide) rfl (fun ls hl => ?_)
                    refine lv_iinc (v := x5h37 + 1) (lv' := [(5, .int (x5h37 + 1)), (4, .int (s_X8_behind v.2.1 x4h37)), (2, .int (x2h37 + 0)), (0, .ref a), (1, .int p1), (3, .int x3h4)]) hx hb dX5_timesOnRopes_74 hl (k := 5) rfl rfl (by decide) rfl (fun ls hl => ?_)
                    refine lv_goto (tgt := 37) hx hb dX5_timesOnRopes_77 (by decide) ?_
                    exact ih37 (x2h37 + 0) (s_X8_behind v.2.1 x4h37) (x5h37 + 1) (q_mu c3 hm37) hR _ _ _  hI (lv_sub hl [3, 4, 2, 5, 1, 0] rfl)
                  · rw [if_pos c5] at hR
                    refine lv_iconst (v := 1) hx hb dX5_timesOnRopes_56 (by decide) ?_
                    refine lv_goto (tgt := 61) hx hb dX5_timesOnRopes_57 (by decide) ?_
                    refine lv_iadd hx hb dX5_timesOnRopes_61 ?_
                    refine lv_istore_n (lv' := [(2, .int (x2h37 + 1)), (0, .ref a), (1, .int p1), (3, .int x3h4), (4, .int x4h37), (5, .int x5h37)]) hx hb dX5_timesOnRopes_62 rfl hl (by decide) rfl (fun ls hl => ?_)
                    refine lv_aload_n hx hb dX5_timesOnRopes_63 rfl (lv_at hl 1 rfl) ?_
                    refine q_get hx hb hg in_X5 hown hK hI hL0.1 rfl 1 (by decide) (hg _ wf_X5_21) (fun _ h9 => h9) rfl dX5_timesOnRopes_64 ?_
                    refine lv_iload hx hb dX5_timesOnRopes_67 (lv_at hl 4 rfl) ?_
                    refine q_goR (q_runV (As := [.int x4h37]) (rest := []) hx hb hml hown hg (c_X8_behind l D cs hL0.2.2.1 x4h37) v_X8_behind wl_X5_183 rfl rfl ⟨Nat.le_of_ble_eq_true rfl, Nat.le_of_ble_eq_true rfl⟩ hI hK 9 hL0.2.2.1.1 rfl hl.1 rfl rfl (Nat.le_of_ble_eq_true rfl) dX5_timesOnRopes_69 ⟨Nat.le_of_ble_eq_true rfl, Nat.le_of_ble_eq_true rfl⟩) hI (fun H locs hI => ?_)
                    refine lv_istore (lv' := [(4, .int (s_X8_behind v.2.1 x4h37)), (2, .int (x2h37 + 1)), (0, .ref a), (1, .int p1), (3, .int x3h4), (5, .int x5h37)]) hx hb dX5_timesOnRopes_72 hl (by decide) rfl (fun ls hl => ?_)
                    refine lv_iinc (v := x5h37 + 1) (lv' := [(5, .int (x5h37 + 1)), (4, .int (s_X8_behind v.2.1 x4h37)), (2, .int (x2h37 + 1)), (0, .ref a), (1, .int p1), (3, .int x3h4)]) hx hb dX5_timesOnRopes_74 hl (k := 5) rfl rfl (by decide) rfl (fun ls hl => ?_)
                    refine lv_goto (tgt := 37) hx hb dX5_timesOnRopes_77 (by decide) ?_
                    exact ih37 (x2h37 + 1) (s_X8_behind v.2.1 x4h37) (x5h37 + 1) (q_mu c3 hm37) hR _ _ _  hI (lv_sub hl [3, 4, 2, 5, 1, 0] rfl)
          exact loop37 _ x2h4 (-1) 0 (q_fuel _) hR _ _ _  hI (lv_sub hl [2, 3, 4, 5, 1, 0] rfl)
        · rw [if_pos c2] at hR
          refine lv_iload_n hx hb dX5_timesOnRopes_27 rfl (lv_at hl 3 rfl) ?_
          refine lv_goto (tgt := 32) hx hb dX5_timesOnRopes_28 (by decide) ?_
          refine lv_istore (lv' := [(4, .int x3h4), (0, .ref a), (1, .int p1), (2, .int x2h4), (3, .int x3h4)]) hx hb dX5_timesOnRopes_32 hl (by decide) rfl (fun ls hl => ?_)
          refine lv_iconst (v := 0) hx hb dX5_timesOnRopes_34 (by decide) ?_
          refine lv_istore (lv' := [(5, .int 0), (4, .int x3h4), (0, .ref a), (1, .int p1), (2, .int x2h4), (3, .int x3h4)]) hx hb dX5_timesOnRopes_35 hl (by decide) rfl (fun ls hl => ?_)
          have loop37 : ∀ (n37 : Nat) (x2h37 : Int32) (x4h37 : Int32) (x5h37 : Int32), qmu 16 x5h37 < n37 → s_X5_timesOnRopes_L37 v p1 x2h4 x3h4 (s_X5_timesOnRopes_L4 v p1 n4) n37 x2h37 x4h37 x5h37 = R → ∀ (H : Heap) (locs : List Loc) (ls : Array Slot), qI D M0 s.heap M0 N H locs → lv_has ls 6 [(0, .ref a), (1, .int p1), (2, .int x2h37), (3, .int x3h4), (4, .int x4h37), (5, .int x5h37)] →
              W p l e ({ frames := 4, cells := 0, slots := 0, locals := 92 } : Room) s m [Value.ref a, Value.int p1].toArray below meth c H locs 0 0 (MQ below (qQ D M0 N (qRet M0 N (.int R))) [Value.ref a, Value.int p1].toArray s 0 0 (qA M0 N)) (F0 m 37 ls []) := by
            intro n37
            induction n37 with
            | zero => intro x2h37 x4h37 x5h37 hm; exact absurd hm (Nat.not_lt_zero _)
            | succ n37 ih37 =>
              intro x2h37 x4h37 x5h37 hm37 hR H locs ls  hI hl
              rw [s_X5_timesOnRopes_L37] at hR
              refine lv_iload hx hb dX5_timesOnRopes_37 (lv_at hl 5 rfl) ?_
              refine lv_bipush (v := 16) hx hb dX5_timesOnRopes_39 (by decide) ?_
              refine lv_icmp_ge (tgt := 80) hx hb dX5_timesOnRopes_41 (by decide) (fun c6 => ?_) (fun c6 => ?_)
              · rw [if_pos c6] at hR
                refine lv_iinc (v := x3h4 + 1) (lv' := [(3, .int (x3h4 + 1)), (0, .ref a), (1, .int p1), (2, .int x2h37), (4, .int x4h37), (5, .int x5h37)]) hx hb dX5_timesOnRopes_80 hl (k := 3) rfl rfl (by decide) rfl (fun ls hl => ?_)
                refine lv_goto (tgt := 4) hx hb dX5_timesOnRopes_83 (by decide) ?_
                exact ih4 x2h37 (x3h4 + 1) (q_mu c1 hm4) hR _ _ _  hI (lv_sub hl [1, 2, 3, 0] rfl)
              · rw [if_neg c6] at hR
                refine lv_iload hx hb dX5_timesOnRopes_44 (lv_at hl 4 rfl) ?_
                refine lv_if_lt (tgt := 80) hx hb dX5_timesOnRopes_46 (by decide) (fun c7 => ?_) (fun c7 => ?_)
                · rw [if_pos c7] at hR
                  refine lv_iinc (v := x3h4 + 1) (lv' := [(3, .int (x3h4 + 1)), (0, .ref a), (1, .int p1), (2, .int x2h37), (4, .int x4h37), (5, .int x5h37)]) hx hb dX5_timesOnRopes_80 hl (k := 3) rfl rfl (by decide) rfl (fun ls hl => ?_)
                  refine lv_goto (tgt := 4) hx hb dX5_timesOnRopes_83 (by decide) ?_
                  exact ih4 x2h37 (x3h4 + 1) (q_mu c1 hm4) hR _ _ _  hI (lv_sub hl [1, 2, 3, 0] rfl)
                · rw [if_neg c7] at hR
                  refine lv_iload_n hx hb dX5_timesOnRopes_49 rfl (lv_at hl 2 rfl) ?_
                  refine lv_iload hx hb dX5_timesOnRopes_50 (lv_at hl 4 rfl) ?_
                  refine lv_iload_n hx hb dX5_timesOnRopes_52 rfl (lv_at hl 1 rfl) ?_
                  refine lv_icmp_ne (tgt := 60) hx hb dX5_timesOnRopes_53 (by decide) (fun c8 => ?_) (fun c8 => ?_)
                  · rw [if_neg c8] at hR
                    refine lv_iconst (v := 0) hx hb dX5_timesOnRopes_60 (by decide) ?_
                    refine lv_iadd hx hb dX5_timesOnRopes_61 ?_
                    refine lv_istore_n (lv' := [(2, .int (x2h37 + 0)), (0, .ref a), (1, .int p1), (3, .int x3h4), (4, .int x4h37), (5, .int x5h37)]) hx hb dX5_timesOnRopes_62 rfl hl (by decide) rfl (fun ls hl => ?_)
                    refine lv_aload_n hx hb dX5_timesOnRopes_63 rfl (lv_at hl 1 rfl) ?_
                    refine q_get hx hb hg in_X5 hown hK hI hL0.1 rfl 1 (by decide) (hg _ wf_X5_21) (fun _ h9 => h9) rfl dX5_timesOnRopes_64 ?_
                    refine lv_iload hx hb dX5_timesOnRopes_67 (lv_at hl 4 rfl) ?_
                    refine q_goR (q_runV (As := [.int x4h37]) (rest := []) hx hb hml hown hg (c_X8_behind l D cs hL0.2.2.1 x4h37) v_X8_behind wl_X5_183 rfl rfl ⟨Nat.le_of_ble_eq_true rfl, Nat.le_of_ble_eq_true rfl⟩ hI hK 9 hL0.2.2.1.1 rfl hl.1 rfl rfl (Nat.le_of_ble_eq_true rfl) dX5_timesOnRopes_69 ⟨Nat.le_of_ble_eq_true rfl, Nat.le_of_ble_eq_true rfl⟩) hI (fun H locs hI => ?_)
                    refine lv_istore (lv' := [(4, .int (s_X8_behind v.2.1 x4h37)), (2, .int (x2h37 + 0)), (0, .ref a), (1, .int p1), (3, .int x3h4), (5, .int x5h37)]) hx hb dX5_timesOnRopes_72 hl (by decide) rfl (fun ls hl => ?_)
                    refine lv_iinc (v := x5h37 + 1) (lv' := [(5, .int (x5h37 + 1)), (4, .int (s_X8_behind v.2.1 x4h37)), (2, .int (x2h37 + 0)), (0, .ref a), (1, .int p1), (3, .int x3h4)]) hx hb dX5_timesOnRopes_74 hl (k := 5) rfl rfl (by decide) rfl (fun ls hl => ?_)
                    refine lv_goto (tgt := 37) hx hb dX5_timesOnRopes_77 (by decide) ?_
                    exact ih37 (x2h37 + 0) (s_X8_behind v.2.1 x4h37) (x5h37 + 1) (q_mu c6 hm37) hR _ _ _  hI (lv_sub hl [3, 4, 2, 5, 1, 0] rfl)
                  · rw [if_pos c8] at hR
                    refine lv_iconst (v := 1) hx hb dX5_timesOnRopes_56 (by decide) ?_
                    refine lv_goto (tgt := 61) hx hb dX5_timesOnRopes_57 (by decide) ?_
                    refine lv_iadd hx hb dX5_timesOnRopes_61 ?_
                    refine lv_istore_n (lv' := [(2, .int (x2h37 + 1)), (0, .ref a), (1, .int p1), (3, .int x3h4), (4, .int x4h37), (5, .int x5h37)]) hx hb dX5_timesOnRopes_62 rfl hl (by decide) rfl (fun ls hl => ?_)
                    refine lv_aload_n hx hb dX5_timesOnRopes_63 rfl (lv_at hl 1 rfl) ?_
                    refine q_get hx hb hg in_X5 hown hK hI hL0.1 rfl 1 (by decide) (hg _ wf_X5_21) (fun _ h9 => h9) rfl dX5_timesOnRopes_64 ?_
                    refine lv_iload hx hb dX5_timesOnRopes_67 (lv_at hl 4 rfl) ?_
                    refine q_goR (q_runV (As := [.int x4h37]) (rest := []) hx hb hml hown hg (c_X8_behind l D cs hL0.2.2.1 x4h37) v_X8_behind wl_X5_183 rfl rfl ⟨Nat.le_of_ble_eq_true rfl, Nat.le_of_ble_eq_true rfl⟩ hI hK 9 hL0.2.2.1.1 rfl hl.1 rfl rfl (Nat.le_of_ble_eq_true rfl) dX5_timesOnRopes_69 ⟨Nat.le_of_ble_eq_true rfl, Nat.le_of_ble_eq_true rfl⟩) hI (fun H locs hI => ?_)
                    refine lv_istore (lv' := [(4, .int (s_X8_behind v.2.1 x4h37)), (2, .int (x2h37 + 1)), (0, .ref a), (1, .int p1), (3, .int x3h4), (5, .int x5h37)]) hx hb dX5_timesOnRopes_72 hl (by decide) rfl (fun ls hl => ?_)
                    refine lv_iinc (v := x5h37 + 1) (lv' := [(5, .int (x5h37 + 1)), (4, .int (s_X8_behind v.2.1 x4h37)), (2, .int (x2h37 + 1)), (0, .ref a), (1, .int p1), (3, .int x3h4)]) hx hb dX5_timesOnRopes_74 hl (k := 5) rfl rfl (by decide) rfl (fun ls hl => ?_)
                    refine lv_goto (tgt := 37) hx hb dX5_timesOnRopes_77 (by decide) ?_
                    exact ih37 (x2h37 + 1) (s_X8_behind v.2.1 x4h37) (x5h37 + 1) (q_mu c6 hm37) hR _ _ _  hI (lv_sub hl [3, 4, 2, 5, 1, 0] rfl)
          exact loop37 _ x2h4 x3h4 0 (q_fuel _) hR _ _ _  hI (lv_sub hl [2, 3, 4, 5, 1, 0] rfl)
  exact loop4 _ 0 0 (q_fuel _) hR _ _ _  hI (lv_sub hl [2, 3, 1, 0] rfl)
def s_X5_areRopesWell_L2 (v : qQV) : Nat → Int32 → Bool
  | 0, _ => default
  | n + 1, x1h2 => (if v.1.2.2 ≤ x1h2 then true else (if (s_X8_ahead v.2.1 x1h2) < 0 then (if (s_X5_timesOnRopes v x1h2) = 1 then (s_X5_areRopesWell_L2 v n (x1h2 + 1)) else false) else (if (s_X1_holderOf v.1 x1h2) = (s_X8_ahead v.2.1 x1h2) then (if (s_X5_timesOnRopes v x1h2) = 1 then (s_X5_areRopesWell_L2 v n (x1h2 + 1)) else false) else false)))
def s_X5_areRopesWell (v : qQV)  : Bool := (s_X5_areRopesWell_L2 v (v.1.2.2.toInt.toNat + 1) 0)
set_option maxHeartbeats 4000000 in
set_option maxRecDepth 20000 in
theorem c_X5_areRopesWell (l : Launch) (D : va_G) (cs : qC) {M0 : qM} {N a : Nat} {v : qQV} (hL0 : qLQ cs M0 a v) :
    qMet l D cs yX5_areRopesWell (qws yX5_areRopesWell cX5_areRopesWell 3 (some .boolean)) ({ frames := 5, cells := 0, slots := 0, locals := 117 } : Room) M0 N [.ref a] (qRet M0 N (.int (qbi (s_X5_areRopesWell v)))) 0 0 := by
  obtain ⟨R, hR⟩ : ∃ R, s_X5_areRopesWell v = R := ⟨_, rfl⟩
  rw [hR]
  rw [s_X5_areRopesWell] at hR
  refine q_head (by decide) ?_ (Nat.le_of_ble_eq_true rfl)
  intro p e s m below meth c ls hx hb hret hlk hml hown hnm hg hK hN hI hl
  have hl : lv_has ls 3 [(0, .ref a)] := hl
  refine lv_iconst (v := 0) hx hb dX5_areRopesWell_0 (by decide) ?_
  refine lv_istore_n (lv' := [(1, .int 0), (0, .ref a)]) hx hb dX5_areRopesWell_1 rfl hl (by decide) rfl (fun ls hl => ?_)
  have loop2 : ∀ (n2 : Nat) (x1h2 : Int32), qmu v.1.2.2 x1h2 < n2 → s_X5_areRopesWell_L2 v n2 x1h2 = R → ∀ (H : Heap) (locs : List Loc) (ls : Array Slot), qI D M0 s.heap M0 N H locs → lv_has ls 3 [(0, .ref a), (1, .int x1h2)] →
      W p l e ({ frames := 5, cells := 0, slots := 0, locals := 117 } : Room) s m [Value.ref a].toArray below meth c H locs 0 0 (MQ below (qQ D M0 N (qRet M0 N (.int (qbi R)))) [Value.ref a].toArray s 0 0 (qA M0 N)) (F0 m 2 ls []) := by
    intro n2
    induction n2 with
    | zero => intro x1h2 hm; exact absurd hm (Nat.not_lt_zero _)
    | succ n2 ih2 =>
      intro x1h2 hm2 hR H locs ls  hI hl
      rw [s_X5_areRopesWell_L2] at hR
      refine lv_iload_n hx hb dX5_areRopesWell_2 rfl (lv_at hl 1 rfl) ?_
      refine lv_aload_n hx hb dX5_areRopesWell_3 rfl (lv_at hl 0 rfl) ?_
      refine q_get hx hb hg in_X5 hown hK hI hL0.1 rfl 0 (by decide) (hg _ wf_X5_12) (fun _ h9 => h9) rfl dX5_areRopesWell_4 ?_
      refine q_getN hx hb hg in_X1 hown hK hI hL0.2.1.1 rfl 2 (by decide) (hK.2 _ (List.mem_of_getElem? (i := 3) rfl)) (fun _ h9 => h9) rfl dX5_areRopesWell_7 ?_
      refine lv_icmp_ge (tgt := 57) hx hb dX5_areRopesWell_10 (by decide) (fun c1 => ?_) (fun c1 => ?_)
      · rw [if_pos c1] at hR
        refine lv_iconst (v := 1) hx hb dX5_areRopesWell_57 (by decide) ?_
        exact q_zret hx hb hret rfl hlk hN hI (by subst hR; exact ⟨rfl, rfl, rfl⟩) dX5_areRopesWell_58
      · rw [if_neg c1] at hR
        refine lv_aload_n hx hb dX5_areRopesWell_13 rfl (lv_at hl 0 rfl) ?_
        refine q_get hx hb hg in_X5 hown hK hI hL0.1 rfl 1 (by decide) (hg _ wf_X5_21) (fun _ h9 => h9) rfl dX5_areRopesWell_14 ?_
        refine lv_iload_n hx hb dX5_areRopesWell_17 rfl (lv_at hl 1 rfl) ?_
        refine q_goR (q_runV (As := [.int x1h2]) (rest := []) hx hb hml hown hg (c_X8_ahead l D cs hL0.2.2.1 x1h2) v_X8_ahead wl_X5_177 rfl rfl ⟨Nat.le_of_ble_eq_true rfl, Nat.le_of_ble_eq_true rfl⟩ hI hK 9 hL0.2.2.1.1 rfl hl.1 rfl rfl (Nat.le_of_ble_eq_true rfl) dX5_areRopesWell_18 ⟨Nat.le_of_ble_eq_true rfl, Nat.le_of_ble_eq_true rfl⟩) hI (fun H locs hI => ?_)
        refine lv_istore_n (lv' := [(2, .int (s_X8_ahead v.2.1 x1h2)), (0, .ref a), (1, .int x1h2)]) hx hb dX5_areRopesWell_21 rfl hl (by decide) rfl (fun ls hl => ?_)
        refine lv_iload_n hx hb dX5_areRopesWell_22 rfl (lv_at hl 0 rfl) ?_
        refine lv_if_lt (tgt := 40) hx hb dX5_areRopesWell_23 (by decide) (fun c2 => ?_) (fun c2 => ?_)
        · rw [if_pos c2] at hR
          refine lv_aload_n hx hb dX5_areRopesWell_40 rfl (lv_at hl 1 rfl) ?_
          refine lv_iload_n hx hb dX5_areRopesWell_41 rfl (lv_at hl 2 rfl) ?_
          refine q_goR (q_runV (As := [.int x1h2]) (rest := []) hx hb hml hown hg (c_X5_timesOnRopes l D cs hL0 x1h2) v_X5_timesOnRopes wl_X5_180 rfl rfl ⟨Nat.le_of_ble_eq_true rfl, Nat.le_of_ble_eq_true rfl⟩ hI hK 6 hL0.1 rfl hl.1 rfl rfl (Nat.le_of_ble_eq_true rfl) dX5_areRopesWell_42 ⟨Nat.le_of_ble_eq_true rfl, Nat.le_of_ble_eq_true rfl⟩) hI (fun H locs hI => ?_)
          refine lv_iconst (v := 1) hx hb dX5_areRopesWell_45 (by decide) ?_
          refine lv_icmp_eq (tgt := 51) hx hb dX5_areRopesWell_46 (by decide) (fun c3 => ?_) (fun c3 => ?_)
          · rw [if_pos c3] at hR
            refine lv_iinc (v := x1h2 + 1) (lv' := [(1, .int (x1h2 + 1)), (2, .int (s_X8_ahead v.2.1 x1h2)), (0, .ref a)]) hx hb dX5_areRopesWell_51 hl (k := 2) rfl rfl (by decide) rfl (fun ls hl => ?_)
            refine lv_goto (tgt := 2) hx hb dX5_areRopesWell_54 (by decide) ?_
            exact ih2 (x1h2 + 1) (q_mu c1 hm2) hR _ _ _  hI (lv_sub hl [2, 0] rfl)
          · rw [if_neg c3] at hR
            refine lv_iconst (v := 0) hx hb dX5_areRopesWell_49 (by decide) ?_
            exact q_zret hx hb hret rfl hlk hN hI (by subst hR; exact ⟨rfl, rfl, rfl⟩) dX5_areRopesWell_50
        · rw [if_neg c2] at hR
          refine lv_aload_n hx hb dX5_areRopesWell_26 rfl (lv_at hl 1 rfl) ?_
          refine q_get hx hb hg in_X5 hown hK hI hL0.1 rfl 0 (by decide) (hg _ wf_X5_12) (fun _ h9 => h9) rfl dX5_areRopesWell_27 ?_
          refine lv_iload_n hx hb dX5_areRopesWell_30 rfl (lv_at hl 2 rfl) ?_
          refine q_goR (q_runV (As := [.int x1h2]) (rest := []) hx hb hml hown hg (c_X1_holderOf l D cs hL0.2.1 x1h2) v_X1_holderOf wl_X5_78 rfl rfl ⟨Nat.le_of_ble_eq_true rfl, Nat.le_of_ble_eq_true rfl⟩ hI hK 2 hL0.2.1.1 rfl hl.1 rfl rfl (Nat.le_of_ble_eq_true rfl) dX5_areRopesWell_31 ⟨Nat.le_of_ble_eq_true rfl, Nat.le_of_ble_eq_true rfl⟩) hI (fun H locs hI => ?_)
          refine lv_iload_n hx hb dX5_areRopesWell_34 rfl (lv_at hl 0 rfl) ?_
          refine lv_icmp_eq (tgt := 40) hx hb dX5_areRopesWell_35 (by decide) (fun c4 => ?_) (fun c4 => ?_)
          · rw [if_pos c4] at hR
            refine lv_aload_n hx hb dX5_areRopesWell_40 rfl (lv_at hl 1 rfl) ?_
            refine lv_iload_n hx hb dX5_areRopesWell_41 rfl (lv_at hl 2 rfl) ?_
            refine q_goR (q_runV (As := [.int x1h2]) (rest := []) hx hb hml hown hg (c_X5_timesOnRopes l D cs hL0 x1h2) v_X5_timesOnRopes wl_X5_180 rfl rfl ⟨Nat.le_of_ble_eq_true rfl, Nat.le_of_ble_eq_true rfl⟩ hI hK 6 hL0.1 rfl hl.1 rfl rfl (Nat.le_of_ble_eq_true rfl) dX5_areRopesWell_42 ⟨Nat.le_of_ble_eq_true rfl, Nat.le_of_ble_eq_true rfl⟩) hI (fun H locs hI => ?_)
            refine lv_iconst (v := 1) hx hb dX5_areRopesWell_45 (by decide) ?_
            refine lv_icmp_eq (tgt := 51) hx hb dX5_areRopesWell_46 (by decide) (fun c5 => ?_) (fun c5 => ?_)
            · rw [if_pos c5] at hR
              refine lv_iinc (v := x1h2 + 1) (lv' := [(1, .int (x1h2 + 1)), (2, .int (s_X8_ahead v.2.1 x1h2)), (0, .ref a)]) hx hb dX5_areRopesWell_51 hl (k := 2) rfl rfl (by decide) rfl (fun ls hl => ?_)
              refine lv_goto (tgt := 2) hx hb dX5_areRopesWell_54 (by decide) ?_
              exact ih2 (x1h2 + 1) (q_mu c1 hm2) hR _ _ _  hI (lv_sub hl [2, 0] rfl)
            · rw [if_neg c5] at hR
              refine lv_iconst (v := 0) hx hb dX5_areRopesWell_49 (by decide) ?_
              exact q_zret hx hb hret rfl hlk hN hI (by subst hR; exact ⟨rfl, rfl, rfl⟩) dX5_areRopesWell_50
          · rw [if_neg c4] at hR
            refine lv_iconst (v := 0) hx hb dX5_areRopesWell_38 (by decide) ?_
            exact q_zret hx hb hret rfl hlk hN hI (by subst hR; exact ⟨rfl, rfl, rfl⟩) dX5_areRopesWell_39
  exact loop2 _ 0 (q_fuel _) hR _ _ _  hI (lv_sub hl [1, 0] rfl)
end
section
def s_X1_takeOver (v : qBV) (u : qBV)  : qBV := (u.1, u.2.1, u.2.2)
set_option maxHeartbeats 4000000 in
set_option maxRecDepth 20000 in
theorem c_X1_takeOver (l : Launch) (D : va_G) (cs : qC) {M0 : qM} {N a b : Nat} {v : qBV} {u : qBV} (hL0 : qLB cs M0 a v) (hL1 : qLB cs M0 b u) (hd0 : a + 3 ≤ b ∨ b + 3 ≤ a) :
    qMet l D cs yX1_takeOver (qws yX1_takeOver cX1_takeOver 2 none) ({ frames := 2, cells := 0, slots := 0, locals := 43 } : Room) M0 N [.ref a, .ref b] (qMod N none (fun M' => qLB cs M' a (s_X1_takeOver v u) ∧ qFr (qIn a 3) M0 M')) 0 0 := by
  obtain ⟨R, hR⟩ : ∃ R, s_X1_takeOver v u = R := ⟨_, rfl⟩
  rw [hR]
  rw [s_X1_takeOver] at hR
  refine q_head (by decide) ?_ (Nat.le_of_ble_eq_true rfl)
  intro p e s m below meth c ls hx hb hret hlk hml hown hnm hg hK hN hI hl
  have hl : lv_has ls 2 [(0, .ref a), (1, .ref b)] := hl
  have hS : qFr (qIn a 3) M0 M0 := qFr.rf
  refine lv_aload_n hx hb dX1_takeOver_0 rfl (lv_at hl 1 rfl) ?_
  refine q_get hx hb hg in_X1 hown hK hI hL1.1 rfl 0 (by decide) (hg _ wf_X1_9) (fun _ h9 => h9) rfl dX1_takeOver_1 ?_
  refine lv_aload_n hx hb dX1_takeOver_4 rfl (lv_at hl 0 rfl) ?_
  refine q_get hx hb hg in_X1 hown hK hI hL0.1 rfl 0 (by decide) (hg _ wf_X1_9) (fun _ h9 => h9) rfl dX1_takeOver_5 ?_
  refine q_goN (q_runSN (As := [.ref (b + 1), .ref (a + 1)]) (rest := []) hx hb hml hown hg (c_X10_copyRow l D cs hL1.2.1 hL0.2.1 (by omega)) v_X10_copyRow (hK.2 _ (List.mem_of_getElem? (i := 29) rfl)) rfl rfl ⟨Nat.le_of_ble_eq_true rfl, Nat.le_of_ble_eq_true rfl⟩ hI hK hl.1 rfl rfl (Nat.le_of_ble_eq_true rfl) dX1_takeOver_8 ⟨Nat.le_of_ble_eq_true rfl, Nat.le_of_ble_eq_true rfl⟩) hI (fun M H locs hp hI => ?_)
  obtain ⟨hn1, hF⟩ := hp
  have hn := hn1
  have hn : qLB cs M a (u.1, v.2.1, v.2.2) := qLB.s0 (v := v) hL0 hn (qFr.rf.tr hF (fun q hq => by omega))
  have hL0 := hn
  have hL1 := hL1.fr hF (fun q h1 h2 hq => by omega)
  have hS := hS.tr hF (fun q hq => by omega)
  refine lv_aload_n hx hb dX1_takeOver_11 rfl (lv_at hl 1 rfl) ?_
  refine q_get hx hb hg in_X1 hown hK hI hL1.1 rfl 1 (by decide) (hg _ wf_X1_15) (fun _ h9 => h9) rfl dX1_takeOver_12 ?_
  refine lv_aload_n hx hb dX1_takeOver_15 rfl (lv_at hl 0 rfl) ?_
  refine q_get hx hb hg in_X1 hown hK hI hL0.1 rfl 1 (by decide) (hg _ wf_X1_15) (fun _ h9 => h9) rfl dX1_takeOver_16 ?_
  refine q_goN (q_runSN (As := [.ref (b + 2), .ref (a + 2)]) (rest := []) hx hb hml hown hg (c_X10_copyRow l D cs hL1.2.2 hL0.2.2 (by omega)) v_X10_copyRow (hK.2 _ (List.mem_of_getElem? (i := 29) rfl)) rfl rfl ⟨Nat.le_of_ble_eq_true rfl, Nat.le_of_ble_eq_true rfl⟩ hI hK hl.1 rfl rfl (Nat.le_of_ble_eq_true rfl) dX1_takeOver_19 ⟨Nat.le_of_ble_eq_true rfl, Nat.le_of_ble_eq_true rfl⟩) hI (fun M H locs hp hI => ?_)
  obtain ⟨hn1, hF⟩ := hp
  have hn := hn1
  have hn : qLB cs M a (u.1, u.2.1, v.2.2) := qLB.s1 (v := (u.1, v.2.1, v.2.2)) hL0 hn (qFr.rf.tr hF (fun q hq => by omega))
  have hL0 := hn
  have hL1 := hL1.fr hF (fun q h1 h2 hq => by omega)
  have hS := hS.tr hF (fun q hq => by omega)
  refine lv_aload_n hx hb dX1_takeOver_22 rfl (lv_at hl 0 rfl) ?_
  refine lv_aload_n hx hb dX1_takeOver_23 rfl (lv_at hl 1 rfl) ?_
  refine q_get hx hb hg in_X1 hown hK hI hL1.1 rfl 2 (by decide) (hg _ wf_X1_18) (fun _ h9 => h9) rfl dX1_takeOver_24 ?_
  have hn := qLB.i2 u.2.2 hL0
  refine q_put (v := .int u.2.2) hx hb hg in_X1 tyX1_ok nmX1 hown hK hI hL0.1 rfl 2 (by decide) (hg _ wf_X1_18) (fun _ h9 => h9) rfl rfl rfl (Nat.le_of_ble_eq_true rfl) dX1_takeOver_27 (fun H locs hI => ?_)
  obtain ⟨M, hn, hF, hI⟩ : ∃ Mx : qM, qLB cs Mx a (u.1, u.2.1, u.2.2) ∧ qFr (qIn a 1) M Mx ∧ qI D M0 s.heap Mx N H locs := ⟨_, hn, qFr.up (by decide), hI⟩
  have hL0 := hn
  have hL1 := hL1.fr hF (fun q h1 h2 hq => by omega)
  have hS := hS.tr hF (fun q hq => by omega)
  exact q_vret (st := []) hx hb hret hlk hN hI (by subst hR; exact ⟨rfl, ⟨hL0, hS⟩, rfl⟩) dX1_takeOver_30
def s_X8_takeOver (v : qTV) (u : qTV)  : qTV := (u.1, u.2.1, u.2.2.1, u.2.2.2)
set_option maxHeartbeats 4000000 in
set_option maxRecDepth 20000 in
theorem c_X8_takeOver (l : Launch) (D : va_G) (cs : qC) {M0 : qM} {N a b : Nat} {v : qTV} {u : qTV} (hL0 : qLT cs M0 a v) (hL1 : qLT cs M0 b u) (hd0 : a + 4 ≤ b ∨ b + 4 ≤ a) :
    qMet l D cs yX8_takeOver (qws yX8_takeOver cX8_takeOver 2 none) ({ frames := 2, cells := 0, slots := 0, locals := 43 } : Room) M0 N [.ref a, .ref b] (qMod N none (fun M' => qLT cs M' a (s_X8_takeOver v u) ∧ qFr (qIn a 4) M0 M')) 0 0 := by
  obtain ⟨R, hR⟩ : ∃ R, s_X8_takeOver v u = R := ⟨_, rfl⟩
  rw [hR]
  rw [s_X8_takeOver] at hR
  refine q_head (by decide) ?_ (Nat.le_of_ble_eq_true rfl)
  intro p e s m below meth c ls hx hb hret hlk hml hown hnm hg hK hN hI hl
  have hl : lv_has ls 2 [(0, .ref a), (1, .ref b)] := hl
  have hS : qFr (qIn a 4) M0 M0 := qFr.rf
  refine lv_aload_n hx hb dX8_takeOver_0 rfl (lv_at hl 1 rfl) ?_
  refine q_get hx hb hg in_X8 hown hK hI hL1.1 rfl 0 (by decide) (hg _ wf_X8_9) (fun _ h9 => h9) rfl dX8_takeOver_1 ?_
  refine lv_aload_n hx hb dX8_takeOver_4 rfl (lv_at hl 0 rfl) ?_
  refine q_get hx hb hg in_X8 hown hK hI hL0.1 rfl 0 (by decide) (hg _ wf_X8_9) (fun _ h9 => h9) rfl dX8_takeOver_5 ?_
  refine q_goN (q_runSN (As := [.ref (b + 1), .ref (a + 1)]) (rest := []) hx hb hml hown hg (c_X10_copyRow l D cs hL1.2.1 hL0.2.1 (by omega)) v_X10_copyRow (hK.2 _ (List.mem_of_getElem? (i := 30) rfl)) rfl rfl ⟨Nat.le_of_ble_eq_true rfl, Nat.le_of_ble_eq_true rfl⟩ hI hK hl.1 rfl rfl (Nat.le_of_ble_eq_true rfl) dX8_takeOver_8 ⟨Nat.le_of_ble_eq_true rfl, Nat.le_of_ble_eq_true rfl⟩) hI (fun M H locs hp hI => ?_)
  obtain ⟨hn1, hF⟩ := hp
  have hn := hn1
  have hn : qLT cs M a (u.1, v.2.1, v.2.2.1, v.2.2.2) := qLT.s0 (v := v) hL0 hn (qFr.rf.tr hF (fun q hq => by omega))
  have hL0 := hn
  have hL1 := hL1.fr hF (fun q h1 h2 hq => by omega)
  have hS := hS.tr hF (fun q hq => by omega)
  refine lv_aload_n hx hb dX8_takeOver_11 rfl (lv_at hl 1 rfl) ?_
  refine q_get hx hb hg in_X8 hown hK hI hL1.1 rfl 1 (by decide) (hg _ wf_X8_15) (fun _ h9 => h9) rfl dX8_takeOver_12 ?_
  refine lv_aload_n hx hb dX8_takeOver_15 rfl (lv_at hl 0 rfl) ?_
  refine q_get hx hb hg in_X8 hown hK hI hL0.1 rfl 1 (by decide) (hg _ wf_X8_15) (fun _ h9 => h9) rfl dX8_takeOver_16 ?_
  refine q_goN (q_runSN (As := [.ref (b + 2), .ref (a + 2)]) (rest := []) hx hb hml hown hg (c_X10_copyRow l D cs hL1.2.2.1 hL0.2.2.1 (by omega)) v_X10_copyRow (hK.2 _ (List.mem_of_getElem? (i := 30) rfl)) rfl rfl ⟨Nat.le_of_ble_eq_true rfl, Nat.le_of_ble_eq_true rfl⟩ hI hK hl.1 rfl rfl (Nat.le_of_ble_eq_true rfl) dX8_takeOver_19 ⟨Nat.le_of_ble_eq_true rfl, Nat.le_of_ble_eq_true rfl⟩) hI (fun M H locs hp hI => ?_)
  obtain ⟨hn1, hF⟩ := hp
  have hn := hn1
  have hn : qLT cs M a (u.1, u.2.1, v.2.2.1, v.2.2.2) := qLT.s1 (v := (u.1, v.2.1, v.2.2.1, v.2.2.2)) hL0 hn (qFr.rf.tr hF (fun q hq => by omega))
  have hL0 := hn
  have hL1 := hL1.fr hF (fun q h1 h2 hq => by omega)
  have hS := hS.tr hF (fun q hq => by omega)
  refine lv_aload_n hx hb dX8_takeOver_22 rfl (lv_at hl 1 rfl) ?_
  refine q_get hx hb hg in_X8 hown hK hI hL1.1 rfl 2 (by decide) (hg _ wf_X8_18) (fun _ h9 => h9) rfl dX8_takeOver_23 ?_
  refine lv_aload_n hx hb dX8_takeOver_26 rfl (lv_at hl 0 rfl) ?_
  refine q_get hx hb hg in_X8 hown hK hI hL0.1 rfl 2 (by decide) (hg _ wf_X8_18) (fun _ h9 => h9) rfl dX8_takeOver_27 ?_
  refine q_goN (q_runSN (As := [.ref (b + 3), .ref (a + 3)]) (rest := []) hx hb hml hown hg (c_X10_copyRow l D cs hL1.2.2.2 hL0.2.2.2 (by omega)) v_X10_copyRow (hK.2 _ (List.mem_of_getElem? (i := 30) rfl)) rfl rfl ⟨Nat.le_of_ble_eq_true rfl, Nat.le_of_ble_eq_true rfl⟩ hI hK hl.1 rfl rfl (Nat.le_of_ble_eq_true rfl) dX8_takeOver_30 ⟨Nat.le_of_ble_eq_true rfl, Nat.le_of_ble_eq_true rfl⟩) hI (fun M H locs hp hI => ?_)
  obtain ⟨hn1, hF⟩ := hp
  have hn := hn1
  have hn : qLT cs M a (u.1, u.2.1, u.2.2.1, v.2.2.2) := qLT.s2 (v := (u.1, u.2.1, v.2.2.1, v.2.2.2)) hL0 hn (qFr.rf.tr hF (fun q hq => by omega))
  have hL0 := hn
  have hL1 := hL1.fr hF (fun q h1 h2 hq => by omega)
  have hS := hS.tr hF (fun q hq => by omega)
  refine lv_aload_n hx hb dX8_takeOver_33 rfl (lv_at hl 0 rfl) ?_
  refine lv_aload_n hx hb dX8_takeOver_34 rfl (lv_at hl 1 rfl) ?_
  refine q_get hx hb hg in_X8 hown hK hI hL1.1 rfl 3 (by decide) (hg _ wf_X8_21) (fun _ h9 => h9) rfl dX8_takeOver_35 ?_
  have hn := qLT.i3 u.2.2.2 hL0
  refine q_put (v := .int u.2.2.2) hx hb hg in_X8 tyX8_ok nmX8 hown hK hI hL0.1 rfl 3 (by decide) (hg _ wf_X8_21) (fun _ h9 => h9) rfl rfl rfl (Nat.le_of_ble_eq_true rfl) dX8_takeOver_38 (fun H locs hI => ?_)
  obtain ⟨M, hn, hF, hI⟩ : ∃ Mx : qM, qLT cs Mx a (u.1, u.2.1, u.2.2.1, u.2.2.2) ∧ qFr (qIn a 1) M Mx ∧ qI D M0 s.heap Mx N H locs := ⟨_, hn, qFr.up (by decide), hI⟩
  have hL0 := hn
  have hL1 := hL1.fr hF (fun q h1 h2 hq => by omega)
  have hS := hS.tr hF (fun q hq => by omega)
  exact q_vret (st := []) hx hb hret hlk hN hI (by subst hR; exact ⟨rfl, ⟨hL0, hS⟩, rfl⟩) dX8_takeOver_41
def s_X7_takeOver (v : qSV) (u : qSV)  : qSV := (u.1, u.2.1, u.2.2.1, u.2.2.2.1, u.2.2.2.2)
set_option maxHeartbeats 4000000 in
set_option maxRecDepth 20000 in
theorem c_X7_takeOver (l : Launch) (D : va_G) (cs : qC) {M0 : qM} {N a b : Nat} {v : qSV} {u : qSV} (hL0 : qLS cs M0 a v) (hL1 : qLS cs M0 b u) (hd0 : a + 5 ≤ b ∨ b + 5 ≤ a) :
    qMet l D cs yX7_takeOver (qws yX7_takeOver cX7_takeOver 2 none) ({ frames := 2, cells := 0, slots := 0, locals := 43 } : Room) M0 N [.ref a, .ref b] (qMod N none (fun M' => qLS cs M' a (s_X7_takeOver v u) ∧ qFr (qIn a 5) M0 M')) 0 0 := by
  obtain ⟨R, hR⟩ : ∃ R, s_X7_takeOver v u = R := ⟨_, rfl⟩
  rw [hR]
  rw [s_X7_takeOver] at hR
  refine q_head (by decide) ?_ (Nat.le_of_ble_eq_true rfl)
  intro p e s m below meth c ls hx hb hret hlk hml hown hnm hg hK hN hI hl
  have hl : lv_has ls 2 [(0, .ref a), (1, .ref b)] := hl
  have hS : qFr (qIn a 5) M0 M0 := qFr.rf
  refine lv_aload_n hx hb dX7_takeOver_0 rfl (lv_at hl 1 rfl) ?_
  refine q_get hx hb hg in_X7 hown hK hI hL1.1 rfl 0 (by decide) (hg _ wf_X7_9) (fun _ h9 => h9) rfl dX7_takeOver_1 ?_
  refine lv_aload_n hx hb dX7_takeOver_4 rfl (lv_at hl 0 rfl) ?_
  refine q_get hx hb hg in_X7 hown hK hI hL0.1 rfl 0 (by decide) (hg _ wf_X7_9) (fun _ h9 => h9) rfl dX7_takeOver_5 ?_
  refine q_goN (q_runSN (As := [.ref (b + 1), .ref (a + 1)]) (rest := []) hx hb hml hown hg (c_X10_copyRow l D cs hL1.2.1 hL0.2.1 (by omega)) v_X10_copyRow (hK.2 _ (List.mem_of_getElem? (i := 31) rfl)) rfl rfl ⟨Nat.le_of_ble_eq_true rfl, Nat.le_of_ble_eq_true rfl⟩ hI hK hl.1 rfl rfl (Nat.le_of_ble_eq_true rfl) dX7_takeOver_8 ⟨Nat.le_of_ble_eq_true rfl, Nat.le_of_ble_eq_true rfl⟩) hI (fun M H locs hp hI => ?_)
  obtain ⟨hn1, hF⟩ := hp
  have hn := hn1
  have hn : qLS cs M a (u.1, v.2.1, v.2.2.1, v.2.2.2.1, v.2.2.2.2) := qLS.s0 (v := v) hL0 hn (qFr.rf.tr hF (fun q hq => by omega))
  have hL0 := hn
  have hL1 := hL1.fr hF (fun q h1 h2 hq => by omega)
  have hS := hS.tr hF (fun q hq => by omega)
  refine lv_aload_n hx hb dX7_takeOver_11 rfl (lv_at hl 1 rfl) ?_
  refine q_get hx hb hg in_X7 hown hK hI hL1.1 rfl 1 (by decide) (hg _ wf_X7_15) (fun _ h9 => h9) rfl dX7_takeOver_12 ?_
  refine lv_aload_n hx hb dX7_takeOver_15 rfl (lv_at hl 0 rfl) ?_
  refine q_get hx hb hg in_X7 hown hK hI hL0.1 rfl 1 (by decide) (hg _ wf_X7_15) (fun _ h9 => h9) rfl dX7_takeOver_16 ?_
  refine q_goN (q_runSN (As := [.ref (b + 2), .ref (a + 2)]) (rest := []) hx hb hml hown hg (c_X10_copyRow l D cs hL1.2.2.1 hL0.2.2.1 (by omega)) v_X10_copyRow (hK.2 _ (List.mem_of_getElem? (i := 31) rfl)) rfl rfl ⟨Nat.le_of_ble_eq_true rfl, Nat.le_of_ble_eq_true rfl⟩ hI hK hl.1 rfl rfl (Nat.le_of_ble_eq_true rfl) dX7_takeOver_19 ⟨Nat.le_of_ble_eq_true rfl, Nat.le_of_ble_eq_true rfl⟩) hI (fun M H locs hp hI => ?_)
  obtain ⟨hn1, hF⟩ := hp
  have hn := hn1
  have hn : qLS cs M a (u.1, u.2.1, v.2.2.1, v.2.2.2.1, v.2.2.2.2) := qLS.s1 (v := (u.1, v.2.1, v.2.2.1, v.2.2.2.1, v.2.2.2.2)) hL0 hn (qFr.rf.tr hF (fun q hq => by omega))
  have hL0 := hn
  have hL1 := hL1.fr hF (fun q h1 h2 hq => by omega)
  have hS := hS.tr hF (fun q hq => by omega)
  refine lv_aload_n hx hb dX7_takeOver_22 rfl (lv_at hl 1 rfl) ?_
  refine q_get hx hb hg in_X7 hown hK hI hL1.1 rfl 2 (by decide) (hg _ wf_X7_18) (fun _ h9 => h9) rfl dX7_takeOver_23 ?_
  refine lv_aload_n hx hb dX7_takeOver_26 rfl (lv_at hl 0 rfl) ?_
  refine q_get hx hb hg in_X7 hown hK hI hL0.1 rfl 2 (by decide) (hg _ wf_X7_18) (fun _ h9 => h9) rfl dX7_takeOver_27 ?_
  refine q_goN (q_runSN (As := [.ref (b + 3), .ref (a + 3)]) (rest := []) hx hb hml hown hg (c_X10_copyRow l D cs hL1.2.2.2.1 hL0.2.2.2.1 (by omega)) v_X10_copyRow (hK.2 _ (List.mem_of_getElem? (i := 31) rfl)) rfl rfl ⟨Nat.le_of_ble_eq_true rfl, Nat.le_of_ble_eq_true rfl⟩ hI hK hl.1 rfl rfl (Nat.le_of_ble_eq_true rfl) dX7_takeOver_30 ⟨Nat.le_of_ble_eq_true rfl, Nat.le_of_ble_eq_true rfl⟩) hI (fun M H locs hp hI => ?_)
  obtain ⟨hn1, hF⟩ := hp
  have hn := hn1
  have hn : qLS cs M a (u.1, u.2.1, u.2.2.1, v.2.2.2.1, v.2.2.2.2) := qLS.s2 (v := (u.1, u.2.1, v.2.2.1, v.2.2.2.1, v.2.2.2.2)) hL0 hn (qFr.rf.tr hF (fun q hq => by omega))
  have hL0 := hn
  have hL1 := hL1.fr hF (fun q h1 h2 hq => by omega)
  have hS := hS.tr hF (fun q hq => by omega)
  refine lv_aload_n hx hb dX7_takeOver_33 rfl (lv_at hl 1 rfl) ?_
  refine q_get hx hb hg in_X7 hown hK hI hL1.1 rfl 3 (by decide) (hg _ wf_X7_21) (fun _ h9 => h9) rfl dX7_takeOver_34 ?_
  refine lv_aload_n hx hb dX7_takeOver_37 rfl (lv_at hl 0 rfl) ?_
  refine q_get hx hb hg in_X7 hown hK hI hL0.1 rfl 3 (by decide) (hg _ wf_X7_21) (fun _ h9 => h9) rfl dX7_takeOver_38 ?_
  refine q_goN (q_runSN (As := [.ref (b + 4), .ref (a + 4)]) (rest := []) hx hb hml hown hg (c_X10_copyRow l D cs hL1.2.2.2.2 hL0.2.2.2.2 (by omega)) v_X10_copyRow (hK.2 _ (List.mem_of_getElem? (i := 31) rfl)) rfl rfl ⟨Nat.le_of_ble_eq_true rfl, Nat.le_of_ble_eq_true rfl⟩ hI hK hl.1 rfl rfl (Nat.le_of_ble_eq_true rfl) dX7_takeOver_41 ⟨Nat.le_of_ble_eq_true rfl, Nat.le_of_ble_eq_true rfl⟩) hI (fun M H locs hp hI => ?_)
  obtain ⟨hn1, hF⟩ := hp
  have hn := hn1
  have hn : qLS cs M a (u.1, u.2.1, u.2.2.1, u.2.2.2.1, v.2.2.2.2) := qLS.s3 (v := (u.1, u.2.1, u.2.2.1, v.2.2.2.1, v.2.2.2.2)) hL0 hn (qFr.rf.tr hF (fun q hq => by omega))
  have hL0 := hn
  have hL1 := hL1.fr hF (fun q h1 h2 hq => by omega)
  have hS := hS.tr hF (fun q hq => by omega)
  refine lv_aload_n hx hb dX7_takeOver_44 rfl (lv_at hl 0 rfl) ?_
  refine lv_aload_n hx hb dX7_takeOver_45 rfl (lv_at hl 1 rfl) ?_
  refine q_get hx hb hg in_X7 hown hK hI hL1.1 rfl 4 (by decide) (hg _ wf_X7_24) (fun _ h9 => h9) rfl dX7_takeOver_46 ?_
  have hn := qLS.i4 u.2.2.2.2 hL0
  refine q_put (v := .int u.2.2.2.2) hx hb hg in_X7 tyX7_ok nmX7 hown hK hI hL0.1 rfl 4 (by decide) (hg _ wf_X7_24) (fun _ h9 => h9) rfl rfl rfl (Nat.le_of_ble_eq_true rfl) dX7_takeOver_49 (fun H locs hI => ?_)
  obtain ⟨M, hn, hF, hI⟩ : ∃ Mx : qM, qLS cs Mx a (u.1, u.2.1, u.2.2.1, u.2.2.2.1, u.2.2.2.2) ∧ qFr (qIn a 1) M Mx ∧ qI D M0 s.heap Mx N H locs := ⟨_, hn, qFr.up (by decide), hI⟩
  have hL0 := hn
  have hL1 := hL1.fr hF (fun q h1 h2 hq => by omega)
  have hS := hS.tr hF (fun q hq => by omega)
  exact q_vret (st := []) hx hb hret hlk hN hI (by subst hR; exact ⟨rfl, ⟨hL0, hS⟩, rfl⟩) dX7_takeOver_52
def s_X5_takeOver (v : qQV) (u : qQV)  : qQV := ((s_X1_takeOver v.1 u.1), (s_X8_takeOver v.2.1 u.2.1), (s_X7_takeOver v.2.2.1 u.2.2.1), u.2.2.2.1, u.2.2.2.2.1, u.2.2.2.2.2)
set_option maxHeartbeats 4000000 in
set_option maxRecDepth 20000 in
theorem c_X5_takeOver (l : Launch) (D : va_G) (cs : qC) {M0 : qM} {N a b : Nat} {v : qQV} {u : qQV} (hL0 : qLQ cs M0 a v) (hL1 : qLQ cs M0 b u) (hd0 : a + 13 ≤ b ∨ b + 13 ≤ a) :
    qMet l D cs yX5_takeOver (qws yX5_takeOver cX5_takeOver 2 none) ({ frames := 3, cells := 0, slots := 0, locals := 64 } : Room) M0 N [.ref a, .ref b] (qMod N none (fun M' => qLQ cs M' a (s_X5_takeOver v u) ∧ qFr (qIn a 13) M0 M')) 0 0 := by
  obtain ⟨R, hR⟩ : ∃ R, s_X5_takeOver v u = R := ⟨_, rfl⟩
  rw [hR]
  rw [s_X5_takeOver] at hR
  refine q_head (by decide) ?_ (Nat.le_of_ble_eq_true rfl)
  intro p e s m below meth c ls hx hb hret hlk hml hown hnm hg hK hN hI hl
  have hl : lv_has ls 2 [(0, .ref a), (1, .ref b)] := hl
  have hS : qFr (qIn a 13) M0 M0 := qFr.rf
  refine lv_aload_n hx hb dX5_takeOver_0 rfl (lv_at hl 1 rfl) ?_
  refine lv_ifnonnull (tgt := 5) hx hb dX5_takeOver_1 (by decide) ?_
  refine lv_aload_n hx hb dX5_takeOver_5 rfl (lv_at hl 0 rfl) ?_
  refine q_get hx hb hg in_X5 hown hK hI hL0.1 rfl 0 (by decide) (hg _ wf_X5_12) (fun _ h9 => h9) rfl dX5_takeOver_6 ?_
  refine lv_aload_n hx hb dX5_takeOver_9 rfl (lv_at hl 1 rfl) ?_
  refine q_get hx hb hg in_X5 hown hK hI hL1.1 rfl 0 (by decide) (hg _ wf_X5_12) (fun _ h9 => h9) rfl dX5_takeOver_10 ?_
  refine q_goN (q_runV (As := [.ref (b + 1)]) (rest := []) hx hb hml hown hg (c_X1_takeOver l D cs hL0.2.1 hL1.2.1 (by omega)) v_X1_takeOver wl_X5_48 rfl rfl ⟨Nat.le_of_ble_eq_true rfl, Nat.le_of_ble_eq_true rfl⟩ hI hK 2 hL0.2.1.1 rfl hl.1 rfl rfl (Nat.le_of_ble_eq_true rfl) dX5_takeOver_13 ⟨Nat.le_of_ble_eq_true rfl, Nat.le_of_ble_eq_true rfl⟩) hI (fun M H locs hp hI => ?_)
  obtain ⟨hn0, hF⟩ := hp
  generalize heg1 : s_X1_takeOver v.1 u.1 = g1 at hn0 hR
  have hn := hn0
  have hn : qLQ cs M a (g1, v.2.1, v.2.2.1, v.2.2.2.1, v.2.2.2.2.1, v.2.2.2.2.2) := qLQ.s0 (v := v) hL0 hn (qFr.rf.tr hF (fun q hq => by omega))
  have hL0 := hn
  have hL1 := hL1.fr hF (fun q h1 h2 hq => by omega)
  have hS := hS.tr hF (fun q hq => by omega)
  refine lv_aload_n hx hb dX5_takeOver_16 rfl (lv_at hl 0 rfl) ?_
  refine q_get hx hb hg in_X5 hown hK hI hL0.1 rfl 1 (by decide) (hg _ wf_X5_21) (fun _ h9 => h9) rfl dX5_takeOver_17 ?_
  refine lv_aload_n hx hb dX5_takeOver_20 rfl (lv_at hl 1 rfl) ?_
  refine q_get hx hb hg in_X5 hown hK hI hL1.1 rfl 1 (by decide) (hg _ wf_X5_21) (fun _ h9 => h9) rfl dX5_takeOver_21 ?_
  refine q_goN (q_runV (As := [.ref (b + 4)]) (rest := []) hx hb hml hown hg (c_X8_takeOver l D cs hL0.2.2.1 hL1.2.2.1 (by omega)) v_X8_takeOver wl_X5_52 rfl rfl ⟨Nat.le_of_ble_eq_true rfl, Nat.le_of_ble_eq_true rfl⟩ hI hK 9 hL0.2.2.1.1 rfl hl.1 rfl rfl (Nat.le_of_ble_eq_true rfl) dX5_takeOver_24 ⟨Nat.le_of_ble_eq_true rfl, Nat.le_of_ble_eq_true rfl⟩) hI (fun M H locs hp hI => ?_)
  obtain ⟨hn0, hF⟩ := hp
  generalize heg2 : s_X8_takeOver v.2.1 u.2.1 = g2 at hn0 hR
  have hn := hn0
  have hn : qLQ cs M a (g1, g2, v.2.2.1, v.2.2.2.1, v.2.2.2.2.1, v.2.2.2.2.2) := qLQ.s1 (v := (g1, v.2.1, v.2.2.1, v.2.2.2.1, v.2.2.2.2.1, v.2.2.2.2.2)) hL0 hn (qFr.rf.tr hF (fun q hq => by omega))
  have hL0 := hn
  have hL1 := hL1.fr hF (fun q h1 h2 hq => by omega)
  have hS := hS.tr hF (fun q hq => by omega)
  refine lv_aload_n hx hb dX5_takeOver_27 rfl (lv_at hl 0 rfl) ?_
  refine q_get hx hb hg in_X5 hown hK hI hL0.1 rfl 2 (by decide) (hg _ wf_X5_28) (fun _ h9 => h9) rfl dX5_takeOver_28 ?_
  refine lv_aload_n hx hb dX5_takeOver_31 rfl (lv_at hl 1 rfl) ?_
  refine q_get hx hb hg in_X5 hown hK hI hL1.1 rfl 2 (by decide) (hg _ wf_X5_28) (fun _ h9 => h9) rfl dX5_takeOver_32 ?_
  refine q_goN (q_runV (As := [.ref (b + 8)]) (rest := []) hx hb hml hown hg (c_X7_takeOver l D cs hL0.2.2.2 hL1.2.2.2 (by omega)) v_X7_takeOver wl_X5_55 rfl rfl ⟨Nat.le_of_ble_eq_true rfl, Nat.le_of_ble_eq_true rfl⟩ hI hK 8 hL0.2.2.2.1 rfl hl.1 rfl rfl (Nat.le_of_ble_eq_true rfl) dX5_takeOver_35 ⟨Nat.le_of_ble_eq_true rfl, Nat.le_of_ble_eq_true rfl⟩) hI (fun M H locs hp hI => ?_)
  obtain ⟨hn0, hF⟩ := hp
  generalize heg3 : s_X7_takeOver v.2.2.1 u.2.2.1 = g3 at hn0 hR
  have hn := hn0
  have hn : qLQ cs M a (g1, g2, g3, v.2.2.2.1, v.2.2.2.2.1, v.2.2.2.2.2) := qLQ.s2 (v := (g1, g2, v.2.2.1, v.2.2.2.1, v.2.2.2.2.1, v.2.2.2.2.2)) hL0 hn (qFr.rf.tr hF (fun q hq => by omega))
  have hL0 := hn
  have hL1 := hL1.fr hF (fun q h1 h2 hq => by omega)
  have hS := hS.tr hF (fun q hq => by omega)
  refine lv_aload_n hx hb dX5_takeOver_38 rfl (lv_at hl 0 rfl) ?_
  refine lv_aload_n hx hb dX5_takeOver_39 rfl (lv_at hl 1 rfl) ?_
  refine q_get hx hb hg in_X5 hown hK hI hL1.1 rfl 3 (by decide) (hg _ wf_X5_38) (fun _ h9 => h9) rfl dX5_takeOver_40 ?_
  have hn := qLQ.i3 u.2.2.2.1 hL0
  refine q_put (v := .int u.2.2.2.1) hx hb hg in_X5 tyX5_ok nmX5 hown hK hI hL0.1 rfl 3 (by decide) (hg _ wf_X5_38) (fun _ h9 => h9) rfl rfl rfl (Nat.le_of_ble_eq_true rfl) dX5_takeOver_43 (fun H locs hI => ?_)
  obtain ⟨M, hn, hF, hI⟩ : ∃ Mx : qM, qLQ cs Mx a (g1, g2, g3, u.2.2.2.1, v.2.2.2.2.1, v.2.2.2.2.2) ∧ qFr (qIn a 1) M Mx ∧ qI D M0 s.heap Mx N H locs := ⟨_, hn, qFr.up (by decide), hI⟩
  have hL0 := hn
  have hL1 := hL1.fr hF (fun q h1 h2 hq => by omega)
  have hS := hS.tr hF (fun q hq => by omega)
  refine lv_aload_n hx hb dX5_takeOver_46 rfl (lv_at hl 0 rfl) ?_
  refine lv_aload_n hx hb dX5_takeOver_47 rfl (lv_at hl 1 rfl) ?_
  refine q_get hx hb hg in_X5 hown hK hI hL1.1 rfl 4 (by decide) (hg _ wf_X5_42) (fun _ h9 => h9) rfl dX5_takeOver_48 ?_
  have hn := qLQ.i4 u.2.2.2.2.1 hL0
  refine q_put (v := .int u.2.2.2.2.1) hx hb hg in_X5 tyX5_ok nmX5 hown hK hI hL0.1 rfl 4 (by decide) (hg _ wf_X5_42) (fun _ h9 => h9) rfl rfl rfl (Nat.le_of_ble_eq_true rfl) dX5_takeOver_51 (fun H locs hI => ?_)
  obtain ⟨M, hn, hF, hI⟩ : ∃ Mx : qM, qLQ cs Mx a (g1, g2, g3, u.2.2.2.1, u.2.2.2.2.1, v.2.2.2.2.2) ∧ qFr (qIn a 1) M Mx ∧ qI D M0 s.heap Mx N H locs := ⟨_, hn, qFr.up (by decide), hI⟩
  have hL0 := hn
  have hL1 := hL1.fr hF (fun q h1 h2 hq => by omega)
  have hS := hS.tr hF (fun q hq => by omega)
  refine lv_aload_n hx hb dX5_takeOver_54 rfl (lv_at hl 0 rfl) ?_
  refine lv_aload_n hx hb dX5_takeOver_55 rfl (lv_at hl 1 rfl) ?_
  refine q_get hx hb hg in_X5 hown hK hI hL1.1 rfl 5 (by decide) (hg _ wf_X5_45) (fun _ h9 => h9) rfl dX5_takeOver_56 ?_
  have hn := qLQ.i5 u.2.2.2.2.2 hL0
  refine q_put (v := .int u.2.2.2.2.2) hx hb hg in_X5 tyX5_ok nmX5 hown hK hI hL0.1 rfl 5 (by decide) (hg _ wf_X5_45) (fun _ h9 => h9) rfl rfl rfl (Nat.le_of_ble_eq_true rfl) dX5_takeOver_59 (fun H locs hI => ?_)
  obtain ⟨M, hn, hF, hI⟩ : ∃ Mx : qM, qLQ cs Mx a (g1, g2, g3, u.2.2.2.1, u.2.2.2.2.1, u.2.2.2.2.2) ∧ qFr (qIn a 1) M Mx ∧ qI D M0 s.heap Mx N H locs := ⟨_, hn, qFr.up (by decide), hI⟩
  have hL0 := hn
  have hL1 := hL1.fr hF (fun q h1 h2 hq => by omega)
  have hS := hS.tr hF (fun q hq => by omega)
  exact q_vret (st := []) hx hb hret hlk hN hI (by subst hR; exact ⟨rfl, ⟨hL0, hS⟩, rfl⟩) dX5_takeOver_62
end
section
/-! the history: nine quarries, the place of the draft, how many can be undone -/
abbrev qHV : Type := (Nat → qQV) × Int32 × Int32
def qLH (cs : qC) (M : qM) (a : Nat) (v : qHV) : Prop := M a = some (.inr (3, [.ref (a + 1), .int v.2.1, .int v.2.2])) ∧ (∃ f : Nat → Option Nat, M (a + 1) = some (.inl (cs 1, 9, .inr (.inr (.inr (.inr f))))) ∧ ∀ j : Nat, j < 9 → f j = some (a + 2 + 13 * j)) ∧ ∀ j : Nat, j < 9 → qLQ cs M (a + 2 + 13 * j) (v.1 j)
theorem qLH.same {cs : qC} {M M' : qM} {a : Nat} {v : qHV} (h : qLH cs M a v) (hs : ∀ q : Nat, a ≤ q → q < a + 119 → M' q = M q) : qLH cs M' a v := by
  obtain ⟨h1, ⟨f, h2, h3⟩, h4⟩ := h
  exact ⟨(hs a (by omega) (by omega)).trans h1, ⟨f, (hs _ (by omega) (by omega)).trans h2, h3⟩, fun j hj => (h4 j hj).same (fun q q1 q2 => hs q (by omega) (by omega))⟩
theorem qLH.fr {cs : qC} {M M' : qM} {a : Nat} {v : qHV} {F : Nat → Prop} (h : qLH cs M a v) (hs : qFr F M M') (hd : ∀ q : Nat, a ≤ q → q < a + 119 → ¬ F q) : qLH cs M' a v := h.same (fun q h1 h2 => hs q (hd q h1 h2))
theorem qLH.i1 {cs : qC} {M : qM} {a : Nat} {v : qHV} (x : Int32) (h : qLH cs M a v) : qLH cs (qUp M a (.inr (3, [.ref (a + 1), .int x, .int v.2.2]))) a (v.1, x, v.2.2) := by
  obtain ⟨h1, ⟨f, h2, h3⟩, h4⟩ := h
  exact ⟨qUp_at _ _ _, ⟨f, (qUp_ne (by omega)).trans h2, h3⟩, fun j hj => (h4 j hj).same (fun q q1 q2 => qUp_ne (by omega))⟩
theorem qLH.i2 {cs : qC} {M : qM} {a : Nat} {v : qHV} (x : Int32) (h : qLH cs M a v) : qLH cs (qUp M a (.inr (3, [.ref (a + 1), .int v.2.1, .int x]))) a (v.1, v.2.1, x) := by
  obtain ⟨h1, ⟨f, h2, h3⟩, h4⟩ := h
  exact ⟨qUp_at _ _ _, ⟨f, (qUp_ne (by omega)).trans h2, h3⟩, fun j hj => (h4 j hj).same (fun q q1 q2 => qUp_ne (by omega))⟩
/-- one of the nine is another then -/
def qSlot (f : Nat → qQV) (j : Nat) (x : qQV) : Nat → qQV := fun i => if i = j then x else f i
theorem qLH.slot {cs : qC} {M M' : qM} {a j : Nat} {v : qHV} {x : qQV} (h : qLH cs M a v) (hj : j < 9) (hx : qLQ cs M' (a + 2 + 13 * j) x) (hs : qFr (qIn (a + 2 + 13 * j) 13) M M') : qLH cs M' a (qSlot v.1 j x, v.2) := by
  obtain ⟨h1, ⟨f, h2, h3⟩, h4⟩ := h
  refine ⟨(hs _ (by omega)).trans h1, ⟨f, (hs _ (by omega)).trans h2, h3⟩, fun i hi => ?_⟩
  show qLQ cs M' (a + 2 + 13 * i) (qSlot v.1 j x i)
  unfold qSlot
  by_cases hij : i = j
  · subst hij; rw [if_pos rfl]; exact hx
  · rw [if_neg hij]
    exact (h4 i hi).same (fun q q1 q2 => hs q (by omega))
def qOk (x : Int32) : Prop := 0 ≤ x ∧ x < 9
theorem qOk_lt {x : Int32} (h : qOk x) : x.toNatClampNeg < 9 := q_within (L := List.replicate 9 0) (by decide) h.1 h.2
theorem qOk_no {x : Int32} (h : x < 0 ∨ 9 ≤ x) : ¬ qOk x := by
  rintro ⟨h1, h2⟩
  rw [Int32.le_iff_toInt_le] at h1
  rw [Int32.lt_iff_toInt_lt] at h2
  rcases h with h | h
  · rw [Int32.lt_iff_toInt_lt] at h; omega
  · rw [Int32.le_iff_toInt_le] at h; omega
theorem s_X5_takeOver_eq (v u : qQV) : s_X5_takeOver v u = u := rfl
set_option maxHeartbeats 4000000 in
theorem c_X2_slotOfDraft (l : Launch) (D : va_G) (cs : qC) {M0 : qM} {N a : Nat} {v : qHV} (hL0 : qLH cs M0 a v) (w : Value) (hw1 : qOk v.2.1 → w = .ref (a + 2 + 13 * v.2.1.toNatClampNeg)) (hw2 : ¬ qOk v.2.1 → w = .null) :
    qMet l D cs yX2_slotOfDraft (qws yX2_slotOfDraft cX2_slotOfDraft 1 (some (.object "QuarryRopes$Quarry"))) ({ frames := 0, cells := 0, slots := 0, locals := 0 } : Room) M0 N [.ref a] (qRet M0 N w) 0 0 := by
  refine q_head (by decide) ?_ (Nat.le_of_ble_eq_true rfl)
  intro p e s m below meth c ls hx hb hret hlk hml hown hnm hg hK hN hI hl
  have hl : lv_has ls 1 [(0, .ref a)] := hl
  obtain ⟨f, hf1, hf2⟩ := hL0.2.1
  refine lv_aload_n hx hb dX2_slotOfDraft_0 rfl (lv_at hl 0 rfl) ?_
  refine q_get hx hb hg in_X2 hown hK hI hL0.1 rfl 1 (by decide) (hg _ wf_X2_30) (fun _ h9 => h9) rfl dX2_slotOfDraft_1 ?_
  refine lv_if_lt (tgt := 31) hx hb dX2_slotOfDraft_4 (by decide) (fun c1 => ?_) (fun c1 => ?_)
  · refine lv_null hx hb dX2_slotOfDraft_31 ?_
    exact q_aret hx hb hret (Or.inl rfl) hlk hN hI ⟨by rw [hw2 (qOk_no (Or.inl c1))], rfl, rfl⟩ dX2_slotOfDraft_32
  · refine lv_aload_n hx hb dX2_slotOfDraft_7 rfl (lv_at hl 0 rfl) ?_
    refine q_get hx hb hg in_X2 hown hK hI hL0.1 rfl 1 (by decide) (hg _ wf_X2_30) (fun _ h9 => h9) rfl dX2_slotOfDraft_8 ?_
    refine lv_aload_n hx hb dX2_slotOfDraft_11 rfl (lv_at hl 0 rfl) ?_
    refine q_get hx hb hg in_X2 hown hK hI hL0.1 rfl 0 (by decide) (hg _ wf_X2_13) (fun _ h9 => h9) rfl dX2_slotOfDraft_12 ?_
    refine q_alen hx hb hK hI 1 rfl hf1 (v := 9) rfl dX2_slotOfDraft_15 ?_
    refine lv_icmp_ge (tgt := 31) hx hb dX2_slotOfDraft_16 (by decide) (fun c2 => ?_) (fun c2 => ?_)
    · refine lv_null hx hb dX2_slotOfDraft_31 ?_
      exact q_aret hx hb hret (Or.inl rfl) hlk hN hI ⟨by rw [hw2 (qOk_no (Or.inr c2))], rfl, rfl⟩ dX2_slotOfDraft_32
    · have hok : qOk v.2.1 := ⟨q_nlt c1, q_nle c2⟩
      refine lv_aload_n hx hb dX2_slotOfDraft_19 rfl (lv_at hl 0 rfl) ?_
      refine q_get hx hb hg in_X2 hown hK hI hL0.1 rfl 0 (by decide) (hg _ wf_X2_13) (fun _ h9 => h9) rfl dX2_slotOfDraft_20 ?_
      refine lv_aload_n hx hb dX2_slotOfDraft_23 rfl (lv_at hl 0 rfl) ?_
      refine q_get hx hb hg in_X2 hown hK hI hL0.1 rfl 1 (by decide) (hg _ wf_X2_30) (fun _ h9 => h9) rfl dX2_slotOfDraft_24 ?_
      refine q_aald hx hb hK hI 1 rfl hf1 (q_vpin (L := List.replicate 9 0) (by decide) hok.1 hok.2) dX2_slotOfDraft_27 ?_
      rw [hf2 _ (qOk_lt hok)]
      refine lv_goto (tgt := 32) hx hb dX2_slotOfDraft_28 (by decide) ?_
      exact q_aret hx hb hret (Or.inr ⟨_, rfl⟩) hlk hN hI ⟨by rw [hw1 hok]; rfl, rfl, rfl⟩ dX2_slotOfDraft_32
def s_X2_draft (v : qHV) (u : qQV) : qHV := if 0 ≤ v.2.1 ∧ v.2.1 < 9 then (qSlot v.1 v.2.1.toNatClampNeg u, v.2) else v
def s_X2_dropDraft (v : qHV) (u : qQV) : qQV := if 0 ≤ v.2.1 ∧ v.2.1 < 9 then v.1 v.2.1.toNatClampNeg else u
set_option maxHeartbeats 4000000 in
theorem c_X2_draft (l : Launch) (D : va_G) (cs : qC) {M0 : qM} {N a b : Nat} {v : qHV} {u : qQV} (hL0 : qLH cs M0 a v) (hL1 : qLQ cs M0 b u) (hd0 : a + 119 ≤ b ∨ b + 13 ≤ a) :
    qMet l D cs yX2_draft (qws yX2_draft cX2_draft 3 none) ({ frames := 4, cells := 0, slots := 0, locals := 86 } : Room) M0 N [.ref a, .ref b] (qMod N none (fun M' => qLH cs M' a (s_X2_draft v u) ∧ qFr (qIn a 119) M0 M')) 0 0 := by
  refine q_head (by decide) ?_ (Nat.le_of_ble_eq_true rfl)
  intro p e s m below meth c ls hx hb hret hlk hml hown hnm hg hK hN hI hl
  have hl : lv_has ls 3 [(0, .ref a), (1, .ref b)] := hl
  refine lv_aload_n hx hb dX2_draft_0 rfl (lv_at hl 0 rfl) ?_
  by_cases hok : 0 ≤ v.2.1 ∧ v.2.1 < 9
  · have hj := qOk_lt hok
    refine q_goR (q_runV (As := []) (rest := []) hx hb hml hown hg (c_X2_slotOfDraft l D cs hL0 (.ref (a + 2 + 13 * v.2.1.toNatClampNeg)) (fun _ => rfl) (fun h => absurd hok h)) v_X2_slotOfDraft wl_X2_22 rfl rfl ⟨Nat.le_of_ble_eq_true rfl, Nat.le_of_ble_eq_true rfl⟩ hI hK 3 hL0.1 rfl hl.1 rfl rfl (Nat.le_of_ble_eq_true rfl) dX2_draft_1 ⟨Nat.le_of_ble_eq_true rfl, Nat.le_of_ble_eq_true rfl⟩) hI (fun H locs hI => ?_)
    generalize hje : v.2.1.toNatClampNeg = j at hj ⊢
    refine lv_astore_n (lv' := [(2, .ref (a + 2 + 13 * j)), (0, .ref a), (1, .ref b)]) hx hb dX2_draft_4 rfl hl (by decide) rfl (fun ls hl => ?_)
    refine lv_aload_n hx hb dX2_draft_5 rfl (lv_at hl 0 rfl) ?_
    refine lv_ifnull hx hb dX2_draft_6 ?_
    refine lv_aload_n hx hb dX2_draft_9 rfl (lv_at hl 0 rfl) ?_
    refine lv_aload_n hx hb dX2_draft_10 rfl (lv_at hl 2 rfl) ?_
    refine q_goN (q_runV (As := [.ref b]) (rest := []) hx hb hml hown hg (c_X5_takeOver l D cs (hL0.2.2 j hj) hL1 (by omega)) v_X5_takeOver wl_X2_26 rfl rfl ⟨Nat.le_of_ble_eq_true rfl, Nat.le_of_ble_eq_true rfl⟩ hI hK 6 (hL0.2.2 j hj).1 rfl hl.1 rfl rfl (Nat.le_of_ble_eq_true rfl) dX2_draft_11 ⟨Nat.le_of_ble_eq_true rfl, Nat.le_of_ble_eq_true rfl⟩) hI (fun M H locs hp hI => ?_)
    obtain ⟨hn, hF⟩ := hp
    rw [s_X5_takeOver_eq] at hn
    exact q_vret (st := []) hx hb hret hlk hN hI ⟨rfl, ⟨by rw [s_X2_draft, if_pos hok, hje]; exact hL0.slot hj hn hF, qFr.rf.tr hF (fun q hq => by omega)⟩, rfl⟩ dX2_draft_14
  · refine q_goR (q_runV (As := []) (rest := []) hx hb hml hown hg (c_X2_slotOfDraft l D cs hL0 .null (fun h => absurd h hok) (fun _ => rfl)) v_X2_slotOfDraft wl_X2_22 rfl rfl ⟨Nat.le_of_ble_eq_true rfl, Nat.le_of_ble_eq_true rfl⟩ hI hK 3 hL0.1 rfl hl.1 rfl rfl (Nat.le_of_ble_eq_true rfl) dX2_draft_1 ⟨Nat.le_of_ble_eq_true rfl, Nat.le_of_ble_eq_true rfl⟩) hI (fun H locs hI => ?_)
    refine lv_astore_nN (lv' := [(2, .null), (0, .ref a), (1, .ref b)]) hx hb dX2_draft_4 rfl hl (by decide) rfl (fun ls hl => ?_)
    refine lv_aload_nN hx hb dX2_draft_5 rfl (lv_at hl 0 rfl) ?_
    refine lv_ifnullN (tgt := 14) hx hb dX2_draft_6 (by decide) ?_
    exact q_vret (st := []) hx hb hret hlk hN hI ⟨rfl, ⟨by rw [s_X2_draft, if_neg hok]; exact hL0, qFr.rf⟩, rfl⟩ dX2_draft_14
set_option maxHeartbeats 4000000 in
theorem c_X2_dropDraft (l : Launch) (D : va_G) (cs : qC) {M0 : qM} {N a b : Nat} {v : qHV} {u : qQV} (hL0 : qLH cs M0 a v) (hL1 : qLQ cs M0 b u) (hd0 : a + 119 ≤ b ∨ b + 13 ≤ a) :
    qMet l D cs yX2_dropDraft (qws yX2_dropDraft cX2_dropDraft 3 none) ({ frames := 4, cells := 0, slots := 0, locals := 86 } : Room) M0 N [.ref a, .ref b] (qMod N none (fun M' => qLQ cs M' b (s_X2_dropDraft v u) ∧ qFr (qIn b 13) M0 M')) 0 0 := by
  refine q_head (by decide) ?_ (Nat.le_of_ble_eq_true rfl)
  intro p e s m below meth c ls hx hb hret hlk hml hown hnm hg hK hN hI hl
  have hl : lv_has ls 3 [(0, .ref a), (1, .ref b)] := hl
  refine lv_aload_n hx hb dX2_dropDraft_0 rfl (lv_at hl 0 rfl) ?_
  by_cases hok : 0 ≤ v.2.1 ∧ v.2.1 < 9
  · have hj := qOk_lt hok
    refine q_goR (q_runV (As := []) (rest := []) hx hb hml hown hg (c_X2_slotOfDraft l D cs hL0 (.ref (a + 2 + 13 * v.2.1.toNatClampNeg)) (fun _ => rfl) (fun h => absurd hok h)) v_X2_slotOfDraft wl_X2_22 rfl rfl ⟨Nat.le_of_ble_eq_true rfl, Nat.le_of_ble_eq_true rfl⟩ hI hK 3 hL0.1 rfl hl.1 rfl rfl (Nat.le_of_ble_eq_true rfl) dX2_dropDraft_1 ⟨Nat.le_of_ble_eq_true rfl, Nat.le_of_ble_eq_true rfl⟩) hI (fun H locs hI => ?_)
    generalize hje : v.2.1.toNatClampNeg = j at hj ⊢
    refine lv_astore_n (lv' := [(2, .ref (a + 2 + 13 * j)), (0, .ref a), (1, .ref b)]) hx hb dX2_dropDraft_4 rfl hl (by decide) rfl (fun ls hl => ?_)
    refine lv_aload_n hx hb dX2_dropDraft_5 rfl (lv_at hl 2 rfl) ?_
    refine lv_ifnull hx hb dX2_dropDraft_6 ?_
    refine lv_aload_n hx hb dX2_dropDraft_9 rfl (lv_at hl 0 rfl) ?_
    refine lv_ifnull hx hb dX2_dropDraft_10 ?_
    refine lv_aload_n hx hb dX2_dropDraft_13 rfl (lv_at hl 2 rfl) ?_
    refine lv_aload_n hx hb dX2_dropDraft_14 rfl (lv_at hl 0 rfl) ?_
    refine q_goN (q_runV (As := [.ref (a + 2 + 13 * j)]) (rest := []) hx hb hml hown hg (c_X5_takeOver l D cs hL1 (hL0.2.2 j hj) (by omega)) v_X5_takeOver wl_X2_26 rfl rfl ⟨Nat.le_of_ble_eq_true rfl, Nat.le_of_ble_eq_true rfl⟩ hI hK 6 hL1.1 rfl hl.1 rfl rfl (Nat.le_of_ble_eq_true rfl) dX2_dropDraft_15 ⟨Nat.le_of_ble_eq_true rfl, Nat.le_of_ble_eq_true rfl⟩) hI (fun M H locs hp hI => ?_)
    obtain ⟨hn, hF⟩ := hp
    rw [s_X5_takeOver_eq] at hn
    exact q_vret (st := []) hx hb hret hlk hN hI ⟨rfl, ⟨by rw [s_X2_dropDraft, if_pos hok, hje]; exact hn, hF⟩, rfl⟩ dX2_dropDraft_18
  · refine q_goR (q_runV (As := []) (rest := []) hx hb hml hown hg (c_X2_slotOfDraft l D cs hL0 .null (fun h => absurd h hok) (fun _ => rfl)) v_X2_slotOfDraft wl_X2_22 rfl rfl ⟨Nat.le_of_ble_eq_true rfl, Nat.le_of_ble_eq_true rfl⟩ hI hK 3 hL0.1 rfl hl.1 rfl rfl (Nat.le_of_ble_eq_true rfl) dX2_dropDraft_1 ⟨Nat.le_of_ble_eq_true rfl, Nat.le_of_ble_eq_true rfl⟩) hI (fun H locs hI => ?_)
    refine lv_astore_nN (lv' := [(2, .null), (0, .ref a), (1, .ref b)]) hx hb dX2_dropDraft_4 rfl hl (by decide) rfl (fun ls hl => ?_)
    refine lv_aload_n hx hb dX2_dropDraft_5 rfl (lv_at hl 2 rfl) ?_
    refine lv_ifnull hx hb dX2_dropDraft_6 ?_
    refine lv_aload_nN hx hb dX2_dropDraft_9 rfl (lv_at hl 0 rfl) ?_
    refine lv_ifnullN (tgt := 18) hx hb dX2_dropDraft_10 (by decide) ?_
    exact q_vret (st := []) hx hb hret hlk hN hI ⟨rfl, ⟨by rw [s_X2_dropDraft, if_neg hok]; exact hL1, qFr.rf⟩, rfl⟩ dX2_dropDraft_18
end
