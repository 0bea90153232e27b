section
-- ===== PART A: goes FIRST, ahead of the names: the tables' words, and 'selects' of the private methods out of them =====
/-- a private method of a class that the tables say can be made, by its rows of tables_1 -/
def lw_okq (q : MethodName × Nat) : Prop := (q.1.cls ≠ "java/lang/invoke/MethodHandle" ∧ q.1.cls ≠ "java/lang/invoke/VarHandle") ∧ Cond.instantiable q.1.cls q.2 ∈ tables_1 ∧ Cond.privateMethod q.1 ∈ tables_1 ∧ Cond.instanceMethod q.1 ∈ tables_1
theorem lw_p0 : lw_okq (⟨"SieveBench", "saveState", "()V"⟩, 6) := ⟨⟨by decide +kernel, by decide +kernel⟩, List.mem_of_getElem? (i := 9) (by decide +kernel), List.mem_of_getElem? (i := 166) (by decide +kernel), List.mem_of_getElem? (i := 167) (by decide +kernel)⟩
theorem lw_p1 : lw_okq (⟨"SieveBench$SampleText", "forget", "()V"⟩, 5) := ⟨⟨by decide +kernel, by decide +kernel⟩, List.mem_of_getElem? (i := 110) (by decide +kernel), List.mem_of_getElem? (i := 234) (by decide +kernel), List.mem_of_getElem? (i := 235) (by decide +kernel)⟩
theorem lw_p2 : lw_okq (⟨"SieveBench$SampleText", "skipSpaces", "()V"⟩, 5) := ⟨⟨by decide +kernel, by decide +kernel⟩, List.mem_of_getElem? (i := 110) (by decide +kernel), List.mem_of_getElem? (i := 238) (by decide +kernel), List.mem_of_getElem? (i := 239) (by decide +kernel)⟩
theorem lw_p3 : lw_okq (⟨"SieveBench$SampleText", "isSign", "(C)Z"⟩, 5) := ⟨⟨by decide +kernel, by decide +kernel⟩, List.mem_of_getElem? (i := 110) (by decide +kernel), List.mem_of_getElem? (i := 242) (by decide +kernel), List.mem_of_getElem? (i := 243) (by decide +kernel)⟩
theorem lw_p4 : lw_okq (⟨"SieveBench$SampleText", "readPair", "()I"⟩, 5) := ⟨⟨by decide +kernel, by decide +kernel⟩, List.mem_of_getElem? (i := 110) (by decide +kernel), List.mem_of_getElem? (i := 246) (by decide +kernel), List.mem_of_getElem? (i := 247) (by decide +kernel)⟩
theorem lw_p5 : lw_okq (⟨"SieveBench$SampleText", "isDigit", "()Z"⟩, 5) := ⟨⟨by decide +kernel, by decide +kernel⟩, List.mem_of_getElem? (i := 110) (by decide +kernel), List.mem_of_getElem? (i := 250) (by decide +kernel), List.mem_of_getElem? (i := 251) (by decide +kernel)⟩
theorem lw_p6 : lw_okq (⟨"SieveBench$SampleText", "digit", "()I"⟩, 5) := ⟨⟨by decide +kernel, by decide +kernel⟩, List.mem_of_getElem? (i := 110) (by decide +kernel), List.mem_of_getElem? (i := 255) (by decide +kernel), List.mem_of_getElem? (i := 256) (by decide +kernel)⟩
theorem lw_p7 : lw_okq (⟨"SieveBench$SampleText", "readMass", "(I)I"⟩, 5) := ⟨⟨by decide +kernel, by decide +kernel⟩, List.mem_of_getElem? (i := 110) (by decide +kernel), List.mem_of_getElem? (i := 259) (by decide +kernel), List.mem_of_getElem? (i := 260) (by decide +kernel)⟩
theorem lw_p8 : lw_okq (⟨"SieveBenchModel", "notes", "()V"⟩, 8) := ⟨⟨by decide +kernel, by decide +kernel⟩, List.mem_of_getElem? (i := 434) (by decide +kernel), List.mem_of_getElem? (i := 477) (by decide +kernel), List.mem_of_getElem? (i := 478) (by decide +kernel)⟩
theorem lw_p9 : lw_okq (⟨"SieveBenchModel", "massAt", "(II)I"⟩, 8) := ⟨⟨by decide +kernel, by decide +kernel⟩, List.mem_of_getElem? (i := 434) (by decide +kernel), List.mem_of_getElem? (i := 485) (by decide +kernel), List.mem_of_getElem? (i := 486) (by decide +kernel)⟩
theorem lw_p10 : lw_okq (⟨"SieveBenchModel", "sum", "(I)I"⟩, 8) := ⟨⟨by decide +kernel, by decide +kernel⟩, List.mem_of_getElem? (i := 434) (by decide +kernel), List.mem_of_getElem? (i := 489) (by decide +kernel), List.mem_of_getElem? (i := 490) (by decide +kernel)⟩
theorem lw_p11 : lw_okq (⟨"SieveBenchModel", "divides", "(I)V"⟩, 8) := ⟨⟨by decide +kernel, by decide +kernel⟩, List.mem_of_getElem? (i := 434) (by decide +kernel), List.mem_of_getElem? (i := 501) (by decide +kernel), List.mem_of_getElem? (i := 502) (by decide +kernel)⟩
theorem lw_p12 : lw_okq (⟨"SieveBenchModel", "reads", "()Z"⟩, 8) := ⟨⟨by decide +kernel, by decide +kernel⟩, List.mem_of_getElem? (i := 434) (by decide +kernel), List.mem_of_getElem? (i := 525) (by decide +kernel), List.mem_of_getElem? (i := 526) (by decide +kernel)⟩
theorem lw_p13 : lw_okq (⟨"SieveBenchModel", "here", "()I"⟩, 8) := ⟨⟨by decide +kernel, by decide +kernel⟩, List.mem_of_getElem? (i := 434) (by decide +kernel), List.mem_of_getElem? (i := 529) (by decide +kernel), List.mem_of_getElem? (i := 530) (by decide +kernel)⟩
theorem lw_p14 : lw_okq (⟨"SieveBenchModel", "readsPair", "()Z"⟩, 8) := ⟨⟨by decide +kernel, by decide +kernel⟩, List.mem_of_getElem? (i := 434) (by decide +kernel), List.mem_of_getElem? (i := 533) (by decide +kernel), List.mem_of_getElem? (i := 534) (by decide +kernel)⟩
theorem lw_p15 : lw_okq (⟨"SieveBenchModel", "trayWith", "(I)I"⟩, 8) := ⟨⟨by decide +kernel, by decide +kernel⟩, List.mem_of_getElem? (i := 434) (by decide +kernel), List.mem_of_getElem? (i := 542) (by decide +kernel), List.mem_of_getElem? (i := 543) (by decide +kernel)⟩
def lw_privs_1 : List (MethodName × Nat) := [(⟨"SieveBench", "saveState", "()V"⟩, 6), (⟨"SieveBench$SampleText", "forget", "()V"⟩, 5), (⟨"SieveBench$SampleText", "skipSpaces", "()V"⟩, 5), (⟨"SieveBench$SampleText", "isSign", "(C)Z"⟩, 5), (⟨"SieveBench$SampleText", "readPair", "()I"⟩, 5), (⟨"SieveBench$SampleText", "isDigit", "()Z"⟩, 5), (⟨"SieveBench$SampleText", "digit", "()I"⟩, 5), (⟨"SieveBench$SampleText", "readMass", "(I)I"⟩, 5), (⟨"SieveBenchModel", "notes", "()V"⟩, 8), (⟨"SieveBenchModel", "massAt", "(II)I"⟩, 8), (⟨"SieveBenchModel", "sum", "(I)I"⟩, 8), (⟨"SieveBenchModel", "divides", "(I)V"⟩, 8), (⟨"SieveBenchModel", "reads", "()Z"⟩, 8), (⟨"SieveBenchModel", "here", "()I"⟩, 8), (⟨"SieveBenchModel", "readsPair", "()Z"⟩, 8), (⟨"SieveBenchModel", "trayWith", "(I)I"⟩, 8)]
theorem lw_r1 : ∀ q ∈ lw_privs_1, lw_okq q := List.forall_mem_cons.mpr ⟨lw_p0, List.forall_mem_cons.mpr ⟨lw_p1, List.forall_mem_cons.mpr ⟨lw_p2, List.forall_mem_cons.mpr ⟨lw_p3, List.forall_mem_cons.mpr ⟨lw_p4, List.forall_mem_cons.mpr ⟨lw_p5, List.forall_mem_cons.mpr ⟨lw_p6, List.forall_mem_cons.mpr ⟨lw_p7, List.forall_mem_cons.mpr ⟨lw_p8, List.forall_mem_cons.mpr ⟨lw_p9, List.forall_mem_cons.mpr ⟨lw_p10, List.forall_mem_cons.mpr ⟨lw_p11, List.forall_mem_cons.mpr ⟨lw_p12, List.forall_mem_cons.mpr ⟨lw_p13, List.forall_mem_cons.mpr ⟨lw_p14, List.forall_mem_cons.mpr ⟨lw_p15, fun _ h => absurd h List.not_mem_nil⟩⟩⟩⟩⟩⟩⟩⟩⟩⟩⟩⟩⟩⟩⟩⟩
theorem lw_p16 : lw_okq (⟨"SieveBenchModel", "ends", "()V"⟩, 8) := ⟨⟨by decide +kernel, by decide +kernel⟩, List.mem_of_getElem? (i := 434) (by decide +kernel), List.mem_of_getElem? (i := 546) (by decide +kernel), List.mem_of_getElem? (i := 547) (by decide +kernel)⟩
theorem lw_p17 : lw_okq (⟨"SieveBenchModel", "changes", "(II)I"⟩, 8) := ⟨⟨by decide +kernel, by decide +kernel⟩, List.mem_of_getElem? (i := 434) (by decide +kernel), List.mem_of_getElem? (i := 558) (by decide +kernel), List.mem_of_getElem? (i := 559) (by decide +kernel)⟩
theorem lw_p18 : lw_okq (⟨"SieveBenchModel", "isTray", "(I)Z"⟩, 8) := ⟨⟨by decide +kernel, by decide +kernel⟩, List.mem_of_getElem? (i := 434) (by decide +kernel), List.mem_of_getElem? (i := 574) (by decide +kernel), List.mem_of_getElem? (i := 575) (by decide +kernel)⟩
theorem lw_p19 : lw_okq (⟨"SieveBenchModel", "isSieve", "(I)Z"⟩, 8) := ⟨⟨by decide +kernel, by decide +kernel⟩, List.mem_of_getElem? (i := 434) (by decide +kernel), List.mem_of_getElem? (i := 578) (by decide +kernel), List.mem_of_getElem? (i := 579) (by decide +kernel)⟩
theorem lw_p20 : lw_okq (⟨"SieveBenchModel", "at", "(I)I"⟩, 8) := ⟨⟨by decide +kernel, by decide +kernel⟩, List.mem_of_getElem? (i := 434) (by decide +kernel), List.mem_of_getElem? (i := 582) (by decide +kernel), List.mem_of_getElem? (i := 583) (by decide +kernel)⟩
theorem lw_p21 : lw_okq (⟨"SieveBenchModel", "openness", "(I)I"⟩, 8) := ⟨⟨by decide +kernel, by decide +kernel⟩, List.mem_of_getElem? (i := 434) (by decide +kernel), List.mem_of_getElem? (i := 586) (by decide +kernel), List.mem_of_getElem? (i := 587) (by decide +kernel)⟩
theorem lw_p22 : lw_okq (⟨"SieveBenchModel", "minute", "()I"⟩, 8) := ⟨⟨by decide +kernel, by decide +kernel⟩, List.mem_of_getElem? (i := 434) (by decide +kernel), List.mem_of_getElem? (i := 602) (by decide +kernel), List.mem_of_getElem? (i := 603) (by decide +kernel)⟩
theorem lw_p23 : lw_okq (⟨"SieveBenchModel", "lost", "()I"⟩, 8) := ⟨⟨by decide +kernel, by decide +kernel⟩, List.mem_of_getElem? (i := 434) (by decide +kernel), List.mem_of_getElem? (i := 625) (by decide +kernel), List.mem_of_getElem? (i := 626) (by decide +kernel)⟩
theorem lw_p24 : lw_okq (⟨"SieveBenchModel", "isTold", "()Z"⟩, 8) := ⟨⟨by decide +kernel, by decide +kernel⟩, List.mem_of_getElem? (i := 434) (by decide +kernel), List.mem_of_getElem? (i := 638) (by decide +kernel), List.mem_of_getElem? (i := 639) (by decide +kernel)⟩
theorem lw_p25 : lw_okq (⟨"SieveBenchModel", "collected", "(I)I"⟩, 8) := ⟨⟨by decide +kernel, by decide +kernel⟩, List.mem_of_getElem? (i := 434) (by decide +kernel), List.mem_of_getElem? (i := 642) (by decide +kernel), List.mem_of_getElem? (i := 643) (by decide +kernel)⟩
theorem lw_p26 : lw_okq (⟨"SieveBenchModel", "passes", "(I)I"⟩, 8) := ⟨⟨by decide +kernel, by decide +kernel⟩, List.mem_of_getElem? (i := 434) (by decide +kernel), List.mem_of_getElem? (i := 646) (by decide +kernel), List.mem_of_getElem? (i := 647) (by decide +kernel)⟩
theorem lw_p27 : lw_okq (⟨"SieveBenchModel", "keeps", "()V"⟩, 8) := ⟨⟨by decide +kernel, by decide +kernel⟩, List.mem_of_getElem? (i := 434) (by decide +kernel), List.mem_of_getElem? (i := 666) (by decide +kernel), List.mem_of_getElem? (i := 667) (by decide +kernel)⟩
theorem lw_p28 : lw_okq (⟨"SieveBenchModel", "restores", "()V"⟩, 8) := ⟨⟨by decide +kernel, by decide +kernel⟩, List.mem_of_getElem? (i := 434) (by decide +kernel), List.mem_of_getElem? (i := 670) (by decide +kernel), List.mem_of_getElem? (i := 671) (by decide +kernel)⟩
def lw_privs_2 : List (MethodName × Nat) := [(⟨"SieveBenchModel", "ends", "()V"⟩, 8), (⟨"SieveBenchModel", "changes", "(II)I"⟩, 8), (⟨"SieveBenchModel", "isTray", "(I)Z"⟩, 8), (⟨"SieveBenchModel", "isSieve", "(I)Z"⟩, 8), (⟨"SieveBenchModel", "at", "(I)I"⟩, 8), (⟨"SieveBenchModel", "openness", "(I)I"⟩, 8), (⟨"SieveBenchModel", "minute", "()I"⟩, 8), (⟨"SieveBenchModel", "lost", "()I"⟩, 8), (⟨"SieveBenchModel", "isTold", "()Z"⟩, 8), (⟨"SieveBenchModel", "collected", "(I)I"⟩, 8), (⟨"SieveBenchModel", "passes", "(I)I"⟩, 8), (⟨"SieveBenchModel", "keeps", "()V"⟩, 8), (⟨"SieveBenchModel", "restores", "()V"⟩, 8)]
theorem lw_r2 : ∀ q ∈ lw_privs_2, lw_okq q := List.forall_mem_cons.mpr ⟨lw_p16, List.forall_mem_cons.mpr ⟨lw_p17, List.forall_mem_cons.mpr ⟨lw_p18, List.forall_mem_cons.mpr ⟨lw_p19, List.forall_mem_cons.mpr ⟨lw_p20, List.forall_mem_cons.mpr ⟨lw_p21, List.forall_mem_cons.mpr ⟨lw_p22, List.forall_mem_cons.mpr ⟨lw_p23, List.forall_mem_cons.mpr ⟨lw_p24, List.forall_mem_cons.mpr ⟨lw_p25, List.forall_mem_cons.mpr ⟨lw_p26, List.forall_mem_cons.mpr ⟨lw_p27, List.forall_mem_cons.mpr ⟨lw_p28, fun _ h => absurd h List.not_mem_nil⟩⟩⟩⟩⟩⟩⟩⟩⟩⟩⟩⟩⟩
def lw_privs : List (MethodName × Nat) := lw_privs_1 ++ (lw_privs_2)
def lw_tbl : List Cond := k2_sels lw_privs ++ tables_1
theorem lw_privs_ok : ∀ q ∈ lw_privs, lw_okq q := by
  show ∀ q ∈ lw_privs_1 ++ (lw_privs_2), lw_okq q
  exact List.forall_mem_append.mpr ⟨lw_r1, lw_r2⟩
end
section
def RX0 : String := "SieveBench$SampleText"
def TX0 : u_T := fun k => match k with
  | 0 => ("SieveBench$SampleText", "signs", "[C", true)
  | 1 => ("SieveBench$SampleText", "masses", "[I", true)
  | 2 => ("SieveBench$SampleText", "named", "[Z", true)
  | 3 => ("SieveBench$SampleText", "length", "I", false)
  | _ => ("SieveBench$SampleText", "at", "I", false)
def tyX0 : Nat → FieldType := fun k => match k with
  | 0 => .array .char
  | 1 => .array .int
  | 2 => .array .boolean
  | 3 => .int
  | _ => .int
abbrev wsX00 : List Cond := u_ws RX0 TX0 5
theorem nmX0 : ∀ a, a < 5 → ∀ b, b < 5 → a ≠ b → (TX0 a).2.1 ≠ (TX0 b).2.1 := by decide +kernel
theorem tyX0_ok : ∀ k, k < 5 → parseFieldDescriptor (TX0 k).2.2.1 = some (tyX0 k) := by decide +kernel
abbrev cX0_init : ByteArray := prog_2_method_1_code
def yX0_init : MethodName := ⟨RX0, "<init>", "()V"⟩
abbrev cX0_readPairs : ByteArray := prog_2_method_2_code
def yX0_readPairs : MethodName := ⟨RX0, "readPairs", "()I"⟩
abbrev cX0_forget : ByteArray := prog_2_method_3_code
def yX0_forget : MethodName := ⟨RX0, "forget", "()V"⟩
abbrev cX0_readPair : ByteArray := prog_2_method_4_code
def yX0_readPair : MethodName := ⟨RX0, "readPair", "()I"⟩
abbrev cX0_readMass : ByteArray := prog_2_method_5_code
def yX0_readMass : MethodName := ⟨RX0, "readMass", "(I)I"⟩
abbrev cX0_skipSpaces : ByteArray := prog_2_method_6_code
def yX0_skipSpaces : MethodName := ⟨RX0, "skipSpaces", "()V"⟩
abbrev cX0_isSign : ByteArray := prog_2_method_7_code
def yX0_isSign : MethodName := ⟨RX0, "isSign", "(C)Z"⟩
abbrev cX0_isDigit : ByteArray := prog_2_method_8_code
def yX0_isDigit : MethodName := ⟨RX0, "isDigit", "()Z"⟩
abbrev cX0_digit : ByteArray := prog_2_method_9_code
def yX0_digit : MethodName := ⟨RX0, "digit", "()I"⟩
def RX1 : String := "SieveBench$State"
def TX1 : u_T := fun k => match k with
  | 0 => ("SieveBench$State", "sample", "[I", true)
  | 1 => ("SieveBench$State", "reserved", "[I", true)
  | 2 => ("SieveBench$State", "trays", "[LSieveBench$Tray;", true)
  | 3 => ("SieveBench$State", "lowest", "[I", true)
  | 4 => ("SieveBench$State", "highest", "[I", true)
  | 5 => ("SieveBench$State", "sieves", "I", false)
  | 6 => ("SieveBench$State", "capacity", "I", false)
  | 7 => ("SieveBench$State", "blinding", "I", false)
  | 8 => ("SieveBench$State", "dustRate", "I", false)
  | 9 => ("SieveBench$State", "tolerance", "I", false)
  | 10 => ("SieveBench$State", "inAnalysis", "Z", false)
  | 11 => ("SieveBench$State", "total", "I", false)
  | 12 => ("SieveBench$State", "minutes", "I", false)
  | _ => ("SieveBench$State", "flow", "I", false)
def tyX1 : Nat → FieldType := fun k => match k with
  | 0 => .array .int
  | 1 => .array .int
  | 2 => .array (.object "SieveBench$Tray")
  | 3 => .array .int
  | 4 => .array .int
  | 5 => .int
  | 6 => .int
  | 7 => .int
  | 8 => .int
  | 9 => .int
  | 10 => .boolean
  | 11 => .int
  | 12 => .int
  | _ => .int
abbrev wsX10 : List Cond := u_ws RX1 TX1 14
theorem nmX1 : ∀ a, a < 14 → ∀ b, b < 14 → a ≠ b → (TX1 a).2.1 ≠ (TX1 b).2.1 := by decide +kernel
theorem tyX1_ok : ∀ k, k < 14 → parseFieldDescriptor (TX1 k).2.2.1 = some (tyX1 k) := by decide +kernel
abbrev cX1_init : ByteArray := prog_3_method_1_code
def yX1_init : MethodName := ⟨RX1, "<init>", "()V"⟩
abbrev cX1_copyFrom : ByteArray := prog_3_method_2_code
def yX1_copyFrom : MethodName := ⟨RX1, "copyFrom", "(LSieveBench$State;)V"⟩
abbrev cX1_isTray : ByteArray := prog_3_method_3_code
def yX1_isTray : MethodName := ⟨RX1, "isTray", "(I)Z"⟩
abbrev cX1_isSieve : ByteArray := prog_3_method_4_code
def yX1_isSieve : MethodName := ⟨RX1, "isSieve", "(I)Z"⟩
abbrev cX1_halveSample : ByteArray := prog_3_method_5_code
def yX1_halveSample : MethodName := ⟨RX1, "halveSample", "(Z)V"⟩
abbrev cX1_findSieve : ByteArray := prog_3_method_6_code
def yX1_findSieve : MethodName := ⟨RX1, "findSieve", "(I)I"⟩
abbrev cX1_insertSieve : ByteArray := prog_3_method_7_code
def yX1_insertSieve : MethodName := ⟨RX1, "insertSieve", "(I)I"⟩
abbrev cX1_takeSieve : ByteArray := prog_3_method_8_code
def yX1_takeSieve : MethodName := ⟨RX1, "takeSieve", "(I)V"⟩
abbrev cX1_endAnalysis : ByteArray := prog_3_method_9_code
def yX1_endAnalysis : MethodName := ⟨RX1, "endAnalysis", "()V"⟩
abbrev cX1_beginAnalysis : ByteArray := prog_3_method_10_code
def yX1_beginAnalysis : MethodName := ⟨RX1, "beginAnalysis", "(I)V"⟩
abbrev cX1_shakeOneMinute : ByteArray := prog_3_method_11_code
def yX1_shakeOneMinute : MethodName := ⟨RX1, "shakeOneMinute", "()I"⟩
abbrev cX1_lostMass : ByteArray := prog_3_method_12_code
def yX1_lostMass : MethodName := ⟨RX1, "lostMass", "()I"⟩
abbrev cX1_hasCollected : ByteArray := prog_3_method_13_code
def yX1_hasCollected : MethodName := ⟨RX1, "hasCollected", "()Z"⟩
abbrev cX1_passingOf : ByteArray := prog_3_method_14_code
def yX1_passingOf : MethodName := ⟨RX1, "passingOf", "(I)I"⟩
abbrev cX1_collectedFrom : ByteArray := prog_3_method_15_code
def yX1_collectedFrom : MethodName := ⟨RX1, "collectedFrom", "(I)I"⟩
def RX2 : String := "SieveBench$Tray"
def TX2 : u_T := fun k => match k with
  | 0 => ("SieveBench$Tray", "lying", "[I", true)
  | 1 => ("SieveBench$Tray", "aperture", "I", false)
  | 2 => ("SieveBench$Tray", "stuck", "I", false)
  | _ => ("SieveBench$Tray", "collected", "I", false)
def tyX2 : Nat → FieldType := fun k => match k with
  | 0 => .array .int
  | 1 => .int
  | 2 => .int
  | _ => .int
abbrev wsX20 : List Cond := u_ws RX2 TX2 4
theorem nmX2 : ∀ a, a < 4 → ∀ b, b < 4 → a ≠ b → (TX2 a).2.1 ≠ (TX2 b).2.1 := by decide +kernel
theorem tyX2_ok : ∀ k, k < 4 → parseFieldDescriptor (TX2 k).2.2.1 = some (tyX2 k) := by decide +kernel
abbrev cX2_init : ByteArray := prog_4_method_1_code
def yX2_init : MethodName := ⟨RX2, "<init>", "()V"⟩
abbrev cX2_copyFrom : ByteArray := prog_4_method_2_code
def yX2_copyFrom : MethodName := ⟨RX2, "copyFrom", "(LSieveBench$Tray;)V"⟩
abbrev cX2_throwAway : ByteArray := prog_4_method_3_code
def yX2_throwAway : MethodName := ⟨RX2, "throwAway", "()V"⟩
abbrev cX2_openness : ByteArray := prog_4_method_4_code
def yX2_openness : MethodName := ⟨RX2, "openness", "(I)I"⟩
abbrev cX2_dropOnto : ByteArray := prog_4_method_5_code
def yX2_dropOnto : MethodName := ⟨RX2, "dropOnto", "(LSieveBench$Tray;I)I"⟩
abbrev cX2_blind : ByteArray := prog_4_method_6_code
def yX2_blind : MethodName := ⟨RX2, "blind", "(I)V"⟩
abbrev cX2_fallingOf : ByteArray := prog_4_method_7_code
def yX2_fallingOf : MethodName := ⟨RX2, "fallingOf", "(III)I"⟩
abbrev cX2_easeOf : ByteArray := prog_4_method_8_code
def yX2_easeOf : MethodName := ⟨RX2, "easeOf", "(I)I"⟩
def RX3 : String := "SieveBench"
def TX3 : u_T := fun k => match k with
  | 0 => ("SieveBench", "state", "LSieveBench$State;", true)
  | 1 => ("SieveBench", "forecast", "LSieveBench$State;", true)
  | 2 => ("SieveBench", "saved", "[LSieveBench$State;", true)
  | 3 => ("SieveBench", "text", "LSieveBench$SampleText;", true)
  | 4 => ("SieveBench", "nextSlot", "I", false)
  | _ => ("SieveBench", "savedStates", "I", false)
def tyX3 : Nat → FieldType := fun k => match k with
  | 0 => .object "SieveBench$State"
  | 1 => .object "SieveBench$State"
  | 2 => .array (.object "SieveBench$State")
  | 3 => .object "SieveBench$SampleText"
  | 4 => .int
  | _ => .int
abbrev wsX30 : List Cond := u_ws RX3 TX3 6
theorem nmX3 : ∀ a, a < 6 → ∀ b, b < 6 → a ≠ b → (TX3 a).2.1 ≠ (TX3 b).2.1 := by decide +kernel
theorem tyX3_ok : ∀ k, k < 6 → parseFieldDescriptor (TX3 k).2.2.1 = some (tyX3 k) := by decide +kernel
abbrev cX3_init : ByteArray := prog_1_method_1_code
def yX3_init : MethodName := ⟨RX3, "<init>", "()V"⟩
abbrev cX3_setMass : ByteArray := prog_1_method_2_code
def yX3_setMass : MethodName := ⟨RX3, "setMass", "(II)I"⟩
abbrev cX3_mass : ByteArray := prog_1_method_3_code
def yX3_mass : MethodName := ⟨RX3, "mass", "(I)I"⟩
abbrev cX3_reserve : ByteArray := prog_1_method_4_code
def yX3_reserve : MethodName := ⟨RX3, "reserve", "(I)I"⟩
abbrev cX3_split : ByteArray := prog_1_method_5_code
def yX3_split : MethodName := ⟨RX3, "split", "(I)I"⟩
abbrev cX3_splitTo : ByteArray := prog_1_method_6_code
def yX3_splitTo : MethodName := ⟨RX3, "splitTo", "(I)I"⟩
abbrev cX3_combine : ByteArray := prog_1_method_7_code
def yX3_combine : MethodName := ⟨RX3, "combine", "()I"⟩
abbrev cX3_appendCharacter : ByteArray := prog_1_method_8_code
def yX3_appendCharacter : MethodName := ⟨RX3, "appendCharacter", "(I)I"⟩
abbrev cX3_clearText : ByteArray := prog_1_method_9_code
def yX3_clearText : MethodName := ⟨RX3, "clearText", "()I"⟩
abbrev cX3_load : ByteArray := prog_1_method_10_code
def yX3_load : MethodName := ⟨RX3, "load", "()I"⟩
abbrev cX3_addSieve : ByteArray := prog_1_method_11_code
def yX3_addSieve : MethodName := ⟨RX3, "addSieve", "(I)I"⟩
abbrev cX3_removeSieve : ByteArray := prog_1_method_12_code
def yX3_removeSieve : MethodName := ⟨RX3, "removeSieve", "(I)I"⟩
abbrev cX3_setRules : ByteArray := prog_1_method_13_code
def yX3_setRules : MethodName := ⟨RX3, "setRules", "(IIII)I"⟩
abbrev cX3_setBand : ByteArray := prog_1_method_14_code
def yX3_setBand : MethodName := ⟨RX3, "setBand", "(III)I"⟩
abbrev cX3_count : ByteArray := prog_1_method_15_code
def yX3_count : MethodName := ⟨RX3, "count", "(I)I"⟩
abbrev cX3_tray : ByteArray := prog_1_method_16_code
def yX3_tray : MethodName := ⟨RX3, "tray", "(II)I"⟩
abbrev cX3_on : ByteArray := prog_1_method_17_code
def yX3_on : MethodName := ⟨RX3, "on", "(II)I"⟩
abbrev cX3_charge : ByteArray := prog_1_method_18_code
def yX3_charge : MethodName := ⟨RX3, "charge", "()I"⟩
abbrev cX3_shake : ByteArray := prog_1_method_19_code
def yX3_shake : MethodName := ⟨RX3, "shake", "(I)I"⟩
abbrev cX3_collect : ByteArray := prog_1_method_20_code
def yX3_collect : MethodName := ⟨RX3, "collect", "(I)I"⟩
abbrev cX3_brush : ByteArray := prog_1_method_21_code
def yX3_brush : MethodName := ⟨RX3, "brush", "(II)I"⟩
abbrev cX3_loss : ByteArray := prog_1_method_22_code
def yX3_loss : MethodName := ⟨RX3, "loss", "()I"⟩
abbrev cX3_isGood : ByteArray := prog_1_method_23_code
def yX3_isGood : MethodName := ⟨RX3, "isGood", "()I"⟩
abbrev cX3_passing : ByteArray := prog_1_method_24_code
def yX3_passing : MethodName := ⟨RX3, "passing", "(I)I"⟩
abbrev cX3_misses : ByteArray := prog_1_method_25_code
def yX3_misses : MethodName := ⟨RX3, "misses", "()I"⟩
abbrev cX3_modulus : ByteArray := prog_1_method_26_code
def yX3_modulus : MethodName := ⟨RX3, "modulus", "()I"⟩
abbrev cX3_truePassing : ByteArray := prog_1_method_27_code
def yX3_truePassing : MethodName := ⟨RX3, "truePassing", "(I)I"⟩
abbrev cX3_minutesTo : ByteArray := prog_1_method_28_code
def yX3_minutesTo : MethodName := ⟨RX3, "minutesTo", "(I)I"⟩
abbrev cX3_dustIn : ByteArray := prog_1_method_29_code
def yX3_dustIn : MethodName := ⟨RX3, "dustIn", "(I)I"⟩
abbrev cX3_undo : ByteArray := prog_1_method_30_code
def yX3_undo : MethodName := ⟨RX3, "undo", "()I"⟩
abbrev cX3_saveState : ByteArray := prog_1_method_31_code
def yX3_saveState : MethodName := ⟨RX3, "saveState", "()V"⟩
abbrev cX3_isIn : ByteArray := prog_1_method_32_code
def yX3_isIn : MethodName := ⟨RX3, "isIn", "(III)Z"⟩
abbrev cX3_isClass : ByteArray := prog_1_method_33_code
def yX3_isClass : MethodName := ⟨RX3, "isClass", "(I)Z"⟩
abbrev cX3_massIn : ByteArray := prog_1_method_34_code
def yX3_massIn : MethodName := ⟨RX3, "massIn", "([II)I"⟩
abbrev cX3_sumOf : ByteArray := prog_1_method_35_code
def yX3_sumOf : MethodName := ⟨RX3, "sumOf", "([I)I"⟩
abbrev cX3_clearRow : ByteArray := prog_1_method_36_code
def yX3_clearRow : MethodName := ⟨RX3, "clearRow", "([I)V"⟩
abbrev cX3_copyRow : ByteArray := prog_1_method_37_code
def yX3_copyRow : MethodName := ⟨RX3, "copyRow", "([I[I)V"⟩
abbrev cX3_perThousand : ByteArray := prog_1_method_38_code
def yX3_perThousand : MethodName := ⟨RX3, "perThousand", "(II)I"⟩
def RX4 : String := "SieveBenchModel"
def TX4 : u_T := fun k => match k with
  | 0 => ("SieveBenchModel", "s", "[I", true)
  | 1 => ("SieveBenchModel", "past", "[I", true)
  | 2 => ("SieveBenchModel", "pasts", "I", false)
  | 3 => ("SieveBenchModel", "text", "[B", true)
  | 4 => ("SieveBenchModel", "typed", "I", false)
  | 5 => ("SieveBenchModel", "kept", "[I", true)
  | 6 => ("SieveBenchModel", "told", "[I", true)
  | _ => ("SieveBenchModel", "next", "I", false)
def tyX4 : Nat → FieldType := fun k => match k with
  | 0 => .array .int
  | 1 => .array .int
  | 2 => .int
  | 3 => .array .byte
  | 4 => .int
  | 5 => .array .int
  | 6 => .array .int
  | _ => .int
abbrev wsX40 : List Cond := u_ws RX4 TX4 8
theorem nmX4 : ∀ a, a < 8 → ∀ b, b < 8 → a ≠ b → (TX4 a).2.1 ≠ (TX4 b).2.1 := by decide +kernel
theorem tyX4_ok : ∀ k, k < 8 → parseFieldDescriptor (TX4 k).2.2.1 = some (tyX4 k) := by decide +kernel
abbrev cX4_init : ByteArray := prog_6_method_1_code
def yX4_init : MethodName := ⟨RX4, "<init>", "()V"⟩
abbrev cX4_in : ByteArray := prog_6_method_3_code
def yX4_in : MethodName := ⟨RX4, "in", "(III)Z"⟩
abbrev cX4_notes : ByteArray := prog_6_method_4_code
def yX4_notes : MethodName := ⟨RX4, "notes", "()V"⟩
abbrev cX4_undo : ByteArray := prog_6_method_5_code
def yX4_undo : MethodName := ⟨RX4, "undo", "()I"⟩
abbrev cX4_sum : ByteArray := prog_6_method_6_code
def yX4_sum : MethodName := ⟨RX4, "sum", "(I)I"⟩
abbrev cX4_setMass : ByteArray := prog_6_method_7_code
def yX4_setMass : MethodName := ⟨RX4, "setMass", "(II)I"⟩
abbrev cX4_massAt : ByteArray := prog_6_method_8_code
def yX4_massAt : MethodName := ⟨RX4, "massAt", "(II)I"⟩
abbrev cX4_mass : ByteArray := prog_6_method_9_code
def yX4_mass : MethodName := ⟨RX4, "mass", "(I)I"⟩
abbrev cX4_reserve : ByteArray := prog_6_method_10_code
def yX4_reserve : MethodName := ⟨RX4, "reserve", "(I)I"⟩
abbrev cX4_divides : ByteArray := prog_6_method_11_code
def yX4_divides : MethodName := ⟨RX4, "divides", "(I)V"⟩
abbrev cX4_split : ByteArray := prog_6_method_12_code
def yX4_split : MethodName := ⟨RX4, "split", "(I)I"⟩
abbrev cX4_splitTo : ByteArray := prog_6_method_13_code
def yX4_splitTo : MethodName := ⟨RX4, "splitTo", "(I)I"⟩
abbrev cX4_combine : ByteArray := prog_6_method_14_code
def yX4_combine : MethodName := ⟨RX4, "combine", "()I"⟩
abbrev cX4_appendCharacter : ByteArray := prog_6_method_15_code
def yX4_appendCharacter : MethodName := ⟨RX4, "appendCharacter", "(I)I"⟩
abbrev cX4_clearText : ByteArray := prog_6_method_16_code
def yX4_clearText : MethodName := ⟨RX4, "clearText", "()I"⟩
abbrev cX4_here : ByteArray := prog_6_method_17_code
def yX4_here : MethodName := ⟨RX4, "here", "()I"⟩
abbrev cX4_readsPair : ByteArray := prog_6_method_18_code
def yX4_readsPair : MethodName := ⟨RX4, "readsPair", "()Z"⟩
abbrev cX4_reads : ByteArray := prog_6_method_19_code
def yX4_reads : MethodName := ⟨RX4, "reads", "()Z"⟩
abbrev cX4_load : ByteArray := prog_6_method_20_code
def yX4_load : MethodName := ⟨RX4, "load", "()I"⟩
abbrev cX4_at : ByteArray := prog_6_method_21_code
def yX4_at : MethodName := ⟨RX4, "at", "(I)I"⟩
abbrev cX4_trayWith : ByteArray := prog_6_method_22_code
def yX4_trayWith : MethodName := ⟨RX4, "trayWith", "(I)I"⟩
abbrev cX4_ends : ByteArray := prog_6_method_23_code
def yX4_ends : MethodName := ⟨RX4, "ends", "()V"⟩
abbrev cX4_addSieve : ByteArray := prog_6_method_24_code
def yX4_addSieve : MethodName := ⟨RX4, "addSieve", "(I)I"⟩
abbrev cX4_removeSieve : ByteArray := prog_6_method_25_code
def yX4_removeSieve : MethodName := ⟨RX4, "removeSieve", "(I)I"⟩
abbrev cX4_changes : ByteArray := prog_6_method_26_code
def yX4_changes : MethodName := ⟨RX4, "changes", "(II)I"⟩
abbrev cX4_setRules : ByteArray := prog_6_method_27_code
def yX4_setRules : MethodName := ⟨RX4, "setRules", "(IIII)I"⟩
abbrev cX4_setBand : ByteArray := prog_6_method_28_code
def yX4_setBand : MethodName := ⟨RX4, "setBand", "(III)I"⟩
abbrev cX4_count : ByteArray := prog_6_method_29_code
def yX4_count : MethodName := ⟨RX4, "count", "(I)I"⟩
abbrev cX4_isTray : ByteArray := prog_6_method_30_code
def yX4_isTray : MethodName := ⟨RX4, "isTray", "(I)Z"⟩
abbrev cX4_isSieve : ByteArray := prog_6_method_31_code
def yX4_isSieve : MethodName := ⟨RX4, "isSieve", "(I)Z"⟩
abbrev cX4_openness : ByteArray := prog_6_method_32_code
def yX4_openness : MethodName := ⟨RX4, "openness", "(I)I"⟩
abbrev cX4_tray : ByteArray := prog_6_method_33_code
def yX4_tray : MethodName := ⟨RX4, "tray", "(II)I"⟩
abbrev cX4_on : ByteArray := prog_6_method_34_code
def yX4_on : MethodName := ⟨RX4, "on", "(II)I"⟩
abbrev cX4_charge : ByteArray := prog_6_method_35_code
def yX4_charge : MethodName := ⟨RX4, "charge", "()I"⟩
abbrev cX4_falling : ByteArray := prog_6_method_36_code
def yX4_falling : MethodName := ⟨RX4, "falling", "(III)I"⟩
abbrev cX4_minute : ByteArray := prog_6_method_37_code
def yX4_minute : MethodName := ⟨RX4, "minute", "()I"⟩
abbrev cX4_shake : ByteArray := prog_6_method_38_code
def yX4_shake : MethodName := ⟨RX4, "shake", "(I)I"⟩
abbrev cX4_collect : ByteArray := prog_6_method_39_code
def yX4_collect : MethodName := ⟨RX4, "collect", "(I)I"⟩
abbrev cX4_brush : ByteArray := prog_6_method_40_code
def yX4_brush : MethodName := ⟨RX4, "brush", "(II)I"⟩
abbrev cX4_lost : ByteArray := prog_6_method_41_code
def yX4_lost : MethodName := ⟨RX4, "lost", "()I"⟩
abbrev cX4_loss : ByteArray := prog_6_method_42_code
def yX4_loss : MethodName := ⟨RX4, "loss", "()I"⟩
abbrev cX4_isGood : ByteArray := prog_6_method_43_code
def yX4_isGood : MethodName := ⟨RX4, "isGood", "()I"⟩
abbrev cX4_collected : ByteArray := prog_6_method_44_code
def yX4_collected : MethodName := ⟨RX4, "collected", "(I)I"⟩
abbrev cX4_isTold : ByteArray := prog_6_method_45_code
def yX4_isTold : MethodName := ⟨RX4, "isTold", "()Z"⟩
abbrev cX4_passes : ByteArray := prog_6_method_46_code
def yX4_passes : MethodName := ⟨RX4, "passes", "(I)I"⟩
abbrev cX4_passing : ByteArray := prog_6_method_47_code
def yX4_passing : MethodName := ⟨RX4, "passing", "(I)I"⟩
abbrev cX4_misses : ByteArray := prog_6_method_48_code
def yX4_misses : MethodName := ⟨RX4, "misses", "()I"⟩
abbrev cX4_modulus : ByteArray := prog_6_method_49_code
def yX4_modulus : MethodName := ⟨RX4, "modulus", "()I"⟩
abbrev cX4_truePassing : ByteArray := prog_6_method_50_code
def yX4_truePassing : MethodName := ⟨RX4, "truePassing", "(I)I"⟩
abbrev cX4_keeps : ByteArray := prog_6_method_51_code
def yX4_keeps : MethodName := ⟨RX4, "keeps", "()V"⟩
abbrev cX4_restores : ByteArray := prog_6_method_52_code
def yX4_restores : MethodName := ⟨RX4, "restores", "()V"⟩
abbrev cX4_minutesTo : ByteArray := prog_6_method_53_code
def yX4_minutesTo : MethodName := ⟨RX4, "minutesTo", "(I)I"⟩
abbrev cX4_dustIn : ByteArray := prog_6_method_54_code
def yX4_dustIn : MethodName := ⟨RX4, "dustIn", "(I)I"⟩
def RJ9 : String := "java/lang/Math"
def TJ9 : u_T := fun k => match k with
  | _ => ("", "", "", false)
def tyJ9 : Nat → FieldType := fun k => match k with
  | _ => .int
abbrev wsJ90 : List Cond := u_ws RJ9 TJ9 0
theorem nmJ9 : ∀ a, a < 0 → ∀ b, b < 0 → a ≠ b → (TJ9 a).2.1 ≠ (TJ9 b).2.1 := by decide +kernel
theorem tyJ9_ok : ∀ k, k < 0 → parseFieldDescriptor (TJ9 k).2.2.1 = some (tyJ9 k) := by decide +kernel
abbrev cJ9_max_7cf53 : ByteArray := prog_7_method_65_code
def yJ9_max_7cf53 : MethodName := ⟨RJ9, "max", "(II)I"⟩
abbrev cJ9_max_f86c9 : ByteArray := prog_7_method_66_code
def yJ9_max_f86c9 : MethodName := ⟨RJ9, "max", "(JJ)J"⟩
abbrev cJ9_min_7cf53 : ByteArray := prog_7_method_69_code
def yJ9_min_7cf53 : MethodName := ⟨RJ9, "min", "(II)I"⟩
def RJ10 : String := "java/lang/System"
def TJ10 : u_T := fun k => match k with
  | _ => ("", "", "", false)
def tyJ10 : Nat → FieldType := fun k => match k with
  | _ => .int
abbrev wsJ100 : List Cond := u_ws RJ10 TJ10 0
theorem nmJ10 : ∀ a, a < 0 → ∀ b, b < 0 → a ≠ b → (TJ10 a).2.1 ≠ (TJ10 b).2.1 := by decide +kernel
theorem tyJ10_ok : ∀ k, k < 0 → parseFieldDescriptor (TJ10 k).2.2.1 = some (tyJ10 k) := by decide +kernel
def RL : String := "SieveBenchLaw"
abbrev cL_law : ByteArray := code
def yL_law : MethodName := ⟨RL, "law", "([I)Z"⟩
abbrev vwCl : List vw_C := [(RX0, TX0, 5), (RX1, TX1, 14), (RX2, TX2, 4), (RX3, TX3, 6), (RX4, TX4, 8)]
end
section
theorem dX0_init_0 : decode cX0_init 0 = .ok (.aload_n 0, 1) := by decide +kernel
theorem dX0_init_1 : decode cX0_init 1 = .ok (.invokespecial 3, 3) := by decide +kernel
theorem dX0_init_4 : decode cX0_init 4 = .ok (.aload_n 0, 1) := by decide +kernel
theorem dX0_init_5 : decode cX0_init 5 = .ok (.bipush 80, 2) := by decide +kernel
theorem dX0_init_7 : decode cX0_init 7 = .ok (.newarray .char, 2) := by decide +kernel
theorem dX0_init_9 : decode cX0_init 9 = .ok (.putfield 9, 3) := by decide +kernel
theorem dX0_init_12 : decode cX0_init 12 = .ok (.aload_n 0, 1) := by decide +kernel
theorem dX0_init_13 : decode cX0_init 13 = .ok (.bipush 10, 2) := by decide +kernel
theorem dX0_init_15 : decode cX0_init 15 = .ok (.newarray .int, 2) := by decide +kernel
theorem dX0_init_17 : decode cX0_init 17 = .ok (.putfield 15, 3) := by decide +kernel
theorem dX0_init_20 : decode cX0_init 20 = .ok (.aload_n 0, 1) := by decide +kernel
theorem dX0_init_21 : decode cX0_init 21 = .ok (.bipush 10, 2) := by decide +kernel
theorem dX0_init_23 : decode cX0_init 23 = .ok (.newarray .boolean, 2) := by decide +kernel
theorem dX0_init_25 : decode cX0_init 25 = .ok (.putfield 19, 3) := by decide +kernel
theorem dX0_init_28 : decode cX0_init 28 = .ok (.return_, 1) := by decide +kernel
theorem dX0_readPairs_0 : decode cX0_readPairs 0 = .ok (.aload_n 0, 1) := by decide +kernel
theorem dX0_readPairs_1 : decode cX0_readPairs 1 = .ok (.invokevirtual 23, 3) := by decide +kernel
theorem dX0_readPairs_4 : decode cX0_readPairs 4 = .ok (.aload_n 0, 1) := by decide +kernel
theorem dX0_readPairs_5 : decode cX0_readPairs 5 = .ok (.invokevirtual 26, 3) := by decide +kernel
theorem dX0_readPairs_8 : decode cX0_readPairs 8 = .ok (.aload_n 0, 1) := by decide +kernel
theorem dX0_readPairs_9 : decode cX0_readPairs 9 = .ok (.getfield 29, 3) := by decide +kernel
theorem dX0_readPairs_12 : decode cX0_readPairs 12 = .ok (.aload_n 0, 1) := by decide +kernel
theorem dX0_readPairs_13 : decode cX0_readPairs 13 = .ok (.getfield 33, 3) := by decide +kernel
theorem dX0_readPairs_16 : decode cX0_readPairs 16 = .ok (.if_icmp .lt 5, 3) := by decide +kernel
theorem dX0_readPairs_19 : decode cX0_readPairs 19 = .ok (.iconst (-1), 1) := by decide +kernel
theorem dX0_readPairs_20 : decode cX0_readPairs 20 = .ok (.ireturn, 1) := by decide +kernel
theorem dX0_readPairs_21 : decode cX0_readPairs 21 = .ok (.iconst 0, 1) := by decide +kernel
theorem dX0_readPairs_22 : decode cX0_readPairs 22 = .ok (.istore_n 1, 1) := by decide +kernel
theorem dX0_readPairs_23 : decode cX0_readPairs 23 = .ok (.iload_n 1, 1) := by decide +kernel
theorem dX0_readPairs_24 : decode cX0_readPairs 24 = .ok (.bipush 10, 2) := by decide +kernel
theorem dX0_readPairs_26 : decode cX0_readPairs 26 = .ok (.if_icmp .gt 62, 3) := by decide +kernel
theorem dX0_readPairs_29 : decode cX0_readPairs 29 = .ok (.aload_n 0, 1) := by decide +kernel
theorem dX0_readPairs_30 : decode cX0_readPairs 30 = .ok (.invokevirtual 36, 3) := by decide +kernel
theorem dX0_readPairs_33 : decode cX0_readPairs 33 = .ok (.istore_n 2, 1) := by decide +kernel
theorem dX0_readPairs_34 : decode cX0_readPairs 34 = .ok (.iload_n 2, 1) := by decide +kernel
theorem dX0_readPairs_35 : decode cX0_readPairs 35 = .ok (.iconst (-1), 1) := by decide +kernel
theorem dX0_readPairs_36 : decode cX0_readPairs 36 = .ok (.if_icmp .eq 5, 3) := by decide +kernel
theorem dX0_readPairs_39 : decode cX0_readPairs 39 = .ok (.iload_n 2, 1) := by decide +kernel
theorem dX0_readPairs_40 : decode cX0_readPairs 40 = .ok (.ireturn, 1) := by decide +kernel
theorem dX0_readPairs_41 : decode cX0_readPairs 41 = .ok (.aload_n 0, 1) := by decide +kernel
theorem dX0_readPairs_42 : decode cX0_readPairs 42 = .ok (.invokevirtual 26, 3) := by decide +kernel
theorem dX0_readPairs_45 : decode cX0_readPairs 45 = .ok (.aload_n 0, 1) := by decide +kernel
theorem dX0_readPairs_46 : decode cX0_readPairs 46 = .ok (.getfield 29, 3) := by decide +kernel
theorem dX0_readPairs_49 : decode cX0_readPairs 49 = .ok (.aload_n 0, 1) := by decide +kernel
theorem dX0_readPairs_50 : decode cX0_readPairs 50 = .ok (.getfield 33, 3) := by decide +kernel
theorem dX0_readPairs_53 : decode cX0_readPairs 53 = .ok (.if_icmp .lt 5, 3) := by decide +kernel
theorem dX0_readPairs_56 : decode cX0_readPairs 56 = .ok (.iconst (-1), 1) := by decide +kernel
theorem dX0_readPairs_57 : decode cX0_readPairs 57 = .ok (.ireturn, 1) := by decide +kernel
theorem dX0_readPairs_58 : decode cX0_readPairs 58 = .ok (.aload_n 0, 1) := by decide +kernel
theorem dX0_readPairs_59 : decode cX0_readPairs 59 = .ok (.bipush 44, 2) := by decide +kernel
theorem dX0_readPairs_61 : decode cX0_readPairs 61 = .ok (.invokevirtual 40, 3) := by decide +kernel
theorem dX0_readPairs_64 : decode cX0_readPairs 64 = .ok (.ifCond .ne 8, 3) := by decide +kernel
theorem dX0_readPairs_67 : decode cX0_readPairs 67 = .ok (.aload_n 0, 1) := by decide +kernel
theorem dX0_readPairs_68 : decode cX0_readPairs 68 = .ok (.getfield 29, 3) := by decide +kernel
theorem dX0_readPairs_71 : decode cX0_readPairs 71 = .ok (.ireturn, 1) := by decide +kernel
theorem dX0_readPairs_72 : decode cX0_readPairs 72 = .ok (.aload_n 0, 1) := by decide +kernel
theorem dX0_readPairs_73 : decode cX0_readPairs 73 = .ok (.dup, 1) := by decide +kernel
theorem dX0_readPairs_74 : decode cX0_readPairs 74 = .ok (.getfield 29, 3) := by decide +kernel
theorem dX0_readPairs_77 : decode cX0_readPairs 77 = .ok (.iconst 1, 1) := by decide +kernel
theorem dX0_readPairs_78 : decode cX0_readPairs 78 = .ok (.iadd, 1) := by decide +kernel
theorem dX0_readPairs_79 : decode cX0_readPairs 79 = .ok (.putfield 29, 3) := by decide +kernel
theorem dX0_readPairs_82 : decode cX0_readPairs 82 = .ok (.iinc 1 1, 3) := by decide +kernel
theorem dX0_readPairs_85 : decode cX0_readPairs 85 = .ok (.goto (-62), 3) := by decide +kernel
theorem dX0_readPairs_88 : decode cX0_readPairs 88 = .ok (.aload_n 0, 1) := by decide +kernel
theorem dX0_readPairs_89 : decode cX0_readPairs 89 = .ok (.getfield 29, 3) := by decide +kernel
theorem dX0_readPairs_92 : decode cX0_readPairs 92 = .ok (.ireturn, 1) := by decide +kernel
theorem dX0_forget_0 : decode cX0_forget 0 = .ok (.iconst 0, 1) := by decide +kernel
theorem dX0_forget_1 : decode cX0_forget 1 = .ok (.istore_n 1, 1) := by decide +kernel
theorem dX0_forget_2 : decode cX0_forget 2 = .ok (.iload_n 1, 1) := by decide +kernel
theorem dX0_forget_3 : decode cX0_forget 3 = .ok (.bipush 10, 2) := by decide +kernel
theorem dX0_forget_5 : decode cX0_forget 5 = .ok (.if_icmp .ge 23, 3) := by decide +kernel
theorem dX0_forget_8 : decode cX0_forget 8 = .ok (.aload_n 0, 1) := by decide +kernel
theorem dX0_forget_9 : decode cX0_forget 9 = .ok (.getfield 15, 3) := by decide +kernel
theorem dX0_forget_12 : decode cX0_forget 12 = .ok (.iload_n 1, 1) := by decide +kernel
theorem dX0_forget_13 : decode cX0_forget 13 = .ok (.iconst 0, 1) := by decide +kernel
theorem dX0_forget_14 : decode cX0_forget 14 = .ok (.iastore, 1) := by decide +kernel
theorem dX0_forget_15 : decode cX0_forget 15 = .ok (.aload_n 0, 1) := by decide +kernel
theorem dX0_forget_16 : decode cX0_forget 16 = .ok (.getfield 19, 3) := by decide +kernel
theorem dX0_forget_19 : decode cX0_forget 19 = .ok (.iload_n 1, 1) := by decide +kernel
theorem dX0_forget_20 : decode cX0_forget 20 = .ok (.iconst 0, 1) := by decide +kernel
theorem dX0_forget_21 : decode cX0_forget 21 = .ok (.bastore, 1) := by decide +kernel
theorem dX0_forget_22 : decode cX0_forget 22 = .ok (.iinc 1 1, 3) := by decide +kernel
theorem dX0_forget_25 : decode cX0_forget 25 = .ok (.goto (-23), 3) := by decide +kernel
theorem dX0_forget_28 : decode cX0_forget 28 = .ok (.aload_n 0, 1) := by decide +kernel
theorem dX0_forget_29 : decode cX0_forget 29 = .ok (.iconst 0, 1) := by decide +kernel
theorem dX0_forget_30 : decode cX0_forget 30 = .ok (.putfield 29, 3) := by decide +kernel
theorem dX0_forget_33 : decode cX0_forget 33 = .ok (.return_, 1) := by decide +kernel
theorem dX0_readPair_0 : decode cX0_readPair 0 = .ok (.aload_n 0, 1) := by decide +kernel
theorem dX0_readPair_1 : decode cX0_readPair 1 = .ok (.invokevirtual 26, 3) := by decide +kernel
theorem dX0_readPair_4 : decode cX0_readPair 4 = .ok (.aload_n 0, 1) := by decide +kernel
theorem dX0_readPair_5 : decode cX0_readPair 5 = .ok (.invokevirtual 44, 3) := by decide +kernel
theorem dX0_readPair_8 : decode cX0_readPair 8 = .ok (.ifCond .ne 8, 3) := by decide +kernel
theorem dX0_readPair_11 : decode cX0_readPair 11 = .ok (.aload_n 0, 1) := by decide +kernel
theorem dX0_readPair_12 : decode cX0_readPair 12 = .ok (.getfield 29, 3) := by decide +kernel
theorem dX0_readPair_15 : decode cX0_readPair 15 = .ok (.ireturn, 1) := by decide +kernel
theorem dX0_readPair_16 : decode cX0_readPair 16 = .ok (.aload_n 0, 1) := by decide +kernel
theorem dX0_readPair_17 : decode cX0_readPair 17 = .ok (.invokevirtual 48, 3) := by decide +kernel
theorem dX0_readPair_20 : decode cX0_readPair 20 = .ok (.istore_n 1, 1) := by decide +kernel
theorem dX0_readPair_21 : decode cX0_readPair 21 = .ok (.aload_n 0, 1) := by decide +kernel
theorem dX0_readPair_22 : decode cX0_readPair 22 = .ok (.getfield 19, 3) := by decide +kernel
theorem dX0_readPair_25 : decode cX0_readPair 25 = .ok (.iload_n 1, 1) := by decide +kernel
theorem dX0_readPair_26 : decode cX0_readPair 26 = .ok (.baload, 1) := by decide +kernel
theorem dX0_readPair_27 : decode cX0_readPair 27 = .ok (.ifCond .eq 8, 3) := by decide +kernel
theorem dX0_readPair_30 : decode cX0_readPair 30 = .ok (.aload_n 0, 1) := by decide +kernel
theorem dX0_readPair_31 : decode cX0_readPair 31 = .ok (.getfield 29, 3) := by decide +kernel
theorem dX0_readPair_34 : decode cX0_readPair 34 = .ok (.ireturn, 1) := by decide +kernel
theorem dX0_readPair_35 : decode cX0_readPair 35 = .ok (.aload_n 0, 1) := by decide +kernel
theorem dX0_readPair_36 : decode cX0_readPair 36 = .ok (.getfield 19, 3) := by decide +kernel
theorem dX0_readPair_39 : decode cX0_readPair 39 = .ok (.iload_n 1, 1) := by decide +kernel
theorem dX0_readPair_40 : decode cX0_readPair 40 = .ok (.iconst 1, 1) := by decide +kernel
theorem dX0_readPair_41 : decode cX0_readPair 41 = .ok (.bastore, 1) := by decide +kernel
theorem dX0_readPair_42 : decode cX0_readPair 42 = .ok (.aload_n 0, 1) := by decide +kernel
theorem dX0_readPair_43 : decode cX0_readPair 43 = .ok (.dup, 1) := by decide +kernel
theorem dX0_readPair_44 : decode cX0_readPair 44 = .ok (.getfield 29, 3) := by decide +kernel
theorem dX0_readPair_47 : decode cX0_readPair 47 = .ok (.iconst 1, 1) := by decide +kernel
theorem dX0_readPair_48 : decode cX0_readPair 48 = .ok (.iadd, 1) := by decide +kernel
theorem dX0_readPair_49 : decode cX0_readPair 49 = .ok (.putfield 29, 3) := by decide +kernel
theorem dX0_readPair_52 : decode cX0_readPair 52 = .ok (.aload_n 0, 1) := by decide +kernel
theorem dX0_readPair_53 : decode cX0_readPair 53 = .ok (.invokevirtual 26, 3) := by decide +kernel
theorem dX0_readPair_56 : decode cX0_readPair 56 = .ok (.aload_n 0, 1) := by decide +kernel
theorem dX0_readPair_57 : decode cX0_readPair 57 = .ok (.bipush 58, 2) := by decide +kernel
theorem dX0_readPair_59 : decode cX0_readPair 59 = .ok (.invokevirtual 40, 3) := by decide +kernel
theorem dX0_readPair_62 : decode cX0_readPair 62 = .ok (.ifCond .ne 8, 3) := by decide +kernel
theorem dX0_readPair_65 : decode cX0_readPair 65 = .ok (.aload_n 0, 1) := by decide +kernel
theorem dX0_readPair_66 : decode cX0_readPair 66 = .ok (.getfield 29, 3) := by decide +kernel
theorem dX0_readPair_69 : decode cX0_readPair 69 = .ok (.ireturn, 1) := by decide +kernel
theorem dX0_readPair_70 : decode cX0_readPair 70 = .ok (.aload_n 0, 1) := by decide +kernel
theorem dX0_readPair_71 : decode cX0_readPair 71 = .ok (.dup, 1) := by decide +kernel
theorem dX0_readPair_72 : decode cX0_readPair 72 = .ok (.getfield 29, 3) := by decide +kernel
theorem dX0_readPair_75 : decode cX0_readPair 75 = .ok (.iconst 1, 1) := by decide +kernel
theorem dX0_readPair_76 : decode cX0_readPair 76 = .ok (.iadd, 1) := by decide +kernel
theorem dX0_readPair_77 : decode cX0_readPair 77 = .ok (.putfield 29, 3) := by decide +kernel
theorem dX0_readPair_80 : decode cX0_readPair 80 = .ok (.aload_n 0, 1) := by decide +kernel
theorem dX0_readPair_81 : decode cX0_readPair 81 = .ok (.invokevirtual 26, 3) := by decide +kernel
theorem dX0_readPair_84 : decode cX0_readPair 84 = .ok (.aload_n 0, 1) := by decide +kernel
theorem dX0_readPair_85 : decode cX0_readPair 85 = .ok (.iload_n 1, 1) := by decide +kernel
theorem dX0_readPair_86 : decode cX0_readPair 86 = .ok (.invokevirtual 51, 3) := by decide +kernel
theorem dX0_readPair_89 : decode cX0_readPair 89 = .ok (.ireturn, 1) := by decide +kernel
theorem dX0_readMass_0 : decode cX0_readMass 0 = .ok (.aload_n 0, 1) := by decide +kernel
theorem dX0_readMass_1 : decode cX0_readMass 1 = .ok (.getfield 29, 3) := by decide +kernel
theorem dX0_readMass_4 : decode cX0_readMass 4 = .ok (.istore_n 2, 1) := by decide +kernel
theorem dX0_readMass_5 : decode cX0_readMass 5 = .ok (.iconst 0, 1) := by decide +kernel
theorem dX0_readMass_6 : decode cX0_readMass 6 = .ok (.istore_n 3, 1) := by decide +kernel
theorem dX0_readMass_7 : decode cX0_readMass 7 = .ok (.aload_n 0, 1) := by decide +kernel
theorem dX0_readMass_8 : decode cX0_readMass 8 = .ok (.getfield 29, 3) := by decide +kernel
theorem dX0_readMass_11 : decode cX0_readMass 11 = .ok (.aload_n 0, 1) := by decide +kernel
theorem dX0_readMass_12 : decode cX0_readMass 12 = .ok (.getfield 33, 3) := by decide +kernel
theorem dX0_readMass_15 : decode cX0_readMass 15 = .ok (.if_icmp .ge 33, 3) := by decide +kernel
theorem dX0_readMass_18 : decode cX0_readMass 18 = .ok (.aload_n 0, 1) := by decide +kernel
theorem dX0_readMass_19 : decode cX0_readMass 19 = .ok (.invokevirtual 44, 3) := by decide +kernel
theorem dX0_readMass_22 : decode cX0_readMass 22 = .ok (.ifCond .eq 26, 3) := by decide +kernel
theorem dX0_readMass_25 : decode cX0_readMass 25 = .ok (.iload_n 3, 1) := by decide +kernel
theorem dX0_readMass_26 : decode cX0_readMass 26 = .ok (.bipush 10, 2) := by decide +kernel
theorem dX0_readMass_28 : decode cX0_readMass 28 = .ok (.imul, 1) := by decide +kernel
theorem dX0_readMass_29 : decode cX0_readMass 29 = .ok (.aload_n 0, 1) := by decide +kernel
theorem dX0_readMass_30 : decode cX0_readMass 30 = .ok (.invokevirtual 48, 3) := by decide +kernel
theorem dX0_readMass_33 : decode cX0_readMass 33 = .ok (.iadd, 1) := by decide +kernel
theorem dX0_readMass_34 : decode cX0_readMass 34 = .ok (.istore_n 3, 1) := by decide +kernel
theorem dX0_readMass_35 : decode cX0_readMass 35 = .ok (.aload_n 0, 1) := by decide +kernel
theorem dX0_readMass_36 : decode cX0_readMass 36 = .ok (.dup, 1) := by decide +kernel
theorem dX0_readMass_37 : decode cX0_readMass 37 = .ok (.getfield 29, 3) := by decide +kernel
theorem dX0_readMass_40 : decode cX0_readMass 40 = .ok (.iconst 1, 1) := by decide +kernel
theorem dX0_readMass_41 : decode cX0_readMass 41 = .ok (.iadd, 1) := by decide +kernel
theorem dX0_readMass_42 : decode cX0_readMass 42 = .ok (.putfield 29, 3) := by decide +kernel
theorem dX0_readMass_45 : decode cX0_readMass 45 = .ok (.goto (-38), 3) := by decide +kernel
theorem dX0_readMass_48 : decode cX0_readMass 48 = .ok (.aload_n 0, 1) := by decide +kernel
theorem dX0_readMass_49 : decode cX0_readMass 49 = .ok (.getfield 29, 3) := by decide +kernel
theorem dX0_readMass_52 : decode cX0_readMass 52 = .ok (.iload_n 2, 1) := by decide +kernel
theorem dX0_readMass_53 : decode cX0_readMass 53 = .ok (.isub, 1) := by decide +kernel
theorem dX0_readMass_54 : decode cX0_readMass 54 = .ok (.istore 4, 2) := by decide +kernel
theorem dX0_readMass_56 : decode cX0_readMass 56 = .ok (.iload 4, 2) := by decide +kernel
theorem dX0_readMass_58 : decode cX0_readMass 58 = .ok (.ifCond .ne 8, 3) := by decide +kernel
theorem dX0_readMass_61 : decode cX0_readMass 61 = .ok (.aload_n 0, 1) := by decide +kernel
theorem dX0_readMass_62 : decode cX0_readMass 62 = .ok (.getfield 29, 3) := by decide +kernel
theorem dX0_readMass_65 : decode cX0_readMass 65 = .ok (.ireturn, 1) := by decide +kernel
theorem dX0_readMass_66 : decode cX0_readMass 66 = .ok (.iload 4, 2) := by decide +kernel
theorem dX0_readMass_68 : decode cX0_readMass 68 = .ok (.iconst 1, 1) := by decide +kernel
theorem dX0_readMass_69 : decode cX0_readMass 69 = .ok (.if_icmp .le 18, 3) := by decide +kernel
theorem dX0_readMass_72 : decode cX0_readMass 72 = .ok (.aload_n 0, 1) := by decide +kernel
theorem dX0_readMass_73 : decode cX0_readMass 73 = .ok (.getfield 9, 3) := by decide +kernel
theorem dX0_readMass_76 : decode cX0_readMass 76 = .ok (.iload_n 2, 1) := by decide +kernel
theorem dX0_readMass_77 : decode cX0_readMass 77 = .ok (.caload, 1) := by decide +kernel
theorem dX0_readMass_78 : decode cX0_readMass 78 = .ok (.bipush 48, 2) := by decide +kernel
theorem dX0_readMass_80 : decode cX0_readMass 80 = .ok (.if_icmp .ne 7, 3) := by decide +kernel
theorem dX0_readMass_83 : decode cX0_readMass 83 = .ok (.iconst 1, 1) := by decide +kernel
theorem dX0_readMass_84 : decode cX0_readMass 84 = .ok (.goto 4, 3) := by decide +kernel
theorem dX0_readMass_87 : decode cX0_readMass 87 = .ok (.iconst 0, 1) := by decide +kernel
theorem dX0_readMass_88 : decode cX0_readMass 88 = .ok (.istore 5, 2) := by decide +kernel
theorem dX0_readMass_90 : decode cX0_readMass 90 = .ok (.iload 5, 2) := by decide +kernel
theorem dX0_readMass_92 : decode cX0_readMass 92 = .ok (.ifCond .ne 9, 3) := by decide +kernel
theorem dX0_readMass_95 : decode cX0_readMass 95 = .ok (.iload 4, 2) := by decide +kernel
theorem dX0_readMass_97 : decode cX0_readMass 97 = .ok (.iconst 4, 1) := by decide +kernel
theorem dX0_readMass_98 : decode cX0_readMass 98 = .ok (.if_icmp .le 5, 3) := by decide +kernel
theorem dX0_readMass_101 : decode cX0_readMass 101 = .ok (.iload_n 2, 1) := by decide +kernel
theorem dX0_readMass_102 : decode cX0_readMass 102 = .ok (.ireturn, 1) := by decide +kernel
theorem dX0_readMass_103 : decode cX0_readMass 103 = .ok (.aload_n 0, 1) := by decide +kernel
theorem dX0_readMass_104 : decode cX0_readMass 104 = .ok (.getfield 15, 3) := by decide +kernel
theorem dX0_readMass_107 : decode cX0_readMass 107 = .ok (.iload_n 1, 1) := by decide +kernel
theorem dX0_readMass_108 : decode cX0_readMass 108 = .ok (.iload_n 3, 1) := by decide +kernel
theorem dX0_readMass_109 : decode cX0_readMass 109 = .ok (.iastore, 1) := by decide +kernel
theorem dX0_readMass_110 : decode cX0_readMass 110 = .ok (.iconst (-1), 1) := by decide +kernel
theorem dX0_readMass_111 : decode cX0_readMass 111 = .ok (.ireturn, 1) := by decide +kernel
theorem dX0_skipSpaces_0 : decode cX0_skipSpaces 0 = .ok (.aload_n 0, 1) := by decide +kernel
theorem dX0_skipSpaces_1 : decode cX0_skipSpaces 1 = .ok (.getfield 29, 3) := by decide +kernel
theorem dX0_skipSpaces_4 : decode cX0_skipSpaces 4 = .ok (.aload_n 0, 1) := by decide +kernel
theorem dX0_skipSpaces_5 : decode cX0_skipSpaces 5 = .ok (.getfield 33, 3) := by decide +kernel
theorem dX0_skipSpaces_8 : decode cX0_skipSpaces 8 = .ok (.if_icmp .ge 25, 3) := by decide +kernel
theorem dX0_skipSpaces_11 : decode cX0_skipSpaces 11 = .ok (.aload_n 0, 1) := by decide +kernel
theorem dX0_skipSpaces_12 : decode cX0_skipSpaces 12 = .ok (.bipush 32, 2) := by decide +kernel
theorem dX0_skipSpaces_14 : decode cX0_skipSpaces 14 = .ok (.invokevirtual 40, 3) := by decide +kernel
theorem dX0_skipSpaces_17 : decode cX0_skipSpaces 17 = .ok (.ifCond .eq 16, 3) := by decide +kernel
theorem dX0_skipSpaces_20 : decode cX0_skipSpaces 20 = .ok (.aload_n 0, 1) := by decide +kernel
theorem dX0_skipSpaces_21 : decode cX0_skipSpaces 21 = .ok (.dup, 1) := by decide +kernel
theorem dX0_skipSpaces_22 : decode cX0_skipSpaces 22 = .ok (.getfield 29, 3) := by decide +kernel
theorem dX0_skipSpaces_25 : decode cX0_skipSpaces 25 = .ok (.iconst 1, 1) := by decide +kernel
theorem dX0_skipSpaces_26 : decode cX0_skipSpaces 26 = .ok (.iadd, 1) := by decide +kernel
theorem dX0_skipSpaces_27 : decode cX0_skipSpaces 27 = .ok (.putfield 29, 3) := by decide +kernel
theorem dX0_skipSpaces_30 : decode cX0_skipSpaces 30 = .ok (.goto (-30), 3) := by decide +kernel
theorem dX0_skipSpaces_33 : decode cX0_skipSpaces 33 = .ok (.return_, 1) := by decide +kernel
theorem dX0_isSign_0 : decode cX0_isSign 0 = .ok (.aload_n 0, 1) := by decide +kernel
theorem dX0_isSign_1 : decode cX0_isSign 1 = .ok (.getfield 29, 3) := by decide +kernel
theorem dX0_isSign_4 : decode cX0_isSign 4 = .ok (.aload_n 0, 1) := by decide +kernel
theorem dX0_isSign_5 : decode cX0_isSign 5 = .ok (.getfield 33, 3) := by decide +kernel
theorem dX0_isSign_8 : decode cX0_isSign 8 = .ok (.if_icmp .ge 20, 3) := by decide +kernel
theorem dX0_isSign_11 : decode cX0_isSign 11 = .ok (.aload_n 0, 1) := by decide +kernel
theorem dX0_isSign_12 : decode cX0_isSign 12 = .ok (.getfield 9, 3) := by decide +kernel
theorem dX0_isSign_15 : decode cX0_isSign 15 = .ok (.aload_n 0, 1) := by decide +kernel
theorem dX0_isSign_16 : decode cX0_isSign 16 = .ok (.getfield 29, 3) := by decide +kernel
theorem dX0_isSign_19 : decode cX0_isSign 19 = .ok (.caload, 1) := by decide +kernel
theorem dX0_isSign_20 : decode cX0_isSign 20 = .ok (.iload_n 1, 1) := by decide +kernel
theorem dX0_isSign_21 : decode cX0_isSign 21 = .ok (.if_icmp .ne 7, 3) := by decide +kernel
theorem dX0_isSign_24 : decode cX0_isSign 24 = .ok (.iconst 1, 1) := by decide +kernel
theorem dX0_isSign_25 : decode cX0_isSign 25 = .ok (.goto 4, 3) := by decide +kernel
theorem dX0_isSign_28 : decode cX0_isSign 28 = .ok (.iconst 0, 1) := by decide +kernel
theorem dX0_isSign_29 : decode cX0_isSign 29 = .ok (.ireturn, 1) := by decide +kernel
theorem dX0_isDigit_0 : decode cX0_isDigit 0 = .ok (.aload_n 0, 1) := by decide +kernel
theorem dX0_isDigit_1 : decode cX0_isDigit 1 = .ok (.getfield 29, 3) := by decide +kernel
theorem dX0_isDigit_4 : decode cX0_isDigit 4 = .ok (.aload_n 0, 1) := by decide +kernel
theorem dX0_isDigit_5 : decode cX0_isDigit 5 = .ok (.getfield 33, 3) := by decide +kernel
theorem dX0_isDigit_8 : decode cX0_isDigit 8 = .ok (.if_icmp .ge 26, 3) := by decide +kernel
theorem dX0_isDigit_11 : decode cX0_isDigit 11 = .ok (.aload_n 0, 1) := by decide +kernel
theorem dX0_isDigit_12 : decode cX0_isDigit 12 = .ok (.getfield 9, 3) := by decide +kernel
theorem dX0_isDigit_15 : decode cX0_isDigit 15 = .ok (.aload_n 0, 1) := by decide +kernel
theorem dX0_isDigit_16 : decode cX0_isDigit 16 = .ok (.getfield 29, 3) := by decide +kernel
theorem dX0_isDigit_19 : decode cX0_isDigit 19 = .ok (.caload, 1) := by decide +kernel
theorem dX0_isDigit_20 : decode cX0_isDigit 20 = .ok (.bipush 48, 2) := by decide +kernel
theorem dX0_isDigit_22 : decode cX0_isDigit 22 = .ok (.bipush 57, 2) := by decide +kernel
theorem dX0_isDigit_24 : decode cX0_isDigit 24 = .ok (.invokestatic 55, 3) := by decide +kernel
theorem dX0_isDigit_27 : decode cX0_isDigit 27 = .ok (.ifCond .eq 7, 3) := by decide +kernel
theorem dX0_isDigit_30 : decode cX0_isDigit 30 = .ok (.iconst 1, 1) := by decide +kernel
theorem dX0_isDigit_31 : decode cX0_isDigit 31 = .ok (.goto 4, 3) := by decide +kernel
theorem dX0_isDigit_34 : decode cX0_isDigit 34 = .ok (.iconst 0, 1) := by decide +kernel
theorem dX0_isDigit_35 : decode cX0_isDigit 35 = .ok (.ireturn, 1) := by decide +kernel
theorem dX0_digit_0 : decode cX0_digit 0 = .ok (.aload_n 0, 1) := by decide +kernel
theorem dX0_digit_1 : decode cX0_digit 1 = .ok (.getfield 9, 3) := by decide +kernel
theorem dX0_digit_4 : decode cX0_digit 4 = .ok (.aload_n 0, 1) := by decide +kernel
theorem dX0_digit_5 : decode cX0_digit 5 = .ok (.getfield 29, 3) := by decide +kernel
theorem dX0_digit_8 : decode cX0_digit 8 = .ok (.caload, 1) := by decide +kernel
theorem dX0_digit_9 : decode cX0_digit 9 = .ok (.bipush 48, 2) := by decide +kernel
theorem dX0_digit_11 : decode cX0_digit 11 = .ok (.isub, 1) := by decide +kernel
theorem dX0_digit_12 : decode cX0_digit 12 = .ok (.ireturn, 1) := by decide +kernel
theorem dX1_init_0 : decode cX1_init 0 = .ok (.aload_n 0, 1) := by decide +kernel
theorem dX1_init_1 : decode cX1_init 1 = .ok (.invokespecial 3, 3) := by decide +kernel
theorem dX1_init_4 : decode cX1_init 4 = .ok (.aload_n 0, 1) := by decide +kernel
theorem dX1_init_5 : decode cX1_init 5 = .ok (.bipush 10, 2) := by decide +kernel
theorem dX1_init_7 : decode cX1_init 7 = .ok (.newarray .int, 2) := by decide +kernel
theorem dX1_init_9 : decode cX1_init 9 = .ok (.putfield 9, 3) := by decide +kernel
theorem dX1_init_12 : decode cX1_init 12 = .ok (.aload_n 0, 1) := by decide +kernel
theorem dX1_init_13 : decode cX1_init 13 = .ok (.bipush 10, 2) := by decide +kernel
theorem dX1_init_15 : decode cX1_init 15 = .ok (.newarray .int, 2) := by decide +kernel
theorem dX1_init_17 : decode cX1_init 17 = .ok (.putfield 15, 3) := by decide +kernel
theorem dX1_init_20 : decode cX1_init 20 = .ok (.aload_n 0, 1) := by decide +kernel
theorem dX1_init_21 : decode cX1_init 21 = .ok (.bipush 7, 2) := by decide +kernel
theorem dX1_init_23 : decode cX1_init 23 = .ok (.anewarray 18, 3) := by decide +kernel
theorem dX1_init_26 : decode cX1_init 26 = .ok (.putfield 20, 3) := by decide +kernel
theorem dX1_init_29 : decode cX1_init 29 = .ok (.aload_n 0, 1) := by decide +kernel
theorem dX1_init_30 : decode cX1_init 30 = .ok (.bipush 10, 2) := by decide +kernel
theorem dX1_init_32 : decode cX1_init 32 = .ok (.newarray .int, 2) := by decide +kernel
theorem dX1_init_34 : decode cX1_init 34 = .ok (.putfield 24, 3) := by decide +kernel
theorem dX1_init_37 : decode cX1_init 37 = .ok (.aload_n 0, 1) := by decide +kernel
theorem dX1_init_38 : decode cX1_init 38 = .ok (.bipush 10, 2) := by decide +kernel
theorem dX1_init_40 : decode cX1_init 40 = .ok (.newarray .int, 2) := by decide +kernel
theorem dX1_init_42 : decode cX1_init 42 = .ok (.putfield 27, 3) := by decide +kernel
theorem dX1_init_45 : decode cX1_init 45 = .ok (.aload_n 0, 1) := by decide +kernel
theorem dX1_init_46 : decode cX1_init 46 = .ok (.sipush 500, 3) := by decide +kernel
theorem dX1_init_49 : decode cX1_init 49 = .ok (.putfield 30, 3) := by decide +kernel
theorem dX1_init_52 : decode cX1_init 52 = .ok (.aload_n 0, 1) := by decide +kernel
theorem dX1_init_53 : decode cX1_init 53 = .ok (.bipush 20, 2) := by decide +kernel
theorem dX1_init_55 : decode cX1_init 55 = .ok (.putfield 34, 3) := by decide +kernel
theorem dX1_init_58 : decode cX1_init 58 = .ok (.aload_n 0, 1) := by decide +kernel
theorem dX1_init_59 : decode cX1_init 59 = .ok (.iconst 2, 1) := by decide +kernel
theorem dX1_init_60 : decode cX1_init 60 = .ok (.putfield 37, 3) := by decide +kernel
theorem dX1_init_63 : decode cX1_init 63 = .ok (.aload_n 0, 1) := by decide +kernel
theorem dX1_init_64 : decode cX1_init 64 = .ok (.iconst 5, 1) := by decide +kernel
theorem dX1_init_65 : decode cX1_init 65 = .ok (.putfield 40, 3) := by decide +kernel
theorem dX1_init_68 : decode cX1_init 68 = .ok (.iconst 0, 1) := by decide +kernel
theorem dX1_init_69 : decode cX1_init 69 = .ok (.istore_n 1, 1) := by decide +kernel
theorem dX1_init_70 : decode cX1_init 70 = .ok (.iload_n 1, 1) := by decide +kernel
theorem dX1_init_71 : decode cX1_init 71 = .ok (.bipush 6, 2) := by decide +kernel
theorem dX1_init_73 : decode cX1_init 73 = .ok (.if_icmp .gt 22, 3) := by decide +kernel
theorem dX1_init_76 : decode cX1_init 76 = .ok (.aload_n 0, 1) := by decide +kernel
theorem dX1_init_77 : decode cX1_init 77 = .ok (.getfield 20, 3) := by decide +kernel
theorem dX1_init_80 : decode cX1_init 80 = .ok (.iload_n 1, 1) := by decide +kernel
theorem dX1_init_81 : decode cX1_init 81 = .ok (.new 18, 3) := by decide +kernel
theorem dX1_init_84 : decode cX1_init 84 = .ok (.dup, 1) := by decide +kernel
theorem dX1_init_85 : decode cX1_init 85 = .ok (.invokespecial 43, 3) := by decide +kernel
theorem dX1_init_88 : decode cX1_init 88 = .ok (.aastore, 1) := by decide +kernel
theorem dX1_init_89 : decode cX1_init 89 = .ok (.iinc 1 1, 3) := by decide +kernel
theorem dX1_init_92 : decode cX1_init 92 = .ok (.goto (-22), 3) := by decide +kernel
theorem dX1_init_95 : decode cX1_init 95 = .ok (.iconst 1, 1) := by decide +kernel
theorem dX1_init_96 : decode cX1_init 96 = .ok (.istore_n 1, 1) := by decide +kernel
theorem dX1_init_97 : decode cX1_init 97 = .ok (.iload_n 1, 1) := by decide +kernel
theorem dX1_init_98 : decode cX1_init 98 = .ok (.bipush 9, 2) := by decide +kernel
theorem dX1_init_100 : decode cX1_init 100 = .ok (.if_icmp .gt 18, 3) := by decide +kernel
theorem dX1_init_103 : decode cX1_init 103 = .ok (.aload_n 0, 1) := by decide +kernel
theorem dX1_init_104 : decode cX1_init 104 = .ok (.getfield 27, 3) := by decide +kernel
theorem dX1_init_107 : decode cX1_init 107 = .ok (.iload_n 1, 1) := by decide +kernel
theorem dX1_init_108 : decode cX1_init 108 = .ok (.sipush 1000, 3) := by decide +kernel
theorem dX1_init_111 : decode cX1_init 111 = .ok (.iastore, 1) := by decide +kernel
theorem dX1_init_112 : decode cX1_init 112 = .ok (.iinc 1 1, 3) := by decide +kernel
theorem dX1_init_115 : decode cX1_init 115 = .ok (.goto (-18), 3) := by decide +kernel
theorem dX1_init_118 : decode cX1_init 118 = .ok (.return_, 1) := by decide +kernel
theorem dX1_copyFrom_0 : decode cX1_copyFrom 0 = .ok (.aload_n 1, 1) := by decide +kernel
theorem dX1_copyFrom_1 : decode cX1_copyFrom 1 = .ok (.getfield 9, 3) := by decide +kernel
theorem dX1_copyFrom_4 : decode cX1_copyFrom 4 = .ok (.aload_n 0, 1) := by decide +kernel
theorem dX1_copyFrom_5 : decode cX1_copyFrom 5 = .ok (.getfield 9, 3) := by decide +kernel
theorem dX1_copyFrom_8 : decode cX1_copyFrom 8 = .ok (.invokestatic 44, 3) := by decide +kernel
theorem dX1_copyFrom_11 : decode cX1_copyFrom 11 = .ok (.aload_n 1, 1) := by decide +kernel
theorem dX1_copyFrom_12 : decode cX1_copyFrom 12 = .ok (.getfield 15, 3) := by decide +kernel
theorem dX1_copyFrom_15 : decode cX1_copyFrom 15 = .ok (.aload_n 0, 1) := by decide +kernel
theorem dX1_copyFrom_16 : decode cX1_copyFrom 16 = .ok (.getfield 15, 3) := by decide +kernel
theorem dX1_copyFrom_19 : decode cX1_copyFrom 19 = .ok (.invokestatic 44, 3) := by decide +kernel
theorem dX1_copyFrom_22 : decode cX1_copyFrom 22 = .ok (.iconst 0, 1) := by decide +kernel
theorem dX1_copyFrom_23 : decode cX1_copyFrom 23 = .ok (.istore_n 2, 1) := by decide +kernel
theorem dX1_copyFrom_24 : decode cX1_copyFrom 24 = .ok (.iload_n 2, 1) := by decide +kernel
theorem dX1_copyFrom_25 : decode cX1_copyFrom 25 = .ok (.bipush 6, 2) := by decide +kernel
theorem dX1_copyFrom_27 : decode cX1_copyFrom 27 = .ok (.if_icmp .gt 24, 3) := by decide +kernel
theorem dX1_copyFrom_30 : decode cX1_copyFrom 30 = .ok (.aload_n 0, 1) := by decide +kernel
theorem dX1_copyFrom_31 : decode cX1_copyFrom 31 = .ok (.getfield 20, 3) := by decide +kernel
theorem dX1_copyFrom_34 : decode cX1_copyFrom 34 = .ok (.iload_n 2, 1) := by decide +kernel
theorem dX1_copyFrom_35 : decode cX1_copyFrom 35 = .ok (.aaload, 1) := by decide +kernel
theorem dX1_copyFrom_36 : decode cX1_copyFrom 36 = .ok (.aload_n 1, 1) := by decide +kernel
theorem dX1_copyFrom_37 : decode cX1_copyFrom 37 = .ok (.getfield 20, 3) := by decide +kernel
theorem dX1_copyFrom_40 : decode cX1_copyFrom 40 = .ok (.iload_n 2, 1) := by decide +kernel
theorem dX1_copyFrom_41 : decode cX1_copyFrom 41 = .ok (.aaload, 1) := by decide +kernel
theorem dX1_copyFrom_42 : decode cX1_copyFrom 42 = .ok (.invokevirtual 48, 3) := by decide +kernel
theorem dX1_copyFrom_45 : decode cX1_copyFrom 45 = .ok (.iinc 2 1, 3) := by decide +kernel
theorem dX1_copyFrom_48 : decode cX1_copyFrom 48 = .ok (.goto (-24), 3) := by decide +kernel
theorem dX1_copyFrom_51 : decode cX1_copyFrom 51 = .ok (.aload_n 1, 1) := by decide +kernel
theorem dX1_copyFrom_52 : decode cX1_copyFrom 52 = .ok (.getfield 24, 3) := by decide +kernel
theorem dX1_copyFrom_55 : decode cX1_copyFrom 55 = .ok (.aload_n 0, 1) := by decide +kernel
theorem dX1_copyFrom_56 : decode cX1_copyFrom 56 = .ok (.getfield 24, 3) := by decide +kernel
theorem dX1_copyFrom_59 : decode cX1_copyFrom 59 = .ok (.invokestatic 44, 3) := by decide +kernel
theorem dX1_copyFrom_62 : decode cX1_copyFrom 62 = .ok (.aload_n 1, 1) := by decide +kernel
theorem dX1_copyFrom_63 : decode cX1_copyFrom 63 = .ok (.getfield 27, 3) := by decide +kernel
theorem dX1_copyFrom_66 : decode cX1_copyFrom 66 = .ok (.aload_n 0, 1) := by decide +kernel
theorem dX1_copyFrom_67 : decode cX1_copyFrom 67 = .ok (.getfield 27, 3) := by decide +kernel
theorem dX1_copyFrom_70 : decode cX1_copyFrom 70 = .ok (.invokestatic 44, 3) := by decide +kernel
theorem dX1_copyFrom_73 : decode cX1_copyFrom 73 = .ok (.aload_n 0, 1) := by decide +kernel
theorem dX1_copyFrom_74 : decode cX1_copyFrom 74 = .ok (.aload_n 1, 1) := by decide +kernel
theorem dX1_copyFrom_75 : decode cX1_copyFrom 75 = .ok (.getfield 52, 3) := by decide +kernel
theorem dX1_copyFrom_78 : decode cX1_copyFrom 78 = .ok (.putfield 52, 3) := by decide +kernel
theorem dX1_copyFrom_81 : decode cX1_copyFrom 81 = .ok (.aload_n 0, 1) := by decide +kernel
theorem dX1_copyFrom_82 : decode cX1_copyFrom 82 = .ok (.aload_n 1, 1) := by decide +kernel
theorem dX1_copyFrom_83 : decode cX1_copyFrom 83 = .ok (.getfield 30, 3) := by decide +kernel
theorem dX1_copyFrom_86 : decode cX1_copyFrom 86 = .ok (.putfield 30, 3) := by decide +kernel
theorem dX1_copyFrom_89 : decode cX1_copyFrom 89 = .ok (.aload_n 0, 1) := by decide +kernel
theorem dX1_copyFrom_90 : decode cX1_copyFrom 90 = .ok (.aload_n 1, 1) := by decide +kernel
theorem dX1_copyFrom_91 : decode cX1_copyFrom 91 = .ok (.getfield 34, 3) := by decide +kernel
theorem dX1_copyFrom_94 : decode cX1_copyFrom 94 = .ok (.putfield 34, 3) := by decide +kernel
theorem dX1_copyFrom_97 : decode cX1_copyFrom 97 = .ok (.aload_n 0, 1) := by decide +kernel
theorem dX1_copyFrom_98 : decode cX1_copyFrom 98 = .ok (.aload_n 1, 1) := by decide +kernel
theorem dX1_copyFrom_99 : decode cX1_copyFrom 99 = .ok (.getfield 37, 3) := by decide +kernel
theorem dX1_copyFrom_102 : decode cX1_copyFrom 102 = .ok (.putfield 37, 3) := by decide +kernel
theorem dX1_copyFrom_105 : decode cX1_copyFrom 105 = .ok (.aload_n 0, 1) := by decide +kernel
theorem dX1_copyFrom_106 : decode cX1_copyFrom 106 = .ok (.aload_n 1, 1) := by decide +kernel
theorem dX1_copyFrom_107 : decode cX1_copyFrom 107 = .ok (.getfield 40, 3) := by decide +kernel
theorem dX1_copyFrom_110 : decode cX1_copyFrom 110 = .ok (.putfield 40, 3) := by decide +kernel
theorem dX1_copyFrom_113 : decode cX1_copyFrom 113 = .ok (.aload_n 0, 1) := by decide +kernel
theorem dX1_copyFrom_114 : decode cX1_copyFrom 114 = .ok (.aload_n 1, 1) := by decide +kernel
theorem dX1_copyFrom_115 : decode cX1_copyFrom 115 = .ok (.getfield 55, 3) := by decide +kernel
theorem dX1_copyFrom_118 : decode cX1_copyFrom 118 = .ok (.putfield 55, 3) := by decide +kernel
theorem dX1_copyFrom_121 : decode cX1_copyFrom 121 = .ok (.aload_n 0, 1) := by decide +kernel
theorem dX1_copyFrom_122 : decode cX1_copyFrom 122 = .ok (.aload_n 1, 1) := by decide +kernel
theorem dX1_copyFrom_123 : decode cX1_copyFrom 123 = .ok (.getfield 59, 3) := by decide +kernel
theorem dX1_copyFrom_126 : decode cX1_copyFrom 126 = .ok (.putfield 59, 3) := by decide +kernel
theorem dX1_copyFrom_129 : decode cX1_copyFrom 129 = .ok (.aload_n 0, 1) := by decide +kernel
theorem dX1_copyFrom_130 : decode cX1_copyFrom 130 = .ok (.aload_n 1, 1) := by decide +kernel
theorem dX1_copyFrom_131 : decode cX1_copyFrom 131 = .ok (.getfield 62, 3) := by decide +kernel
theorem dX1_copyFrom_134 : decode cX1_copyFrom 134 = .ok (.putfield 62, 3) := by decide +kernel
theorem dX1_copyFrom_137 : decode cX1_copyFrom 137 = .ok (.aload_n 0, 1) := by decide +kernel
theorem dX1_copyFrom_138 : decode cX1_copyFrom 138 = .ok (.aload_n 1, 1) := by decide +kernel
theorem dX1_copyFrom_139 : decode cX1_copyFrom 139 = .ok (.getfield 65, 3) := by decide +kernel
theorem dX1_copyFrom_142 : decode cX1_copyFrom 142 = .ok (.putfield 65, 3) := by decide +kernel
theorem dX1_copyFrom_145 : decode cX1_copyFrom 145 = .ok (.return_, 1) := by decide +kernel
theorem dX1_isTray_0 : decode cX1_isTray 0 = .ok (.iload_n 1, 1) := by decide +kernel
theorem dX1_isTray_1 : decode cX1_isTray 1 = .ok (.iconst 0, 1) := by decide +kernel
theorem dX1_isTray_2 : decode cX1_isTray 2 = .ok (.aload_n 0, 1) := by decide +kernel
theorem dX1_isTray_3 : decode cX1_isTray 3 = .ok (.getfield 52, 3) := by decide +kernel
theorem dX1_isTray_6 : decode cX1_isTray 6 = .ok (.invokestatic 68, 3) := by decide +kernel
theorem dX1_isTray_9 : decode cX1_isTray 9 = .ok (.ireturn, 1) := by decide +kernel
theorem dX1_isSieve_0 : decode cX1_isSieve 0 = .ok (.iload_n 1, 1) := by decide +kernel
theorem dX1_isSieve_1 : decode cX1_isSieve 1 = .ok (.iconst 0, 1) := by decide +kernel
theorem dX1_isSieve_2 : decode cX1_isSieve 2 = .ok (.aload_n 0, 1) := by decide +kernel
theorem dX1_isSieve_3 : decode cX1_isSieve 3 = .ok (.getfield 52, 3) := by decide +kernel
theorem dX1_isSieve_6 : decode cX1_isSieve 6 = .ok (.iconst 1, 1) := by decide +kernel
theorem dX1_isSieve_7 : decode cX1_isSieve 7 = .ok (.isub, 1) := by decide +kernel
theorem dX1_isSieve_8 : decode cX1_isSieve 8 = .ok (.invokestatic 68, 3) := by decide +kernel
theorem dX1_isSieve_11 : decode cX1_isSieve 11 = .ok (.ireturn, 1) := by decide +kernel
theorem dX1_halveSample_0 : decode cX1_halveSample 0 = .ok (.iconst 1, 1) := by decide +kernel
theorem dX1_halveSample_1 : decode cX1_halveSample 1 = .ok (.istore_n 2, 1) := by decide +kernel
theorem dX1_halveSample_2 : decode cX1_halveSample 2 = .ok (.iconst 0, 1) := by decide +kernel
theorem dX1_halveSample_3 : decode cX1_halveSample 3 = .ok (.istore_n 3, 1) := by decide +kernel
theorem dX1_halveSample_4 : decode cX1_halveSample 4 = .ok (.iload_n 3, 1) := by decide +kernel
theorem dX1_halveSample_5 : decode cX1_halveSample 5 = .ok (.bipush 10, 2) := by decide +kernel
theorem dX1_halveSample_7 : decode cX1_halveSample 7 = .ok (.if_icmp .ge 109, 3) := by decide +kernel
theorem dX1_halveSample_10 : decode cX1_halveSample 10 = .ok (.aload_n 0, 1) := by decide +kernel
theorem dX1_halveSample_11 : decode cX1_halveSample 11 = .ok (.getfield 9, 3) := by decide +kernel
theorem dX1_halveSample_14 : decode cX1_halveSample 14 = .ok (.iload_n 3, 1) := by decide +kernel
theorem dX1_halveSample_15 : decode cX1_halveSample 15 = .ok (.iaload, 1) := by decide +kernel
theorem dX1_halveSample_16 : decode cX1_halveSample 16 = .ok (.iconst 2, 1) := by decide +kernel
theorem dX1_halveSample_17 : decode cX1_halveSample 17 = .ok (.idiv, 1) := by decide +kernel
theorem dX1_halveSample_18 : decode cX1_halveSample 18 = .ok (.istore 4, 2) := by decide +kernel
theorem dX1_halveSample_20 : decode cX1_halveSample 20 = .ok (.iload 4, 2) := by decide +kernel
theorem dX1_halveSample_22 : decode cX1_halveSample 22 = .ok (.istore 5, 2) := by decide +kernel
theorem dX1_halveSample_24 : decode cX1_halveSample 24 = .ok (.aload_n 0, 1) := by decide +kernel
theorem dX1_halveSample_25 : decode cX1_halveSample 25 = .ok (.getfield 9, 3) := by decide +kernel
theorem dX1_halveSample_28 : decode cX1_halveSample 28 = .ok (.iload_n 3, 1) := by decide +kernel
theorem dX1_halveSample_29 : decode cX1_halveSample 29 = .ok (.iaload, 1) := by decide +kernel
theorem dX1_halveSample_30 : decode cX1_halveSample 30 = .ok (.iconst 2, 1) := by decide +kernel
theorem dX1_halveSample_31 : decode cX1_halveSample 31 = .ok (.irem, 1) := by decide +kernel
theorem dX1_halveSample_32 : decode cX1_halveSample 32 = .ok (.ifCond .eq 41, 3) := by decide +kernel
theorem dX1_halveSample_35 : decode cX1_halveSample 35 = .ok (.iload 4, 2) := by decide +kernel
theorem dX1_halveSample_37 : decode cX1_halveSample 37 = .ok (.iload_n 2, 1) := by decide +kernel
theorem dX1_halveSample_38 : decode cX1_halveSample 38 = .ok (.ifCond .eq 7, 3) := by decide +kernel
theorem dX1_halveSample_41 : decode cX1_halveSample 41 = .ok (.iconst 1, 1) := by decide +kernel
theorem dX1_halveSample_42 : decode cX1_halveSample 42 = .ok (.goto 4, 3) := by decide +kernel
theorem dX1_halveSample_45 : decode cX1_halveSample 45 = .ok (.iconst 0, 1) := by decide +kernel
theorem dX1_halveSample_46 : decode cX1_halveSample 46 = .ok (.iadd, 1) := by decide +kernel
theorem dX1_halveSample_47 : decode cX1_halveSample 47 = .ok (.istore 4, 2) := by decide +kernel
theorem dX1_halveSample_49 : decode cX1_halveSample 49 = .ok (.iload 5, 2) := by decide +kernel
theorem dX1_halveSample_51 : decode cX1_halveSample 51 = .ok (.iload_n 2, 1) := by decide +kernel
theorem dX1_halveSample_52 : decode cX1_halveSample 52 = .ok (.ifCond .eq 7, 3) := by decide +kernel
theorem dX1_halveSample_55 : decode cX1_halveSample 55 = .ok (.iconst 0, 1) := by decide +kernel
theorem dX1_halveSample_56 : decode cX1_halveSample 56 = .ok (.goto 4, 3) := by decide +kernel
theorem dX1_halveSample_59 : decode cX1_halveSample 59 = .ok (.iconst 1, 1) := by decide +kernel
theorem dX1_halveSample_60 : decode cX1_halveSample 60 = .ok (.iadd, 1) := by decide +kernel
theorem dX1_halveSample_61 : decode cX1_halveSample 61 = .ok (.istore 5, 2) := by decide +kernel
theorem dX1_halveSample_63 : decode cX1_halveSample 63 = .ok (.iload_n 2, 1) := by decide +kernel
theorem dX1_halveSample_64 : decode cX1_halveSample 64 = .ok (.ifCond .ne 7, 3) := by decide +kernel
theorem dX1_halveSample_67 : decode cX1_halveSample 67 = .ok (.iconst 1, 1) := by decide +kernel
theorem dX1_halveSample_68 : decode cX1_halveSample 68 = .ok (.goto 4, 3) := by decide +kernel
theorem dX1_halveSample_71 : decode cX1_halveSample 71 = .ok (.iconst 0, 1) := by decide +kernel
theorem dX1_halveSample_72 : decode cX1_halveSample 72 = .ok (.istore_n 2, 1) := by decide +kernel
theorem dX1_halveSample_73 : decode cX1_halveSample 73 = .ok (.aload_n 0, 1) := by decide +kernel
theorem dX1_halveSample_74 : decode cX1_halveSample 74 = .ok (.getfield 9, 3) := by decide +kernel
theorem dX1_halveSample_77 : decode cX1_halveSample 77 = .ok (.iload_n 3, 1) := by decide +kernel
theorem dX1_halveSample_78 : decode cX1_halveSample 78 = .ok (.iload_n 1, 1) := by decide +kernel
theorem dX1_halveSample_79 : decode cX1_halveSample 79 = .ok (.ifCond .eq 8, 3) := by decide +kernel
theorem dX1_halveSample_82 : decode cX1_halveSample 82 = .ok (.iload 4, 2) := by decide +kernel
theorem dX1_halveSample_84 : decode cX1_halveSample 84 = .ok (.goto 5, 3) := by decide +kernel
theorem dX1_halveSample_87 : decode cX1_halveSample 87 = .ok (.iload 5, 2) := by decide +kernel
theorem dX1_halveSample_89 : decode cX1_halveSample 89 = .ok (.iastore, 1) := by decide +kernel
theorem dX1_halveSample_90 : decode cX1_halveSample 90 = .ok (.aload_n 0, 1) := by decide +kernel
theorem dX1_halveSample_91 : decode cX1_halveSample 91 = .ok (.getfield 15, 3) := by decide +kernel
theorem dX1_halveSample_94 : decode cX1_halveSample 94 = .ok (.iload_n 3, 1) := by decide +kernel
theorem dX1_halveSample_95 : decode cX1_halveSample 95 = .ok (.dup2, 1) := by decide +kernel
theorem dX1_halveSample_96 : decode cX1_halveSample 96 = .ok (.iaload, 1) := by decide +kernel
theorem dX1_halveSample_97 : decode cX1_halveSample 97 = .ok (.iload_n 1, 1) := by decide +kernel
theorem dX1_halveSample_98 : decode cX1_halveSample 98 = .ok (.ifCond .eq 8, 3) := by decide +kernel
theorem dX1_halveSample_101 : decode cX1_halveSample 101 = .ok (.iload 5, 2) := by decide +kernel
theorem dX1_halveSample_103 : decode cX1_halveSample 103 = .ok (.goto 5, 3) := by decide +kernel
theorem dX1_halveSample_106 : decode cX1_halveSample 106 = .ok (.iload 4, 2) := by decide +kernel
theorem dX1_halveSample_108 : decode cX1_halveSample 108 = .ok (.iadd, 1) := by decide +kernel
theorem dX1_halveSample_109 : decode cX1_halveSample 109 = .ok (.iastore, 1) := by decide +kernel
theorem dX1_halveSample_110 : decode cX1_halveSample 110 = .ok (.iinc 3 1, 3) := by decide +kernel
theorem dX1_halveSample_113 : decode cX1_halveSample 113 = .ok (.goto (-109), 3) := by decide +kernel
theorem dX1_halveSample_116 : decode cX1_halveSample 116 = .ok (.return_, 1) := by decide +kernel
theorem dX1_findSieve_0 : decode cX1_findSieve 0 = .ok (.iconst 0, 1) := by decide +kernel
theorem dX1_findSieve_1 : decode cX1_findSieve 1 = .ok (.istore_n 2, 1) := by decide +kernel
theorem dX1_findSieve_2 : decode cX1_findSieve 2 = .ok (.iload_n 2, 1) := by decide +kernel
theorem dX1_findSieve_3 : decode cX1_findSieve 3 = .ok (.aload_n 0, 1) := by decide +kernel
theorem dX1_findSieve_4 : decode cX1_findSieve 4 = .ok (.getfield 52, 3) := by decide +kernel
theorem dX1_findSieve_7 : decode cX1_findSieve 7 = .ok (.if_icmp .ge 24, 3) := by decide +kernel
theorem dX1_findSieve_10 : decode cX1_findSieve 10 = .ok (.aload_n 0, 1) := by decide +kernel
theorem dX1_findSieve_11 : decode cX1_findSieve 11 = .ok (.getfield 20, 3) := by decide +kernel
theorem dX1_findSieve_14 : decode cX1_findSieve 14 = .ok (.iload_n 2, 1) := by decide +kernel
theorem dX1_findSieve_15 : decode cX1_findSieve 15 = .ok (.aaload, 1) := by decide +kernel
theorem dX1_findSieve_16 : decode cX1_findSieve 16 = .ok (.getfield 72, 3) := by decide +kernel
theorem dX1_findSieve_19 : decode cX1_findSieve 19 = .ok (.iload_n 1, 1) := by decide +kernel
theorem dX1_findSieve_20 : decode cX1_findSieve 20 = .ok (.if_icmp .ne 5, 3) := by decide +kernel
theorem dX1_findSieve_23 : decode cX1_findSieve 23 = .ok (.iload_n 2, 1) := by decide +kernel
theorem dX1_findSieve_24 : decode cX1_findSieve 24 = .ok (.ireturn, 1) := by decide +kernel
theorem dX1_findSieve_25 : decode cX1_findSieve 25 = .ok (.iinc 2 1, 3) := by decide +kernel
theorem dX1_findSieve_28 : decode cX1_findSieve 28 = .ok (.goto (-26), 3) := by decide +kernel
theorem dX1_findSieve_31 : decode cX1_findSieve 31 = .ok (.bipush (-9), 2) := by decide +kernel
theorem dX1_findSieve_33 : decode cX1_findSieve 33 = .ok (.ireturn, 1) := by decide +kernel
theorem dX1_insertSieve_0 : decode cX1_insertSieve 0 = .ok (.aload_n 0, 1) := by decide +kernel
theorem dX1_insertSieve_1 : decode cX1_insertSieve 1 = .ok (.getfield 52, 3) := by decide +kernel
theorem dX1_insertSieve_4 : decode cX1_insertSieve 4 = .ok (.istore_n 2, 1) := by decide +kernel
theorem dX1_insertSieve_5 : decode cX1_insertSieve 5 = .ok (.iload_n 2, 1) := by decide +kernel
theorem dX1_insertSieve_6 : decode cX1_insertSieve 6 = .ok (.ifCond .le 44, 3) := by decide +kernel
theorem dX1_insertSieve_9 : decode cX1_insertSieve 9 = .ok (.aload_n 0, 1) := by decide +kernel
theorem dX1_insertSieve_10 : decode cX1_insertSieve 10 = .ok (.getfield 20, 3) := by decide +kernel
theorem dX1_insertSieve_13 : decode cX1_insertSieve 13 = .ok (.iload_n 2, 1) := by decide +kernel
theorem dX1_insertSieve_14 : decode cX1_insertSieve 14 = .ok (.iconst 1, 1) := by decide +kernel
theorem dX1_insertSieve_15 : decode cX1_insertSieve 15 = .ok (.isub, 1) := by decide +kernel
theorem dX1_insertSieve_16 : decode cX1_insertSieve 16 = .ok (.aaload, 1) := by decide +kernel
theorem dX1_insertSieve_17 : decode cX1_insertSieve 17 = .ok (.getfield 72, 3) := by decide +kernel
theorem dX1_insertSieve_20 : decode cX1_insertSieve 20 = .ok (.iload_n 1, 1) := by decide +kernel
theorem dX1_insertSieve_21 : decode cX1_insertSieve 21 = .ok (.if_icmp .ge 29, 3) := by decide +kernel
theorem dX1_insertSieve_24 : decode cX1_insertSieve 24 = .ok (.aload_n 0, 1) := by decide +kernel
theorem dX1_insertSieve_25 : decode cX1_insertSieve 25 = .ok (.getfield 20, 3) := by decide +kernel
theorem dX1_insertSieve_28 : decode cX1_insertSieve 28 = .ok (.iload_n 2, 1) := by decide +kernel
theorem dX1_insertSieve_29 : decode cX1_insertSieve 29 = .ok (.aaload, 1) := by decide +kernel
theorem dX1_insertSieve_30 : decode cX1_insertSieve 30 = .ok (.aload_n 0, 1) := by decide +kernel
theorem dX1_insertSieve_31 : decode cX1_insertSieve 31 = .ok (.getfield 20, 3) := by decide +kernel
theorem dX1_insertSieve_34 : decode cX1_insertSieve 34 = .ok (.iload_n 2, 1) := by decide +kernel
theorem dX1_insertSieve_35 : decode cX1_insertSieve 35 = .ok (.iconst 1, 1) := by decide +kernel
theorem dX1_insertSieve_36 : decode cX1_insertSieve 36 = .ok (.isub, 1) := by decide +kernel
theorem dX1_insertSieve_37 : decode cX1_insertSieve 37 = .ok (.aaload, 1) := by decide +kernel
theorem dX1_insertSieve_38 : decode cX1_insertSieve 38 = .ok (.getfield 72, 3) := by decide +kernel
theorem dX1_insertSieve_41 : decode cX1_insertSieve 41 = .ok (.putfield 72, 3) := by decide +kernel
theorem dX1_insertSieve_44 : decode cX1_insertSieve 44 = .ok (.iinc 2 (-1), 3) := by decide +kernel
theorem dX1_insertSieve_47 : decode cX1_insertSieve 47 = .ok (.goto (-42), 3) := by decide +kernel
theorem dX1_insertSieve_50 : decode cX1_insertSieve 50 = .ok (.aload_n 0, 1) := by decide +kernel
theorem dX1_insertSieve_51 : decode cX1_insertSieve 51 = .ok (.getfield 20, 3) := by decide +kernel
theorem dX1_insertSieve_54 : decode cX1_insertSieve 54 = .ok (.iload_n 2, 1) := by decide +kernel
theorem dX1_insertSieve_55 : decode cX1_insertSieve 55 = .ok (.aaload, 1) := by decide +kernel
theorem dX1_insertSieve_56 : decode cX1_insertSieve 56 = .ok (.iload_n 1, 1) := by decide +kernel
theorem dX1_insertSieve_57 : decode cX1_insertSieve 57 = .ok (.putfield 72, 3) := by decide +kernel
theorem dX1_insertSieve_60 : decode cX1_insertSieve 60 = .ok (.aload_n 0, 1) := by decide +kernel
theorem dX1_insertSieve_61 : decode cX1_insertSieve 61 = .ok (.dup, 1) := by decide +kernel
theorem dX1_insertSieve_62 : decode cX1_insertSieve 62 = .ok (.getfield 52, 3) := by decide +kernel
theorem dX1_insertSieve_65 : decode cX1_insertSieve 65 = .ok (.iconst 1, 1) := by decide +kernel
theorem dX1_insertSieve_66 : decode cX1_insertSieve 66 = .ok (.iadd, 1) := by decide +kernel
theorem dX1_insertSieve_67 : decode cX1_insertSieve 67 = .ok (.putfield 52, 3) := by decide +kernel
theorem dX1_insertSieve_70 : decode cX1_insertSieve 70 = .ok (.iload_n 2, 1) := by decide +kernel
theorem dX1_insertSieve_71 : decode cX1_insertSieve 71 = .ok (.ireturn, 1) := by decide +kernel
theorem dX1_takeSieve_0 : decode cX1_takeSieve 0 = .ok (.iload_n 1, 1) := by decide +kernel
theorem dX1_takeSieve_1 : decode cX1_takeSieve 1 = .ok (.istore_n 2, 1) := by decide +kernel
theorem dX1_takeSieve_2 : decode cX1_takeSieve 2 = .ok (.iload_n 2, 1) := by decide +kernel
theorem dX1_takeSieve_3 : decode cX1_takeSieve 3 = .ok (.aload_n 0, 1) := by decide +kernel
theorem dX1_takeSieve_4 : decode cX1_takeSieve 4 = .ok (.getfield 52, 3) := by decide +kernel
theorem dX1_takeSieve_7 : decode cX1_takeSieve 7 = .ok (.if_icmp .ge 29, 3) := by decide +kernel
theorem dX1_takeSieve_10 : decode cX1_takeSieve 10 = .ok (.aload_n 0, 1) := by decide +kernel
theorem dX1_takeSieve_11 : decode cX1_takeSieve 11 = .ok (.getfield 20, 3) := by decide +kernel
theorem dX1_takeSieve_14 : decode cX1_takeSieve 14 = .ok (.iload_n 2, 1) := by decide +kernel
theorem dX1_takeSieve_15 : decode cX1_takeSieve 15 = .ok (.aaload, 1) := by decide +kernel
theorem dX1_takeSieve_16 : decode cX1_takeSieve 16 = .ok (.aload_n 0, 1) := by decide +kernel
theorem dX1_takeSieve_17 : decode cX1_takeSieve 17 = .ok (.getfield 20, 3) := by decide +kernel
theorem dX1_takeSieve_20 : decode cX1_takeSieve 20 = .ok (.iload_n 2, 1) := by decide +kernel
theorem dX1_takeSieve_21 : decode cX1_takeSieve 21 = .ok (.iconst 1, 1) := by decide +kernel
theorem dX1_takeSieve_22 : decode cX1_takeSieve 22 = .ok (.iadd, 1) := by decide +kernel
theorem dX1_takeSieve_23 : decode cX1_takeSieve 23 = .ok (.aaload, 1) := by decide +kernel
theorem dX1_takeSieve_24 : decode cX1_takeSieve 24 = .ok (.getfield 72, 3) := by decide +kernel
theorem dX1_takeSieve_27 : decode cX1_takeSieve 27 = .ok (.putfield 72, 3) := by decide +kernel
theorem dX1_takeSieve_30 : decode cX1_takeSieve 30 = .ok (.iinc 2 1, 3) := by decide +kernel
theorem dX1_takeSieve_33 : decode cX1_takeSieve 33 = .ok (.goto (-31), 3) := by decide +kernel
theorem dX1_takeSieve_36 : decode cX1_takeSieve 36 = .ok (.aload_n 0, 1) := by decide +kernel
theorem dX1_takeSieve_37 : decode cX1_takeSieve 37 = .ok (.dup, 1) := by decide +kernel
theorem dX1_takeSieve_38 : decode cX1_takeSieve 38 = .ok (.getfield 52, 3) := by decide +kernel
theorem dX1_takeSieve_41 : decode cX1_takeSieve 41 = .ok (.iconst 1, 1) := by decide +kernel
theorem dX1_takeSieve_42 : decode cX1_takeSieve 42 = .ok (.isub, 1) := by decide +kernel
theorem dX1_takeSieve_43 : decode cX1_takeSieve 43 = .ok (.putfield 52, 3) := by decide +kernel
theorem dX1_takeSieve_46 : decode cX1_takeSieve 46 = .ok (.return_, 1) := by decide +kernel
theorem dX1_endAnalysis_0 : decode cX1_endAnalysis 0 = .ok (.iconst 0, 1) := by decide +kernel
theorem dX1_endAnalysis_1 : decode cX1_endAnalysis 1 = .ok (.istore_n 1, 1) := by decide +kernel
theorem dX1_endAnalysis_2 : decode cX1_endAnalysis 2 = .ok (.iload_n 1, 1) := by decide +kernel
theorem dX1_endAnalysis_3 : decode cX1_endAnalysis 3 = .ok (.bipush 6, 2) := by decide +kernel
theorem dX1_endAnalysis_5 : decode cX1_endAnalysis 5 = .ok (.if_icmp .gt 18, 3) := by decide +kernel
theorem dX1_endAnalysis_8 : decode cX1_endAnalysis 8 = .ok (.aload_n 0, 1) := by decide +kernel
theorem dX1_endAnalysis_9 : decode cX1_endAnalysis 9 = .ok (.getfield 20, 3) := by decide +kernel
theorem dX1_endAnalysis_12 : decode cX1_endAnalysis 12 = .ok (.iload_n 1, 1) := by decide +kernel
theorem dX1_endAnalysis_13 : decode cX1_endAnalysis 13 = .ok (.aaload, 1) := by decide +kernel
theorem dX1_endAnalysis_14 : decode cX1_endAnalysis 14 = .ok (.invokevirtual 75, 3) := by decide +kernel
theorem dX1_endAnalysis_17 : decode cX1_endAnalysis 17 = .ok (.iinc 1 1, 3) := by decide +kernel
theorem dX1_endAnalysis_20 : decode cX1_endAnalysis 20 = .ok (.goto (-18), 3) := by decide +kernel
theorem dX1_endAnalysis_23 : decode cX1_endAnalysis 23 = .ok (.aload_n 0, 1) := by decide +kernel
theorem dX1_endAnalysis_24 : decode cX1_endAnalysis 24 = .ok (.iconst 0, 1) := by decide +kernel
theorem dX1_endAnalysis_25 : decode cX1_endAnalysis 25 = .ok (.putfield 55, 3) := by decide +kernel
theorem dX1_endAnalysis_28 : decode cX1_endAnalysis 28 = .ok (.aload_n 0, 1) := by decide +kernel
theorem dX1_endAnalysis_29 : decode cX1_endAnalysis 29 = .ok (.iconst 0, 1) := by decide +kernel
theorem dX1_endAnalysis_30 : decode cX1_endAnalysis 30 = .ok (.putfield 59, 3) := by decide +kernel
theorem dX1_endAnalysis_33 : decode cX1_endAnalysis 33 = .ok (.aload_n 0, 1) := by decide +kernel
theorem dX1_endAnalysis_34 : decode cX1_endAnalysis 34 = .ok (.iconst 0, 1) := by decide +kernel
theorem dX1_endAnalysis_35 : decode cX1_endAnalysis 35 = .ok (.putfield 62, 3) := by decide +kernel
theorem dX1_endAnalysis_38 : decode cX1_endAnalysis 38 = .ok (.aload_n 0, 1) := by decide +kernel
theorem dX1_endAnalysis_39 : decode cX1_endAnalysis 39 = .ok (.iconst 0, 1) := by decide +kernel
theorem dX1_endAnalysis_40 : decode cX1_endAnalysis 40 = .ok (.putfield 65, 3) := by decide +kernel
theorem dX1_endAnalysis_43 : decode cX1_endAnalysis 43 = .ok (.return_, 1) := by decide +kernel
theorem dX1_beginAnalysis_0 : decode cX1_beginAnalysis 0 = .ok (.aload_n 0, 1) := by decide +kernel
theorem dX1_beginAnalysis_1 : decode cX1_beginAnalysis 1 = .ok (.getfield 9, 3) := by decide +kernel
theorem dX1_beginAnalysis_4 : decode cX1_beginAnalysis 4 = .ok (.aload_n 0, 1) := by decide +kernel
theorem dX1_beginAnalysis_5 : decode cX1_beginAnalysis 5 = .ok (.getfield 20, 3) := by decide +kernel
theorem dX1_beginAnalysis_8 : decode cX1_beginAnalysis 8 = .ok (.iconst 0, 1) := by decide +kernel
theorem dX1_beginAnalysis_9 : decode cX1_beginAnalysis 9 = .ok (.aaload, 1) := by decide +kernel
theorem dX1_beginAnalysis_10 : decode cX1_beginAnalysis 10 = .ok (.getfield 78, 3) := by decide +kernel
theorem dX1_beginAnalysis_13 : decode cX1_beginAnalysis 13 = .ok (.invokestatic 44, 3) := by decide +kernel
theorem dX1_beginAnalysis_16 : decode cX1_beginAnalysis 16 = .ok (.aload_n 0, 1) := by decide +kernel
theorem dX1_beginAnalysis_17 : decode cX1_beginAnalysis 17 = .ok (.getfield 9, 3) := by decide +kernel
theorem dX1_beginAnalysis_20 : decode cX1_beginAnalysis 20 = .ok (.invokestatic 81, 3) := by decide +kernel
theorem dX1_beginAnalysis_23 : decode cX1_beginAnalysis 23 = .ok (.aload_n 0, 1) := by decide +kernel
theorem dX1_beginAnalysis_24 : decode cX1_beginAnalysis 24 = .ok (.iconst 1, 1) := by decide +kernel
theorem dX1_beginAnalysis_25 : decode cX1_beginAnalysis 25 = .ok (.putfield 55, 3) := by decide +kernel
theorem dX1_beginAnalysis_28 : decode cX1_beginAnalysis 28 = .ok (.aload_n 0, 1) := by decide +kernel
theorem dX1_beginAnalysis_29 : decode cX1_beginAnalysis 29 = .ok (.iload_n 1, 1) := by decide +kernel
theorem dX1_beginAnalysis_30 : decode cX1_beginAnalysis 30 = .ok (.putfield 59, 3) := by decide +kernel
theorem dX1_beginAnalysis_33 : decode cX1_beginAnalysis 33 = .ok (.return_, 1) := by decide +kernel
theorem dX1_shakeOneMinute_0 : decode cX1_shakeOneMinute 0 = .ok (.aload_n 0, 1) := by decide +kernel
theorem dX1_shakeOneMinute_1 : decode cX1_shakeOneMinute 1 = .ok (.iconst 0, 1) := by decide +kernel
theorem dX1_shakeOneMinute_2 : decode cX1_shakeOneMinute 2 = .ok (.putfield 65, 3) := by decide +kernel
theorem dX1_shakeOneMinute_5 : decode cX1_shakeOneMinute 5 = .ok (.aload_n 0, 1) := by decide +kernel
theorem dX1_shakeOneMinute_6 : decode cX1_shakeOneMinute 6 = .ok (.getfield 52, 3) := by decide +kernel
theorem dX1_shakeOneMinute_9 : decode cX1_shakeOneMinute 9 = .ok (.iconst 1, 1) := by decide +kernel
theorem dX1_shakeOneMinute_10 : decode cX1_shakeOneMinute 10 = .ok (.isub, 1) := by decide +kernel
theorem dX1_shakeOneMinute_11 : decode cX1_shakeOneMinute 11 = .ok (.istore_n 1, 1) := by decide +kernel
theorem dX1_shakeOneMinute_12 : decode cX1_shakeOneMinute 12 = .ok (.iload_n 1, 1) := by decide +kernel
theorem dX1_shakeOneMinute_13 : decode cX1_shakeOneMinute 13 = .ok (.ifCond .lt 52, 3) := by decide +kernel
theorem dX1_shakeOneMinute_16 : decode cX1_shakeOneMinute 16 = .ok (.aload_n 0, 1) := by decide +kernel
theorem dX1_shakeOneMinute_17 : decode cX1_shakeOneMinute 17 = .ok (.dup, 1) := by decide +kernel
theorem dX1_shakeOneMinute_18 : decode cX1_shakeOneMinute 18 = .ok (.getfield 65, 3) := by decide +kernel
theorem dX1_shakeOneMinute_21 : decode cX1_shakeOneMinute 21 = .ok (.aload_n 0, 1) := by decide +kernel
theorem dX1_shakeOneMinute_22 : decode cX1_shakeOneMinute 22 = .ok (.getfield 20, 3) := by decide +kernel
theorem dX1_shakeOneMinute_25 : decode cX1_shakeOneMinute 25 = .ok (.iload_n 1, 1) := by decide +kernel
theorem dX1_shakeOneMinute_26 : decode cX1_shakeOneMinute 26 = .ok (.aaload, 1) := by decide +kernel
theorem dX1_shakeOneMinute_27 : decode cX1_shakeOneMinute 27 = .ok (.aload_n 0, 1) := by decide +kernel
theorem dX1_shakeOneMinute_28 : decode cX1_shakeOneMinute 28 = .ok (.getfield 20, 3) := by decide +kernel
theorem dX1_shakeOneMinute_31 : decode cX1_shakeOneMinute 31 = .ok (.iload_n 1, 1) := by decide +kernel
theorem dX1_shakeOneMinute_32 : decode cX1_shakeOneMinute 32 = .ok (.iconst 1, 1) := by decide +kernel
theorem dX1_shakeOneMinute_33 : decode cX1_shakeOneMinute 33 = .ok (.iadd, 1) := by decide +kernel
theorem dX1_shakeOneMinute_34 : decode cX1_shakeOneMinute 34 = .ok (.aaload, 1) := by decide +kernel
theorem dX1_shakeOneMinute_35 : decode cX1_shakeOneMinute 35 = .ok (.aload_n 0, 1) := by decide +kernel
theorem dX1_shakeOneMinute_36 : decode cX1_shakeOneMinute 36 = .ok (.getfield 30, 3) := by decide +kernel
theorem dX1_shakeOneMinute_39 : decode cX1_shakeOneMinute 39 = .ok (.invokevirtual 85, 3) := by decide +kernel
theorem dX1_shakeOneMinute_42 : decode cX1_shakeOneMinute 42 = .ok (.iadd, 1) := by decide +kernel
theorem dX1_shakeOneMinute_43 : decode cX1_shakeOneMinute 43 = .ok (.putfield 65, 3) := by decide +kernel
theorem dX1_shakeOneMinute_46 : decode cX1_shakeOneMinute 46 = .ok (.aload_n 0, 1) := by decide +kernel
theorem dX1_shakeOneMinute_47 : decode cX1_shakeOneMinute 47 = .ok (.getfield 20, 3) := by decide +kernel
theorem dX1_shakeOneMinute_50 : decode cX1_shakeOneMinute 50 = .ok (.iload_n 1, 1) := by decide +kernel
theorem dX1_shakeOneMinute_51 : decode cX1_shakeOneMinute 51 = .ok (.aaload, 1) := by decide +kernel
theorem dX1_shakeOneMinute_52 : decode cX1_shakeOneMinute 52 = .ok (.aload_n 0, 1) := by decide +kernel
theorem dX1_shakeOneMinute_53 : decode cX1_shakeOneMinute 53 = .ok (.getfield 34, 3) := by decide +kernel
theorem dX1_shakeOneMinute_56 : decode cX1_shakeOneMinute 56 = .ok (.invokevirtual 89, 3) := by decide +kernel
theorem dX1_shakeOneMinute_59 : decode cX1_shakeOneMinute 59 = .ok (.iinc 1 (-1), 3) := by decide +kernel
theorem dX1_shakeOneMinute_62 : decode cX1_shakeOneMinute 62 = .ok (.goto (-50), 3) := by decide +kernel
theorem dX1_shakeOneMinute_65 : decode cX1_shakeOneMinute 65 = .ok (.aload_n 0, 1) := by decide +kernel
theorem dX1_shakeOneMinute_66 : decode cX1_shakeOneMinute 66 = .ok (.getfield 20, 3) := by decide +kernel
theorem dX1_shakeOneMinute_69 : decode cX1_shakeOneMinute 69 = .ok (.aload_n 0, 1) := by decide +kernel
theorem dX1_shakeOneMinute_70 : decode cX1_shakeOneMinute 70 = .ok (.getfield 52, 3) := by decide +kernel
theorem dX1_shakeOneMinute_73 : decode cX1_shakeOneMinute 73 = .ok (.aaload, 1) := by decide +kernel
theorem dX1_shakeOneMinute_74 : decode cX1_shakeOneMinute 74 = .ok (.getfield 78, 3) := by decide +kernel
theorem dX1_shakeOneMinute_77 : decode cX1_shakeOneMinute 77 = .ok (.astore_n 1, 1) := by decide +kernel
theorem dX1_shakeOneMinute_78 : decode cX1_shakeOneMinute 78 = .ok (.aload_n 1, 1) := by decide +kernel
theorem dX1_shakeOneMinute_79 : decode cX1_shakeOneMinute 79 = .ok (.iconst 0, 1) := by decide +kernel
theorem dX1_shakeOneMinute_80 : decode cX1_shakeOneMinute 80 = .ok (.dup2, 1) := by decide +kernel
theorem dX1_shakeOneMinute_81 : decode cX1_shakeOneMinute 81 = .ok (.iaload, 1) := by decide +kernel
theorem dX1_shakeOneMinute_82 : decode cX1_shakeOneMinute 82 = .ok (.aload_n 1, 1) := by decide +kernel
theorem dX1_shakeOneMinute_83 : decode cX1_shakeOneMinute 83 = .ok (.iconst 0, 1) := by decide +kernel
theorem dX1_shakeOneMinute_84 : decode cX1_shakeOneMinute 84 = .ok (.iaload, 1) := by decide +kernel
theorem dX1_shakeOneMinute_85 : decode cX1_shakeOneMinute 85 = .ok (.aload_n 0, 1) := by decide +kernel
theorem dX1_shakeOneMinute_86 : decode cX1_shakeOneMinute 86 = .ok (.getfield 37, 3) := by decide +kernel
theorem dX1_shakeOneMinute_89 : decode cX1_shakeOneMinute 89 = .ok (.imul, 1) := by decide +kernel
theorem dX1_shakeOneMinute_90 : decode cX1_shakeOneMinute 90 = .ok (.sipush 1000, 3) := by decide +kernel
theorem dX1_shakeOneMinute_93 : decode cX1_shakeOneMinute 93 = .ok (.idiv, 1) := by decide +kernel
theorem dX1_shakeOneMinute_94 : decode cX1_shakeOneMinute 94 = .ok (.isub, 1) := by decide +kernel
theorem dX1_shakeOneMinute_95 : decode cX1_shakeOneMinute 95 = .ok (.iastore, 1) := by decide +kernel
theorem dX1_shakeOneMinute_96 : decode cX1_shakeOneMinute 96 = .ok (.aload_n 0, 1) := by decide +kernel
theorem dX1_shakeOneMinute_97 : decode cX1_shakeOneMinute 97 = .ok (.dup, 1) := by decide +kernel
theorem dX1_shakeOneMinute_98 : decode cX1_shakeOneMinute 98 = .ok (.getfield 62, 3) := by decide +kernel
theorem dX1_shakeOneMinute_101 : decode cX1_shakeOneMinute 101 = .ok (.iconst 1, 1) := by decide +kernel
theorem dX1_shakeOneMinute_102 : decode cX1_shakeOneMinute 102 = .ok (.iadd, 1) := by decide +kernel
theorem dX1_shakeOneMinute_103 : decode cX1_shakeOneMinute 103 = .ok (.putfield 62, 3) := by decide +kernel
theorem dX1_shakeOneMinute_106 : decode cX1_shakeOneMinute 106 = .ok (.aload_n 0, 1) := by decide +kernel
theorem dX1_shakeOneMinute_107 : decode cX1_shakeOneMinute 107 = .ok (.getfield 65, 3) := by decide +kernel
theorem dX1_shakeOneMinute_110 : decode cX1_shakeOneMinute 110 = .ok (.ireturn, 1) := by decide +kernel
theorem dX1_lostMass_0 : decode cX1_lostMass 0 = .ok (.iconst 0, 1) := by decide +kernel
theorem dX1_lostMass_1 : decode cX1_lostMass 1 = .ok (.istore_n 1, 1) := by decide +kernel
theorem dX1_lostMass_2 : decode cX1_lostMass 2 = .ok (.iconst 0, 1) := by decide +kernel
theorem dX1_lostMass_3 : decode cX1_lostMass 3 = .ok (.istore_n 2, 1) := by decide +kernel
theorem dX1_lostMass_4 : decode cX1_lostMass 4 = .ok (.iload_n 2, 1) := by decide +kernel
theorem dX1_lostMass_5 : decode cX1_lostMass 5 = .ok (.aload_n 0, 1) := by decide +kernel
theorem dX1_lostMass_6 : decode cX1_lostMass 6 = .ok (.getfield 52, 3) := by decide +kernel
theorem dX1_lostMass_9 : decode cX1_lostMass 9 = .ok (.if_icmp .gt 36, 3) := by decide +kernel
theorem dX1_lostMass_12 : decode cX1_lostMass 12 = .ok (.aload_n 0, 1) := by decide +kernel
theorem dX1_lostMass_13 : decode cX1_lostMass 13 = .ok (.getfield 20, 3) := by decide +kernel
theorem dX1_lostMass_16 : decode cX1_lostMass 16 = .ok (.iload_n 2, 1) := by decide +kernel
theorem dX1_lostMass_17 : decode cX1_lostMass 17 = .ok (.aaload, 1) := by decide +kernel
theorem dX1_lostMass_18 : decode cX1_lostMass 18 = .ok (.astore_n 3, 1) := by decide +kernel
theorem dX1_lostMass_19 : decode cX1_lostMass 19 = .ok (.iload_n 1, 1) := by decide +kernel
theorem dX1_lostMass_20 : decode cX1_lostMass 20 = .ok (.aload_n 3, 1) := by decide +kernel
theorem dX1_lostMass_21 : decode cX1_lostMass 21 = .ok (.getfield 78, 3) := by decide +kernel
theorem dX1_lostMass_24 : decode cX1_lostMass 24 = .ok (.invokestatic 93, 3) := by decide +kernel
theorem dX1_lostMass_27 : decode cX1_lostMass 27 = .ok (.aload_n 3, 1) := by decide +kernel
theorem dX1_lostMass_28 : decode cX1_lostMass 28 = .ok (.getfield 97, 3) := by decide +kernel
theorem dX1_lostMass_31 : decode cX1_lostMass 31 = .ok (.iadd, 1) := by decide +kernel
theorem dX1_lostMass_32 : decode cX1_lostMass 32 = .ok (.aload_n 3, 1) := by decide +kernel
theorem dX1_lostMass_33 : decode cX1_lostMass 33 = .ok (.getfield 100, 3) := by decide +kernel
theorem dX1_lostMass_36 : decode cX1_lostMass 36 = .ok (.iadd, 1) := by decide +kernel
theorem dX1_lostMass_37 : decode cX1_lostMass 37 = .ok (.iadd, 1) := by decide +kernel
theorem dX1_lostMass_38 : decode cX1_lostMass 38 = .ok (.istore_n 1, 1) := by decide +kernel
theorem dX1_lostMass_39 : decode cX1_lostMass 39 = .ok (.iinc 2 1, 3) := by decide +kernel
theorem dX1_lostMass_42 : decode cX1_lostMass 42 = .ok (.goto (-38), 3) := by decide +kernel
theorem dX1_lostMass_45 : decode cX1_lostMass 45 = .ok (.aload_n 0, 1) := by decide +kernel
theorem dX1_lostMass_46 : decode cX1_lostMass 46 = .ok (.getfield 59, 3) := by decide +kernel
theorem dX1_lostMass_49 : decode cX1_lostMass 49 = .ok (.iload_n 1, 1) := by decide +kernel
theorem dX1_lostMass_50 : decode cX1_lostMass 50 = .ok (.isub, 1) := by decide +kernel
theorem dX1_lostMass_51 : decode cX1_lostMass 51 = .ok (.ireturn, 1) := by decide +kernel
theorem dX1_hasCollected_0 : decode cX1_hasCollected 0 = .ok (.aload_n 0, 1) := by decide +kernel
theorem dX1_hasCollected_1 : decode cX1_hasCollected 1 = .ok (.getfield 55, 3) := by decide +kernel
theorem dX1_hasCollected_4 : decode cX1_hasCollected 4 = .ok (.ifCond .eq 15, 3) := by decide +kernel
theorem dX1_hasCollected_7 : decode cX1_hasCollected 7 = .ok (.aload_n 0, 1) := by decide +kernel
theorem dX1_hasCollected_8 : decode cX1_hasCollected 8 = .ok (.iconst 0, 1) := by decide +kernel
theorem dX1_hasCollected_9 : decode cX1_hasCollected 9 = .ok (.invokevirtual 103, 3) := by decide +kernel
theorem dX1_hasCollected_12 : decode cX1_hasCollected 12 = .ok (.ifCond .eq 7, 3) := by decide +kernel
theorem dX1_hasCollected_15 : decode cX1_hasCollected 15 = .ok (.iconst 1, 1) := by decide +kernel
theorem dX1_hasCollected_16 : decode cX1_hasCollected 16 = .ok (.goto 4, 3) := by decide +kernel
theorem dX1_hasCollected_19 : decode cX1_hasCollected 19 = .ok (.iconst 0, 1) := by decide +kernel
theorem dX1_hasCollected_20 : decode cX1_hasCollected 20 = .ok (.ireturn, 1) := by decide +kernel
theorem dX1_passingOf_0 : decode cX1_passingOf 0 = .ok (.aload_n 0, 1) := by decide +kernel
theorem dX1_passingOf_1 : decode cX1_passingOf 1 = .ok (.iload_n 1, 1) := by decide +kernel
theorem dX1_passingOf_2 : decode cX1_passingOf 2 = .ok (.iconst 1, 1) := by decide +kernel
theorem dX1_passingOf_3 : decode cX1_passingOf 3 = .ok (.iadd, 1) := by decide +kernel
theorem dX1_passingOf_4 : decode cX1_passingOf 4 = .ok (.invokevirtual 103, 3) := by decide +kernel
theorem dX1_passingOf_7 : decode cX1_passingOf 7 = .ok (.aload_n 0, 1) := by decide +kernel
theorem dX1_passingOf_8 : decode cX1_passingOf 8 = .ok (.iconst 0, 1) := by decide +kernel
theorem dX1_passingOf_9 : decode cX1_passingOf 9 = .ok (.invokevirtual 103, 3) := by decide +kernel
theorem dX1_passingOf_12 : decode cX1_passingOf 12 = .ok (.invokestatic 107, 3) := by decide +kernel
theorem dX1_passingOf_15 : decode cX1_passingOf 15 = .ok (.ireturn, 1) := by decide +kernel
theorem dX1_collectedFrom_0 : decode cX1_collectedFrom 0 = .ok (.iconst 0, 1) := by decide +kernel
theorem dX1_collectedFrom_1 : decode cX1_collectedFrom 1 = .ok (.istore_n 2, 1) := by decide +kernel
theorem dX1_collectedFrom_2 : decode cX1_collectedFrom 2 = .ok (.iload_n 1, 1) := by decide +kernel
theorem dX1_collectedFrom_3 : decode cX1_collectedFrom 3 = .ok (.istore_n 3, 1) := by decide +kernel
theorem dX1_collectedFrom_4 : decode cX1_collectedFrom 4 = .ok (.iload_n 3, 1) := by decide +kernel
theorem dX1_collectedFrom_5 : decode cX1_collectedFrom 5 = .ok (.aload_n 0, 1) := by decide +kernel
theorem dX1_collectedFrom_6 : decode cX1_collectedFrom 6 = .ok (.getfield 52, 3) := by decide +kernel
theorem dX1_collectedFrom_9 : decode cX1_collectedFrom 9 = .ok (.if_icmp .gt 21, 3) := by decide +kernel
theorem dX1_collectedFrom_12 : decode cX1_collectedFrom 12 = .ok (.iload_n 2, 1) := by decide +kernel
theorem dX1_collectedFrom_13 : decode cX1_collectedFrom 13 = .ok (.aload_n 0, 1) := by decide +kernel
theorem dX1_collectedFrom_14 : decode cX1_collectedFrom 14 = .ok (.getfield 20, 3) := by decide +kernel
theorem dX1_collectedFrom_17 : decode cX1_collectedFrom 17 = .ok (.iload_n 3, 1) := by decide +kernel
theorem dX1_collectedFrom_18 : decode cX1_collectedFrom 18 = .ok (.aaload, 1) := by decide +kernel
theorem dX1_collectedFrom_19 : decode cX1_collectedFrom 19 = .ok (.getfield 100, 3) := by decide +kernel
theorem dX1_collectedFrom_22 : decode cX1_collectedFrom 22 = .ok (.iadd, 1) := by decide +kernel
theorem dX1_collectedFrom_23 : decode cX1_collectedFrom 23 = .ok (.istore_n 2, 1) := by decide +kernel
theorem dX1_collectedFrom_24 : decode cX1_collectedFrom 24 = .ok (.iinc 3 1, 3) := by decide +kernel
theorem dX1_collectedFrom_27 : decode cX1_collectedFrom 27 = .ok (.goto (-23), 3) := by decide +kernel
theorem dX1_collectedFrom_30 : decode cX1_collectedFrom 30 = .ok (.iload_n 2, 1) := by decide +kernel
theorem dX1_collectedFrom_31 : decode cX1_collectedFrom 31 = .ok (.ireturn, 1) := by decide +kernel
theorem dX2_init_0 : decode cX2_init 0 = .ok (.aload_n 0, 1) := by decide +kernel
theorem dX2_init_1 : decode cX2_init 1 = .ok (.invokespecial 3, 3) := by decide +kernel
theorem dX2_init_4 : decode cX2_init 4 = .ok (.aload_n 0, 1) := by decide +kernel
theorem dX2_init_5 : decode cX2_init 5 = .ok (.bipush 10, 2) := by decide +kernel
theorem dX2_init_7 : decode cX2_init 7 = .ok (.newarray .int, 2) := by decide +kernel
theorem dX2_init_9 : decode cX2_init 9 = .ok (.putfield 9, 3) := by decide +kernel
theorem dX2_init_12 : decode cX2_init 12 = .ok (.return_, 1) := by decide +kernel
theorem dX2_copyFrom_0 : decode cX2_copyFrom 0 = .ok (.aload_n 1, 1) := by decide +kernel
theorem dX2_copyFrom_1 : decode cX2_copyFrom 1 = .ok (.getfield 9, 3) := by decide +kernel
theorem dX2_copyFrom_4 : decode cX2_copyFrom 4 = .ok (.aload_n 0, 1) := by decide +kernel
theorem dX2_copyFrom_5 : decode cX2_copyFrom 5 = .ok (.getfield 9, 3) := by decide +kernel
theorem dX2_copyFrom_8 : decode cX2_copyFrom 8 = .ok (.invokestatic 15, 3) := by decide +kernel
theorem dX2_copyFrom_11 : decode cX2_copyFrom 11 = .ok (.aload_n 0, 1) := by decide +kernel
theorem dX2_copyFrom_12 : decode cX2_copyFrom 12 = .ok (.aload_n 1, 1) := by decide +kernel
theorem dX2_copyFrom_13 : decode cX2_copyFrom 13 = .ok (.getfield 19, 3) := by decide +kernel
theorem dX2_copyFrom_16 : decode cX2_copyFrom 16 = .ok (.putfield 19, 3) := by decide +kernel
theorem dX2_copyFrom_19 : decode cX2_copyFrom 19 = .ok (.aload_n 0, 1) := by decide +kernel
theorem dX2_copyFrom_20 : decode cX2_copyFrom 20 = .ok (.aload_n 1, 1) := by decide +kernel
theorem dX2_copyFrom_21 : decode cX2_copyFrom 21 = .ok (.getfield 23, 3) := by decide +kernel
theorem dX2_copyFrom_24 : decode cX2_copyFrom 24 = .ok (.putfield 23, 3) := by decide +kernel
theorem dX2_copyFrom_27 : decode cX2_copyFrom 27 = .ok (.aload_n 0, 1) := by decide +kernel
theorem dX2_copyFrom_28 : decode cX2_copyFrom 28 = .ok (.aload_n 1, 1) := by decide +kernel
theorem dX2_copyFrom_29 : decode cX2_copyFrom 29 = .ok (.getfield 26, 3) := by decide +kernel
theorem dX2_copyFrom_32 : decode cX2_copyFrom 32 = .ok (.putfield 26, 3) := by decide +kernel
theorem dX2_copyFrom_35 : decode cX2_copyFrom 35 = .ok (.return_, 1) := by decide +kernel
theorem dX2_throwAway_0 : decode cX2_throwAway 0 = .ok (.aload_n 0, 1) := by decide +kernel
theorem dX2_throwAway_1 : decode cX2_throwAway 1 = .ok (.getfield 9, 3) := by decide +kernel
theorem dX2_throwAway_4 : decode cX2_throwAway 4 = .ok (.invokestatic 29, 3) := by decide +kernel
theorem dX2_throwAway_7 : decode cX2_throwAway 7 = .ok (.aload_n 0, 1) := by decide +kernel
theorem dX2_throwAway_8 : decode cX2_throwAway 8 = .ok (.iconst 0, 1) := by decide +kernel
theorem dX2_throwAway_9 : decode cX2_throwAway 9 = .ok (.putfield 23, 3) := by decide +kernel
theorem dX2_throwAway_12 : decode cX2_throwAway 12 = .ok (.aload_n 0, 1) := by decide +kernel
theorem dX2_throwAway_13 : decode cX2_throwAway 13 = .ok (.iconst 0, 1) := by decide +kernel
theorem dX2_throwAway_14 : decode cX2_throwAway 14 = .ok (.putfield 26, 3) := by decide +kernel
theorem dX2_throwAway_17 : decode cX2_throwAway 17 = .ok (.return_, 1) := by decide +kernel
theorem dX2_openness_0 : decode cX2_openness 0 = .ok (.bipush 100, 2) := by decide +kernel
theorem dX2_openness_2 : decode cX2_openness 2 = .ok (.sipush 1000, 3) := by decide +kernel
theorem dX2_openness_5 : decode cX2_openness 5 = .ok (.aload_n 0, 1) := by decide +kernel
theorem dX2_openness_6 : decode cX2_openness 6 = .ok (.getfield 23, 3) := by decide +kernel
theorem dX2_openness_9 : decode cX2_openness 9 = .ok (.iload_n 1, 1) := by decide +kernel
theorem dX2_openness_10 : decode cX2_openness 10 = .ok (.invokestatic 33, 3) := by decide +kernel
theorem dX2_openness_13 : decode cX2_openness 13 = .ok (.isub, 1) := by decide +kernel
theorem dX2_openness_14 : decode cX2_openness 14 = .ok (.invokestatic 37, 3) := by decide +kernel
theorem dX2_openness_17 : decode cX2_openness 17 = .ok (.ireturn, 1) := by decide +kernel
theorem dX2_dropOnto_0 : decode cX2_dropOnto 0 = .ok (.aload_n 0, 1) := by decide +kernel
theorem dX2_dropOnto_1 : decode cX2_dropOnto 1 = .ok (.iload_n 2, 1) := by decide +kernel
theorem dX2_dropOnto_2 : decode cX2_dropOnto 2 = .ok (.invokevirtual 42, 3) := by decide +kernel
theorem dX2_dropOnto_5 : decode cX2_dropOnto 5 = .ok (.istore_n 3, 1) := by decide +kernel
theorem dX2_dropOnto_6 : decode cX2_dropOnto 6 = .ok (.iconst 0, 1) := by decide +kernel
theorem dX2_dropOnto_7 : decode cX2_dropOnto 7 = .ok (.istore 4, 2) := by decide +kernel
theorem dX2_dropOnto_9 : decode cX2_dropOnto 9 = .ok (.iconst 0, 1) := by decide +kernel
theorem dX2_dropOnto_10 : decode cX2_dropOnto 10 = .ok (.istore 5, 2) := by decide +kernel
theorem dX2_dropOnto_12 : decode cX2_dropOnto 12 = .ok (.iload 5, 2) := by decide +kernel
theorem dX2_dropOnto_14 : decode cX2_dropOnto 14 = .ok (.aload_n 0, 1) := by decide +kernel
theorem dX2_dropOnto_15 : decode cX2_dropOnto 15 = .ok (.getfield 19, 3) := by decide +kernel
theorem dX2_dropOnto_18 : decode cX2_dropOnto 18 = .ok (.if_icmp .ge 63, 3) := by decide +kernel
theorem dX2_dropOnto_21 : decode cX2_dropOnto 21 = .ok (.aload_n 0, 1) := by decide +kernel
theorem dX2_dropOnto_22 : decode cX2_dropOnto 22 = .ok (.getfield 9, 3) := by decide +kernel
theorem dX2_dropOnto_25 : decode cX2_dropOnto 25 = .ok (.iload 5, 2) := by decide +kernel
theorem dX2_dropOnto_27 : decode cX2_dropOnto 27 = .ok (.iaload, 1) := by decide +kernel
theorem dX2_dropOnto_28 : decode cX2_dropOnto 28 = .ok (.iload_n 3, 1) := by decide +kernel
theorem dX2_dropOnto_29 : decode cX2_dropOnto 29 = .ok (.aload_n 0, 1) := by decide +kernel
theorem dX2_dropOnto_30 : decode cX2_dropOnto 30 = .ok (.getfield 19, 3) := by decide +kernel
theorem dX2_dropOnto_33 : decode cX2_dropOnto 33 = .ok (.iload 5, 2) := by decide +kernel
theorem dX2_dropOnto_35 : decode cX2_dropOnto 35 = .ok (.isub, 1) := by decide +kernel
theorem dX2_dropOnto_36 : decode cX2_dropOnto 36 = .ok (.invokestatic 46, 3) := by decide +kernel
theorem dX2_dropOnto_39 : decode cX2_dropOnto 39 = .ok (.invokestatic 49, 3) := by decide +kernel
theorem dX2_dropOnto_42 : decode cX2_dropOnto 42 = .ok (.istore 6, 2) := by decide +kernel
theorem dX2_dropOnto_44 : decode cX2_dropOnto 44 = .ok (.aload_n 0, 1) := by decide +kernel
theorem dX2_dropOnto_45 : decode cX2_dropOnto 45 = .ok (.getfield 9, 3) := by decide +kernel
theorem dX2_dropOnto_48 : decode cX2_dropOnto 48 = .ok (.iload 5, 2) := by decide +kernel
theorem dX2_dropOnto_50 : decode cX2_dropOnto 50 = .ok (.dup2, 1) := by decide +kernel
theorem dX2_dropOnto_51 : decode cX2_dropOnto 51 = .ok (.iaload, 1) := by decide +kernel
theorem dX2_dropOnto_52 : decode cX2_dropOnto 52 = .ok (.iload 6, 2) := by decide +kernel
theorem dX2_dropOnto_54 : decode cX2_dropOnto 54 = .ok (.isub, 1) := by decide +kernel
theorem dX2_dropOnto_55 : decode cX2_dropOnto 55 = .ok (.iastore, 1) := by decide +kernel
theorem dX2_dropOnto_56 : decode cX2_dropOnto 56 = .ok (.aload_n 1, 1) := by decide +kernel
theorem dX2_dropOnto_57 : decode cX2_dropOnto 57 = .ok (.getfield 9, 3) := by decide +kernel
theorem dX2_dropOnto_60 : decode cX2_dropOnto 60 = .ok (.iload 5, 2) := by decide +kernel
theorem dX2_dropOnto_62 : decode cX2_dropOnto 62 = .ok (.dup2, 1) := by decide +kernel
theorem dX2_dropOnto_63 : decode cX2_dropOnto 63 = .ok (.iaload, 1) := by decide +kernel
theorem dX2_dropOnto_64 : decode cX2_dropOnto 64 = .ok (.iload 6, 2) := by decide +kernel
theorem dX2_dropOnto_66 : decode cX2_dropOnto 66 = .ok (.iadd, 1) := by decide +kernel
theorem dX2_dropOnto_67 : decode cX2_dropOnto 67 = .ok (.iastore, 1) := by decide +kernel
theorem dX2_dropOnto_68 : decode cX2_dropOnto 68 = .ok (.iload 4, 2) := by decide +kernel
theorem dX2_dropOnto_70 : decode cX2_dropOnto 70 = .ok (.iload 6, 2) := by decide +kernel
theorem dX2_dropOnto_72 : decode cX2_dropOnto 72 = .ok (.iadd, 1) := by decide +kernel
theorem dX2_dropOnto_73 : decode cX2_dropOnto 73 = .ok (.istore 4, 2) := by decide +kernel
theorem dX2_dropOnto_75 : decode cX2_dropOnto 75 = .ok (.iinc 5 1, 3) := by decide +kernel
theorem dX2_dropOnto_78 : decode cX2_dropOnto 78 = .ok (.goto (-66), 3) := by decide +kernel
theorem dX2_dropOnto_81 : decode cX2_dropOnto 81 = .ok (.iload 4, 2) := by decide +kernel
theorem dX2_dropOnto_83 : decode cX2_dropOnto 83 = .ok (.ireturn, 1) := by decide +kernel
theorem dX2_blind_0 : decode cX2_blind 0 = .ok (.aload_n 0, 1) := by decide +kernel
theorem dX2_blind_1 : decode cX2_blind 1 = .ok (.getfield 9, 3) := by decide +kernel
theorem dX2_blind_4 : decode cX2_blind 4 = .ok (.aload_n 0, 1) := by decide +kernel
theorem dX2_blind_5 : decode cX2_blind 5 = .ok (.getfield 19, 3) := by decide +kernel
theorem dX2_blind_8 : decode cX2_blind 8 = .ok (.iaload, 1) := by decide +kernel
theorem dX2_blind_9 : decode cX2_blind 9 = .ok (.iload_n 1, 1) := by decide +kernel
theorem dX2_blind_10 : decode cX2_blind 10 = .ok (.imul, 1) := by decide +kernel
theorem dX2_blind_11 : decode cX2_blind 11 = .ok (.sipush 1000, 3) := by decide +kernel
theorem dX2_blind_14 : decode cX2_blind 14 = .ok (.idiv, 1) := by decide +kernel
theorem dX2_blind_15 : decode cX2_blind 15 = .ok (.istore_n 2, 1) := by decide +kernel
theorem dX2_blind_16 : decode cX2_blind 16 = .ok (.aload_n 0, 1) := by decide +kernel
theorem dX2_blind_17 : decode cX2_blind 17 = .ok (.getfield 9, 3) := by decide +kernel
theorem dX2_blind_20 : decode cX2_blind 20 = .ok (.aload_n 0, 1) := by decide +kernel
theorem dX2_blind_21 : decode cX2_blind 21 = .ok (.getfield 19, 3) := by decide +kernel
theorem dX2_blind_24 : decode cX2_blind 24 = .ok (.dup2, 1) := by decide +kernel
theorem dX2_blind_25 : decode cX2_blind 25 = .ok (.iaload, 1) := by decide +kernel
theorem dX2_blind_26 : decode cX2_blind 26 = .ok (.iload_n 2, 1) := by decide +kernel
theorem dX2_blind_27 : decode cX2_blind 27 = .ok (.isub, 1) := by decide +kernel
theorem dX2_blind_28 : decode cX2_blind 28 = .ok (.iastore, 1) := by decide +kernel
theorem dX2_blind_29 : decode cX2_blind 29 = .ok (.aload_n 0, 1) := by decide +kernel
theorem dX2_blind_30 : decode cX2_blind 30 = .ok (.dup, 1) := by decide +kernel
theorem dX2_blind_31 : decode cX2_blind 31 = .ok (.getfield 23, 3) := by decide +kernel
theorem dX2_blind_34 : decode cX2_blind 34 = .ok (.iload_n 2, 1) := by decide +kernel
theorem dX2_blind_35 : decode cX2_blind 35 = .ok (.iadd, 1) := by decide +kernel
theorem dX2_blind_36 : decode cX2_blind 36 = .ok (.putfield 23, 3) := by decide +kernel
theorem dX2_blind_39 : decode cX2_blind 39 = .ok (.return_, 1) := by decide +kernel
theorem dX2_fallingOf_0 : decode cX2_fallingOf 0 = .ok (.iload_n 0, 1) := by decide +kernel
theorem dX2_fallingOf_1 : decode cX2_fallingOf 1 = .ok (.ifCond .ne 5, 3) := by decide +kernel
theorem dX2_fallingOf_4 : decode cX2_fallingOf 4 = .ok (.iconst 0, 1) := by decide +kernel
theorem dX2_fallingOf_5 : decode cX2_fallingOf 5 = .ok (.ireturn, 1) := by decide +kernel
theorem dX2_fallingOf_6 : decode cX2_fallingOf 6 = .ok (.lconst 1, 1) := by decide +kernel
theorem dX2_fallingOf_7 : decode cX2_fallingOf 7 = .ok (.iload_n 0, 1) := by decide +kernel
theorem dX2_fallingOf_8 : decode cX2_fallingOf 8 = .ok (.i2l, 1) := by decide +kernel
theorem dX2_fallingOf_9 : decode cX2_fallingOf 9 = .ok (.iload_n 1, 1) := by decide +kernel
theorem dX2_fallingOf_10 : decode cX2_fallingOf 10 = .ok (.i2l, 1) := by decide +kernel
theorem dX2_fallingOf_11 : decode cX2_fallingOf 11 = .ok (.lmul, 1) := by decide +kernel
theorem dX2_fallingOf_12 : decode cX2_fallingOf 12 = .ok (.iload_n 2, 1) := by decide +kernel
theorem dX2_fallingOf_13 : decode cX2_fallingOf 13 = .ok (.i2l, 1) := by decide +kernel
theorem dX2_fallingOf_14 : decode cX2_fallingOf 14 = .ok (.lmul, 1) := by decide +kernel
theorem dX2_fallingOf_15 : decode cX2_fallingOf 15 = .ok (.ldc2_w 53, 3) := by decide +kernel
theorem dX2_fallingOf_18 : decode cX2_fallingOf 18 = .ok (.ldiv, 1) := by decide +kernel
theorem dX2_fallingOf_19 : decode cX2_fallingOf 19 = .ok (.invokestatic 55, 3) := by decide +kernel
theorem dX2_fallingOf_22 : decode cX2_fallingOf 22 = .ok (.l2i, 1) := by decide +kernel
theorem dX2_fallingOf_23 : decode cX2_fallingOf 23 = .ok (.ireturn, 1) := by decide +kernel
theorem dX2_easeOf_0 : decode cX2_easeOf 0 = .ok (.iload_n 0, 1) := by decide +kernel
theorem dX2_easeOf_1 : decode cX2_easeOf 1 = .ok (.lookupswitch 35 #[(1, 27), (2, 31)], 27) := by decide +kernel
theorem dX2_easeOf_28 : decode cX2_easeOf 28 = .ok (.sipush 300, 3) := by decide +kernel
theorem dX2_easeOf_31 : decode cX2_easeOf 31 = .ok (.ireturn, 1) := by decide +kernel
theorem dX2_easeOf_32 : decode cX2_easeOf 32 = .ok (.sipush 600, 3) := by decide +kernel
theorem dX2_easeOf_35 : decode cX2_easeOf 35 = .ok (.ireturn, 1) := by decide +kernel
theorem dX2_easeOf_36 : decode cX2_easeOf 36 = .ok (.sipush 900, 3) := by decide +kernel
theorem dX2_easeOf_39 : decode cX2_easeOf 39 = .ok (.ireturn, 1) := by decide +kernel
theorem dX3_init_0 : decode cX3_init 0 = .ok (.aload_n 0, 1) := by decide +kernel
theorem dX3_init_1 : decode cX3_init 1 = .ok (.invokespecial 1, 3) := by decide +kernel
theorem dX3_init_4 : decode cX3_init 4 = .ok (.aload_n 0, 1) := by decide +kernel
theorem dX3_init_5 : decode cX3_init 5 = .ok (.new 7, 3) := by decide +kernel
theorem dX3_init_8 : decode cX3_init 8 = .ok (.dup, 1) := by decide +kernel
theorem dX3_init_9 : decode cX3_init 9 = .ok (.invokespecial 9, 3) := by decide +kernel
theorem dX3_init_12 : decode cX3_init 12 = .ok (.putfield 10, 3) := by decide +kernel
theorem dX3_init_15 : decode cX3_init 15 = .ok (.aload_n 0, 1) := by decide +kernel
theorem dX3_init_16 : decode cX3_init 16 = .ok (.new 7, 3) := by decide +kernel
theorem dX3_init_19 : decode cX3_init 19 = .ok (.dup, 1) := by decide +kernel
theorem dX3_init_20 : decode cX3_init 20 = .ok (.invokespecial 9, 3) := by decide +kernel
theorem dX3_init_23 : decode cX3_init 23 = .ok (.putfield 16, 3) := by decide +kernel
theorem dX3_init_26 : decode cX3_init 26 = .ok (.aload_n 0, 1) := by decide +kernel
theorem dX3_init_27 : decode cX3_init 27 = .ok (.bipush 6, 2) := by decide +kernel
theorem dX3_init_29 : decode cX3_init 29 = .ok (.anewarray 7, 3) := by decide +kernel
theorem dX3_init_32 : decode cX3_init 32 = .ok (.putfield 19, 3) := by decide +kernel
theorem dX3_init_35 : decode cX3_init 35 = .ok (.aload_n 0, 1) := by decide +kernel
theorem dX3_init_36 : decode cX3_init 36 = .ok (.new 23, 3) := by decide +kernel
theorem dX3_init_39 : decode cX3_init 39 = .ok (.dup, 1) := by decide +kernel
theorem dX3_init_40 : decode cX3_init 40 = .ok (.invokespecial 25, 3) := by decide +kernel
theorem dX3_init_43 : decode cX3_init 43 = .ok (.putfield 26, 3) := by decide +kernel
theorem dX3_init_46 : decode cX3_init 46 = .ok (.iconst 0, 1) := by decide +kernel
theorem dX3_init_47 : decode cX3_init 47 = .ok (.istore_n 1, 1) := by decide +kernel
theorem dX3_init_48 : decode cX3_init 48 = .ok (.iload_n 1, 1) := by decide +kernel
theorem dX3_init_49 : decode cX3_init 49 = .ok (.bipush 6, 2) := by decide +kernel
theorem dX3_init_51 : decode cX3_init 51 = .ok (.if_icmp .ge 22, 3) := by decide +kernel
theorem dX3_init_54 : decode cX3_init 54 = .ok (.aload_n 0, 1) := by decide +kernel
theorem dX3_init_55 : decode cX3_init 55 = .ok (.getfield 19, 3) := by decide +kernel
theorem dX3_init_58 : decode cX3_init 58 = .ok (.iload_n 1, 1) := by decide +kernel
theorem dX3_init_59 : decode cX3_init 59 = .ok (.new 7, 3) := by decide +kernel
theorem dX3_init_62 : decode cX3_init 62 = .ok (.dup, 1) := by decide +kernel
theorem dX3_init_63 : decode cX3_init 63 = .ok (.invokespecial 9, 3) := by decide +kernel
theorem dX3_init_66 : decode cX3_init 66 = .ok (.aastore, 1) := by decide +kernel
theorem dX3_init_67 : decode cX3_init 67 = .ok (.iinc 1 1, 3) := by decide +kernel
theorem dX3_init_70 : decode cX3_init 70 = .ok (.goto (-22), 3) := by decide +kernel
theorem dX3_init_73 : decode cX3_init 73 = .ok (.return_, 1) := by decide +kernel
theorem dX3_setMass_0 : decode cX3_setMass 0 = .ok (.iload_n 1, 1) := by decide +kernel
theorem dX3_setMass_1 : decode cX3_setMass 1 = .ok (.invokestatic 30, 3) := by decide +kernel
theorem dX3_setMass_4 : decode cX3_setMass 4 = .ok (.ifCond .eq 14, 3) := by decide +kernel
theorem dX3_setMass_7 : decode cX3_setMass 7 = .ok (.iload_n 2, 1) := by decide +kernel
theorem dX3_setMass_8 : decode cX3_setMass 8 = .ok (.iconst 0, 1) := by decide +kernel
theorem dX3_setMass_9 : decode cX3_setMass 9 = .ok (.sipush 9999, 3) := by decide +kernel
theorem dX3_setMass_12 : decode cX3_setMass 12 = .ok (.invokestatic 34, 3) := by decide +kernel
theorem dX3_setMass_15 : decode cX3_setMass 15 = .ok (.ifCond .ne 5, 3) := by decide +kernel
theorem dX3_setMass_18 : decode cX3_setMass 18 = .ok (.iconst (-1), 1) := by decide +kernel
theorem dX3_setMass_19 : decode cX3_setMass 19 = .ok (.ireturn, 1) := by decide +kernel
theorem dX3_setMass_20 : decode cX3_setMass 20 = .ok (.aload_n 0, 1) := by decide +kernel
theorem dX3_setMass_21 : decode cX3_setMass 21 = .ok (.invokevirtual 38, 3) := by decide +kernel
theorem dX3_setMass_24 : decode cX3_setMass 24 = .ok (.aload_n 0, 1) := by decide +kernel
theorem dX3_setMass_25 : decode cX3_setMass 25 = .ok (.getfield 10, 3) := by decide +kernel
theorem dX3_setMass_28 : decode cX3_setMass 28 = .ok (.getfield 41, 3) := by decide +kernel
theorem dX3_setMass_31 : decode cX3_setMass 31 = .ok (.iload_n 1, 1) := by decide +kernel
theorem dX3_setMass_32 : decode cX3_setMass 32 = .ok (.iaload, 1) := by decide +kernel
theorem dX3_setMass_33 : decode cX3_setMass 33 = .ok (.istore_n 3, 1) := by decide +kernel
theorem dX3_setMass_34 : decode cX3_setMass 34 = .ok (.aload_n 0, 1) := by decide +kernel
theorem dX3_setMass_35 : decode cX3_setMass 35 = .ok (.getfield 10, 3) := by decide +kernel
theorem dX3_setMass_38 : decode cX3_setMass 38 = .ok (.getfield 41, 3) := by decide +kernel
theorem dX3_setMass_41 : decode cX3_setMass 41 = .ok (.iload_n 1, 1) := by decide +kernel
theorem dX3_setMass_42 : decode cX3_setMass 42 = .ok (.iload_n 2, 1) := by decide +kernel
theorem dX3_setMass_43 : decode cX3_setMass 43 = .ok (.iastore, 1) := by decide +kernel
theorem dX3_setMass_44 : decode cX3_setMass 44 = .ok (.iload_n 3, 1) := by decide +kernel
theorem dX3_setMass_45 : decode cX3_setMass 45 = .ok (.ireturn, 1) := by decide +kernel
theorem dX3_mass_0 : decode cX3_mass 0 = .ok (.aload_n 0, 1) := by decide +kernel
theorem dX3_mass_1 : decode cX3_mass 1 = .ok (.getfield 10, 3) := by decide +kernel
theorem dX3_mass_4 : decode cX3_mass 4 = .ok (.getfield 41, 3) := by decide +kernel
theorem dX3_mass_7 : decode cX3_mass 7 = .ok (.iload_n 1, 1) := by decide +kernel
theorem dX3_mass_8 : decode cX3_mass 8 = .ok (.invokestatic 45, 3) := by decide +kernel
theorem dX3_mass_11 : decode cX3_mass 11 = .ok (.ireturn, 1) := by decide +kernel
theorem dX3_reserve_0 : decode cX3_reserve 0 = .ok (.aload_n 0, 1) := by decide +kernel
theorem dX3_reserve_1 : decode cX3_reserve 1 = .ok (.getfield 10, 3) := by decide +kernel
theorem dX3_reserve_4 : decode cX3_reserve 4 = .ok (.getfield 49, 3) := by decide +kernel
theorem dX3_reserve_7 : decode cX3_reserve 7 = .ok (.iload_n 1, 1) := by decide +kernel
theorem dX3_reserve_8 : decode cX3_reserve 8 = .ok (.invokestatic 45, 3) := by decide +kernel
theorem dX3_reserve_11 : decode cX3_reserve 11 = .ok (.ireturn, 1) := by decide +kernel
theorem dX3_split_0 : decode cX3_split 0 = .ok (.iload_n 1, 1) := by decide +kernel
theorem dX3_split_1 : decode cX3_split 1 = .ok (.iconst 0, 1) := by decide +kernel
theorem dX3_split_2 : decode cX3_split 2 = .ok (.iconst 1, 1) := by decide +kernel
theorem dX3_split_3 : decode cX3_split 3 = .ok (.invokestatic 34, 3) := by decide +kernel
theorem dX3_split_6 : decode cX3_split 6 = .ok (.ifCond .ne 5, 3) := by decide +kernel
theorem dX3_split_9 : decode cX3_split 9 = .ok (.iconst (-1), 1) := by decide +kernel
theorem dX3_split_10 : decode cX3_split 10 = .ok (.ireturn, 1) := by decide +kernel
theorem dX3_split_11 : decode cX3_split 11 = .ok (.aload_n 0, 1) := by decide +kernel
theorem dX3_split_12 : decode cX3_split 12 = .ok (.getfield 10, 3) := by decide +kernel
theorem dX3_split_15 : decode cX3_split 15 = .ok (.getfield 41, 3) := by decide +kernel
theorem dX3_split_18 : decode cX3_split 18 = .ok (.invokestatic 52, 3) := by decide +kernel
theorem dX3_split_21 : decode cX3_split 21 = .ok (.ifCond .ne 6, 3) := by decide +kernel
theorem dX3_split_24 : decode cX3_split 24 = .ok (.bipush (-2), 2) := by decide +kernel
theorem dX3_split_26 : decode cX3_split 26 = .ok (.ireturn, 1) := by decide +kernel
theorem dX3_split_27 : decode cX3_split 27 = .ok (.aload_n 0, 1) := by decide +kernel
theorem dX3_split_28 : decode cX3_split 28 = .ok (.invokevirtual 38, 3) := by decide +kernel
theorem dX3_split_31 : decode cX3_split 31 = .ok (.aload_n 0, 1) := by decide +kernel
theorem dX3_split_32 : decode cX3_split 32 = .ok (.getfield 10, 3) := by decide +kernel
theorem dX3_split_35 : decode cX3_split 35 = .ok (.iload_n 1, 1) := by decide +kernel
theorem dX3_split_36 : decode cX3_split 36 = .ok (.ifCond .ne 7, 3) := by decide +kernel
theorem dX3_split_39 : decode cX3_split 39 = .ok (.iconst 1, 1) := by decide +kernel
theorem dX3_split_40 : decode cX3_split 40 = .ok (.goto 4, 3) := by decide +kernel
theorem dX3_split_43 : decode cX3_split 43 = .ok (.iconst 0, 1) := by decide +kernel
theorem dX3_split_44 : decode cX3_split 44 = .ok (.invokevirtual 56, 3) := by decide +kernel
theorem dX3_split_47 : decode cX3_split 47 = .ok (.aload_n 0, 1) := by decide +kernel
theorem dX3_split_48 : decode cX3_split 48 = .ok (.getfield 10, 3) := by decide +kernel
theorem dX3_split_51 : decode cX3_split 51 = .ok (.getfield 41, 3) := by decide +kernel
theorem dX3_split_54 : decode cX3_split 54 = .ok (.invokestatic 52, 3) := by decide +kernel
theorem dX3_split_57 : decode cX3_split 57 = .ok (.ireturn, 1) := by decide +kernel
theorem dX3_splitTo_0 : decode cX3_splitTo 0 = .ok (.iload_n 1, 1) := by decide +kernel
theorem dX3_splitTo_1 : decode cX3_splitTo 1 = .ok (.iconst 1, 1) := by decide +kernel
theorem dX3_splitTo_2 : decode cX3_splitTo 2 = .ok (.sipush 9999, 3) := by decide +kernel
theorem dX3_splitTo_5 : decode cX3_splitTo 5 = .ok (.invokestatic 34, 3) := by decide +kernel
theorem dX3_splitTo_8 : decode cX3_splitTo 8 = .ok (.ifCond .ne 5, 3) := by decide +kernel
theorem dX3_splitTo_11 : decode cX3_splitTo 11 = .ok (.iconst (-1), 1) := by decide +kernel
theorem dX3_splitTo_12 : decode cX3_splitTo 12 = .ok (.ireturn, 1) := by decide +kernel
theorem dX3_splitTo_13 : decode cX3_splitTo 13 = .ok (.aload_n 0, 1) := by decide +kernel
theorem dX3_splitTo_14 : decode cX3_splitTo 14 = .ok (.invokevirtual 38, 3) := by decide +kernel
theorem dX3_splitTo_17 : decode cX3_splitTo 17 = .ok (.iconst 0, 1) := by decide +kernel
theorem dX3_splitTo_18 : decode cX3_splitTo 18 = .ok (.istore_n 2, 1) := by decide +kernel
theorem dX3_splitTo_19 : decode cX3_splitTo 19 = .ok (.iload_n 2, 1) := by decide +kernel
theorem dX3_splitTo_20 : decode cX3_splitTo 20 = .ok (.bipush 100, 2) := by decide +kernel
theorem dX3_splitTo_22 : decode cX3_splitTo 22 = .ok (.if_icmp .ge 31, 3) := by decide +kernel
theorem dX3_splitTo_25 : decode cX3_splitTo 25 = .ok (.aload_n 0, 1) := by decide +kernel
theorem dX3_splitTo_26 : decode cX3_splitTo 26 = .ok (.getfield 10, 3) := by decide +kernel
theorem dX3_splitTo_29 : decode cX3_splitTo 29 = .ok (.getfield 41, 3) := by decide +kernel
theorem dX3_splitTo_32 : decode cX3_splitTo 32 = .ok (.invokestatic 52, 3) := by decide +kernel
theorem dX3_splitTo_35 : decode cX3_splitTo 35 = .ok (.iload_n 1, 1) := by decide +kernel
theorem dX3_splitTo_36 : decode cX3_splitTo 36 = .ok (.if_icmp .le 17, 3) := by decide +kernel
theorem dX3_splitTo_39 : decode cX3_splitTo 39 = .ok (.aload_n 0, 1) := by decide +kernel
theorem dX3_splitTo_40 : decode cX3_splitTo 40 = .ok (.getfield 10, 3) := by decide +kernel
theorem dX3_splitTo_43 : decode cX3_splitTo 43 = .ok (.iconst 1, 1) := by decide +kernel
theorem dX3_splitTo_44 : decode cX3_splitTo 44 = .ok (.invokevirtual 56, 3) := by decide +kernel
theorem dX3_splitTo_47 : decode cX3_splitTo 47 = .ok (.iinc 2 1, 3) := by decide +kernel
theorem dX3_splitTo_50 : decode cX3_splitTo 50 = .ok (.goto (-31), 3) := by decide +kernel
theorem dX3_splitTo_53 : decode cX3_splitTo 53 = .ok (.iload_n 2, 1) := by decide +kernel
theorem dX3_splitTo_54 : decode cX3_splitTo 54 = .ok (.ireturn, 1) := by decide +kernel
theorem dX3_combine_0 : decode cX3_combine 0 = .ok (.iconst 0, 1) := by decide +kernel
theorem dX3_combine_1 : decode cX3_combine 1 = .ok (.istore_n 1, 1) := by decide +kernel
theorem dX3_combine_2 : decode cX3_combine 2 = .ok (.iload_n 1, 1) := by decide +kernel
theorem dX3_combine_3 : decode cX3_combine 3 = .ok (.bipush 10, 2) := by decide +kernel
theorem dX3_combine_5 : decode cX3_combine 5 = .ok (.if_icmp .ge 37, 3) := by decide +kernel
theorem dX3_combine_8 : decode cX3_combine 8 = .ok (.aload_n 0, 1) := by decide +kernel
theorem dX3_combine_9 : decode cX3_combine 9 = .ok (.getfield 10, 3) := by decide +kernel
theorem dX3_combine_12 : decode cX3_combine 12 = .ok (.getfield 41, 3) := by decide +kernel
theorem dX3_combine_15 : decode cX3_combine 15 = .ok (.iload_n 1, 1) := by decide +kernel
theorem dX3_combine_16 : decode cX3_combine 16 = .ok (.iaload, 1) := by decide +kernel
theorem dX3_combine_17 : decode cX3_combine 17 = .ok (.aload_n 0, 1) := by decide +kernel
theorem dX3_combine_18 : decode cX3_combine 18 = .ok (.getfield 10, 3) := by decide +kernel
theorem dX3_combine_21 : decode cX3_combine 21 = .ok (.getfield 49, 3) := by decide +kernel
theorem dX3_combine_24 : decode cX3_combine 24 = .ok (.iload_n 1, 1) := by decide +kernel
theorem dX3_combine_25 : decode cX3_combine 25 = .ok (.iaload, 1) := by decide +kernel
theorem dX3_combine_26 : decode cX3_combine 26 = .ok (.iadd, 1) := by decide +kernel
theorem dX3_combine_27 : decode cX3_combine 27 = .ok (.sipush 9999, 3) := by decide +kernel
theorem dX3_combine_30 : decode cX3_combine 30 = .ok (.if_icmp .le 6, 3) := by decide +kernel
theorem dX3_combine_33 : decode cX3_combine 33 = .ok (.bipush (-3), 2) := by decide +kernel
theorem dX3_combine_35 : decode cX3_combine 35 = .ok (.ireturn, 1) := by decide +kernel
theorem dX3_combine_36 : decode cX3_combine 36 = .ok (.iinc 1 1, 3) := by decide +kernel
theorem dX3_combine_39 : decode cX3_combine 39 = .ok (.goto (-37), 3) := by decide +kernel
theorem dX3_combine_42 : decode cX3_combine 42 = .ok (.aload_n 0, 1) := by decide +kernel
theorem dX3_combine_43 : decode cX3_combine 43 = .ok (.invokevirtual 38, 3) := by decide +kernel
theorem dX3_combine_46 : decode cX3_combine 46 = .ok (.iconst 0, 1) := by decide +kernel
theorem dX3_combine_47 : decode cX3_combine 47 = .ok (.istore_n 1, 1) := by decide +kernel
theorem dX3_combine_48 : decode cX3_combine 48 = .ok (.iload_n 1, 1) := by decide +kernel
theorem dX3_combine_49 : decode cX3_combine 49 = .ok (.bipush 10, 2) := by decide +kernel
theorem dX3_combine_51 : decode cX3_combine 51 = .ok (.if_icmp .ge 40, 3) := by decide +kernel
theorem dX3_combine_54 : decode cX3_combine 54 = .ok (.aload_n 0, 1) := by decide +kernel
theorem dX3_combine_55 : decode cX3_combine 55 = .ok (.getfield 10, 3) := by decide +kernel
theorem dX3_combine_58 : decode cX3_combine 58 = .ok (.getfield 41, 3) := by decide +kernel
theorem dX3_combine_61 : decode cX3_combine 61 = .ok (.iload_n 1, 1) := by decide +kernel
theorem dX3_combine_62 : decode cX3_combine 62 = .ok (.dup2, 1) := by decide +kernel
theorem dX3_combine_63 : decode cX3_combine 63 = .ok (.iaload, 1) := by decide +kernel
theorem dX3_combine_64 : decode cX3_combine 64 = .ok (.aload_n 0, 1) := by decide +kernel
theorem dX3_combine_65 : decode cX3_combine 65 = .ok (.getfield 10, 3) := by decide +kernel
theorem dX3_combine_68 : decode cX3_combine 68 = .ok (.getfield 49, 3) := by decide +kernel
theorem dX3_combine_71 : decode cX3_combine 71 = .ok (.iload_n 1, 1) := by decide +kernel
theorem dX3_combine_72 : decode cX3_combine 72 = .ok (.iaload, 1) := by decide +kernel
theorem dX3_combine_73 : decode cX3_combine 73 = .ok (.iadd, 1) := by decide +kernel
theorem dX3_combine_74 : decode cX3_combine 74 = .ok (.iastore, 1) := by decide +kernel
theorem dX3_combine_75 : decode cX3_combine 75 = .ok (.aload_n 0, 1) := by decide +kernel
theorem dX3_combine_76 : decode cX3_combine 76 = .ok (.getfield 10, 3) := by decide +kernel
theorem dX3_combine_79 : decode cX3_combine 79 = .ok (.getfield 49, 3) := by decide +kernel
theorem dX3_combine_82 : decode cX3_combine 82 = .ok (.iload_n 1, 1) := by decide +kernel
theorem dX3_combine_83 : decode cX3_combine 83 = .ok (.iconst 0, 1) := by decide +kernel
theorem dX3_combine_84 : decode cX3_combine 84 = .ok (.iastore, 1) := by decide +kernel
theorem dX3_combine_85 : decode cX3_combine 85 = .ok (.iinc 1 1, 3) := by decide +kernel
theorem dX3_combine_88 : decode cX3_combine 88 = .ok (.goto (-40), 3) := by decide +kernel
theorem dX3_combine_91 : decode cX3_combine 91 = .ok (.aload_n 0, 1) := by decide +kernel
theorem dX3_combine_92 : decode cX3_combine 92 = .ok (.getfield 10, 3) := by decide +kernel
theorem dX3_combine_95 : decode cX3_combine 95 = .ok (.getfield 41, 3) := by decide +kernel
theorem dX3_combine_98 : decode cX3_combine 98 = .ok (.invokestatic 52, 3) := by decide +kernel
theorem dX3_combine_101 : decode cX3_combine 101 = .ok (.ireturn, 1) := by decide +kernel
theorem dX3_appendCharacter_0 : decode cX3_appendCharacter 0 = .ok (.iload_n 1, 1) := by decide +kernel
theorem dX3_appendCharacter_1 : decode cX3_appendCharacter 1 = .ok (.iconst 0, 1) := by decide +kernel
theorem dX3_appendCharacter_2 : decode cX3_appendCharacter 2 = .ok (.sipush 255, 3) := by decide +kernel
theorem dX3_appendCharacter_5 : decode cX3_appendCharacter 5 = .ok (.invokestatic 34, 3) := by decide +kernel
theorem dX3_appendCharacter_8 : decode cX3_appendCharacter 8 = .ok (.ifCond .ne 5, 3) := by decide +kernel
theorem dX3_appendCharacter_11 : decode cX3_appendCharacter 11 = .ok (.iconst (-1), 1) := by decide +kernel
theorem dX3_appendCharacter_12 : decode cX3_appendCharacter 12 = .ok (.ireturn, 1) := by decide +kernel
theorem dX3_appendCharacter_13 : decode cX3_appendCharacter 13 = .ok (.aload_n 0, 1) := by decide +kernel
theorem dX3_appendCharacter_14 : decode cX3_appendCharacter 14 = .ok (.getfield 26, 3) := by decide +kernel
theorem dX3_appendCharacter_17 : decode cX3_appendCharacter 17 = .ok (.getfield 60, 3) := by decide +kernel
theorem dX3_appendCharacter_20 : decode cX3_appendCharacter 20 = .ok (.bipush 80, 2) := by decide +kernel
theorem dX3_appendCharacter_22 : decode cX3_appendCharacter 22 = .ok (.if_icmp .lt 6, 3) := by decide +kernel
theorem dX3_appendCharacter_25 : decode cX3_appendCharacter 25 = .ok (.bipush (-3), 2) := by decide +kernel
theorem dX3_appendCharacter_27 : decode cX3_appendCharacter 27 = .ok (.ireturn, 1) := by decide +kernel
theorem dX3_appendCharacter_28 : decode cX3_appendCharacter 28 = .ok (.aload_n 0, 1) := by decide +kernel
theorem dX3_appendCharacter_29 : decode cX3_appendCharacter 29 = .ok (.getfield 26, 3) := by decide +kernel
theorem dX3_appendCharacter_32 : decode cX3_appendCharacter 32 = .ok (.getfield 64, 3) := by decide +kernel
theorem dX3_appendCharacter_35 : decode cX3_appendCharacter 35 = .ok (.aload_n 0, 1) := by decide +kernel
theorem dX3_appendCharacter_36 : decode cX3_appendCharacter 36 = .ok (.getfield 26, 3) := by decide +kernel
theorem dX3_appendCharacter_39 : decode cX3_appendCharacter 39 = .ok (.getfield 60, 3) := by decide +kernel
theorem dX3_appendCharacter_42 : decode cX3_appendCharacter 42 = .ok (.iload_n 1, 1) := by decide +kernel
theorem dX3_appendCharacter_43 : decode cX3_appendCharacter 43 = .ok (.i2c, 1) := by decide +kernel
theorem dX3_appendCharacter_44 : decode cX3_appendCharacter 44 = .ok (.castore, 1) := by decide +kernel
theorem dX3_appendCharacter_45 : decode cX3_appendCharacter 45 = .ok (.aload_n 0, 1) := by decide +kernel
theorem dX3_appendCharacter_46 : decode cX3_appendCharacter 46 = .ok (.getfield 26, 3) := by decide +kernel
theorem dX3_appendCharacter_49 : decode cX3_appendCharacter 49 = .ok (.dup, 1) := by decide +kernel
theorem dX3_appendCharacter_50 : decode cX3_appendCharacter 50 = .ok (.getfield 60, 3) := by decide +kernel
theorem dX3_appendCharacter_53 : decode cX3_appendCharacter 53 = .ok (.iconst 1, 1) := by decide +kernel
theorem dX3_appendCharacter_54 : decode cX3_appendCharacter 54 = .ok (.iadd, 1) := by decide +kernel
theorem dX3_appendCharacter_55 : decode cX3_appendCharacter 55 = .ok (.putfield 60, 3) := by decide +kernel
theorem dX3_appendCharacter_58 : decode cX3_appendCharacter 58 = .ok (.aload_n 0, 1) := by decide +kernel
theorem dX3_appendCharacter_59 : decode cX3_appendCharacter 59 = .ok (.getfield 26, 3) := by decide +kernel
theorem dX3_appendCharacter_62 : decode cX3_appendCharacter 62 = .ok (.getfield 60, 3) := by decide +kernel
theorem dX3_appendCharacter_65 : decode cX3_appendCharacter 65 = .ok (.ireturn, 1) := by decide +kernel
theorem dX3_clearText_0 : decode cX3_clearText 0 = .ok (.aload_n 0, 1) := by decide +kernel
theorem dX3_clearText_1 : decode cX3_clearText 1 = .ok (.getfield 26, 3) := by decide +kernel
theorem dX3_clearText_4 : decode cX3_clearText 4 = .ok (.getfield 60, 3) := by decide +kernel
theorem dX3_clearText_7 : decode cX3_clearText 7 = .ok (.istore_n 1, 1) := by decide +kernel
theorem dX3_clearText_8 : decode cX3_clearText 8 = .ok (.aload_n 0, 1) := by decide +kernel
theorem dX3_clearText_9 : decode cX3_clearText 9 = .ok (.getfield 26, 3) := by decide +kernel
theorem dX3_clearText_12 : decode cX3_clearText 12 = .ok (.iconst 0, 1) := by decide +kernel
theorem dX3_clearText_13 : decode cX3_clearText 13 = .ok (.putfield 60, 3) := by decide +kernel
theorem dX3_clearText_16 : decode cX3_clearText 16 = .ok (.iload_n 1, 1) := by decide +kernel
theorem dX3_clearText_17 : decode cX3_clearText 17 = .ok (.ireturn, 1) := by decide +kernel
theorem dX3_load_0 : decode cX3_load 0 = .ok (.aload_n 0, 1) := by decide +kernel
theorem dX3_load_1 : decode cX3_load 1 = .ok (.getfield 26, 3) := by decide +kernel
theorem dX3_load_4 : decode cX3_load 4 = .ok (.invokevirtual 68, 3) := by decide +kernel
theorem dX3_load_7 : decode cX3_load 7 = .ok (.istore_n 1, 1) := by decide +kernel
theorem dX3_load_8 : decode cX3_load 8 = .ok (.iload_n 1, 1) := by decide +kernel
theorem dX3_load_9 : decode cX3_load 9 = .ok (.iconst (-1), 1) := by decide +kernel
theorem dX3_load_10 : decode cX3_load 10 = .ok (.if_icmp .eq 8, 3) := by decide +kernel
theorem dX3_load_13 : decode cX3_load 13 = .ok (.bipush (-10), 2) := by decide +kernel
theorem dX3_load_15 : decode cX3_load 15 = .ok (.iload_n 1, 1) := by decide +kernel
theorem dX3_load_16 : decode cX3_load 16 = .ok (.isub, 1) := by decide +kernel
theorem dX3_load_17 : decode cX3_load 17 = .ok (.ireturn, 1) := by decide +kernel
theorem dX3_load_18 : decode cX3_load 18 = .ok (.aload_n 0, 1) := by decide +kernel
theorem dX3_load_19 : decode cX3_load 19 = .ok (.invokevirtual 38, 3) := by decide +kernel
theorem dX3_load_22 : decode cX3_load 22 = .ok (.aload_n 0, 1) := by decide +kernel
theorem dX3_load_23 : decode cX3_load 23 = .ok (.getfield 26, 3) := by decide +kernel
theorem dX3_load_26 : decode cX3_load 26 = .ok (.getfield 72, 3) := by decide +kernel
theorem dX3_load_29 : decode cX3_load 29 = .ok (.aload_n 0, 1) := by decide +kernel
theorem dX3_load_30 : decode cX3_load 30 = .ok (.getfield 10, 3) := by decide +kernel
theorem dX3_load_33 : decode cX3_load 33 = .ok (.getfield 41, 3) := by decide +kernel
theorem dX3_load_36 : decode cX3_load 36 = .ok (.invokestatic 75, 3) := by decide +kernel
theorem dX3_load_39 : decode cX3_load 39 = .ok (.aload_n 0, 1) := by decide +kernel
theorem dX3_load_40 : decode cX3_load 40 = .ok (.getfield 26, 3) := by decide +kernel
theorem dX3_load_43 : decode cX3_load 43 = .ok (.iconst 0, 1) := by decide +kernel
theorem dX3_load_44 : decode cX3_load 44 = .ok (.putfield 60, 3) := by decide +kernel
theorem dX3_load_47 : decode cX3_load 47 = .ok (.aload_n 0, 1) := by decide +kernel
theorem dX3_load_48 : decode cX3_load 48 = .ok (.getfield 10, 3) := by decide +kernel
theorem dX3_load_51 : decode cX3_load 51 = .ok (.getfield 41, 3) := by decide +kernel
theorem dX3_load_54 : decode cX3_load 54 = .ok (.invokestatic 52, 3) := by decide +kernel
theorem dX3_load_57 : decode cX3_load 57 = .ok (.ireturn, 1) := by decide +kernel
theorem dX3_addSieve_0 : decode cX3_addSieve 0 = .ok (.iload_n 1, 1) := by decide +kernel
theorem dX3_addSieve_1 : decode cX3_addSieve 1 = .ok (.iconst 1, 1) := by decide +kernel
theorem dX3_addSieve_2 : decode cX3_addSieve 2 = .ok (.bipush 9, 2) := by decide +kernel
theorem dX3_addSieve_4 : decode cX3_addSieve 4 = .ok (.invokestatic 34, 3) := by decide +kernel
theorem dX3_addSieve_7 : decode cX3_addSieve 7 = .ok (.ifCond .ne 5, 3) := by decide +kernel
theorem dX3_addSieve_10 : decode cX3_addSieve 10 = .ok (.iconst (-1), 1) := by decide +kernel
theorem dX3_addSieve_11 : decode cX3_addSieve 11 = .ok (.ireturn, 1) := by decide +kernel
theorem dX3_addSieve_12 : decode cX3_addSieve 12 = .ok (.aload_n 0, 1) := by decide +kernel
theorem dX3_addSieve_13 : decode cX3_addSieve 13 = .ok (.getfield 10, 3) := by decide +kernel
theorem dX3_addSieve_16 : decode cX3_addSieve 16 = .ok (.iload_n 1, 1) := by decide +kernel
theorem dX3_addSieve_17 : decode cX3_addSieve 17 = .ok (.invokevirtual 79, 3) := by decide +kernel
theorem dX3_addSieve_20 : decode cX3_addSieve 20 = .ok (.bipush (-9), 2) := by decide +kernel
theorem dX3_addSieve_22 : decode cX3_addSieve 22 = .ok (.if_icmp .eq 6, 3) := by decide +kernel
theorem dX3_addSieve_25 : decode cX3_addSieve 25 = .ok (.bipush (-2), 2) := by decide +kernel
theorem dX3_addSieve_27 : decode cX3_addSieve 27 = .ok (.ireturn, 1) := by decide +kernel
theorem dX3_addSieve_28 : decode cX3_addSieve 28 = .ok (.aload_n 0, 1) := by decide +kernel
theorem dX3_addSieve_29 : decode cX3_addSieve 29 = .ok (.getfield 10, 3) := by decide +kernel
theorem dX3_addSieve_32 : decode cX3_addSieve 32 = .ok (.getfield 83, 3) := by decide +kernel
theorem dX3_addSieve_35 : decode cX3_addSieve 35 = .ok (.bipush 6, 2) := by decide +kernel
theorem dX3_addSieve_37 : decode cX3_addSieve 37 = .ok (.if_icmp .lt 6, 3) := by decide +kernel
theorem dX3_addSieve_40 : decode cX3_addSieve 40 = .ok (.bipush (-3), 2) := by decide +kernel
theorem dX3_addSieve_42 : decode cX3_addSieve 42 = .ok (.ireturn, 1) := by decide +kernel
theorem dX3_addSieve_43 : decode cX3_addSieve 43 = .ok (.aload_n 0, 1) := by decide +kernel
theorem dX3_addSieve_44 : decode cX3_addSieve 44 = .ok (.invokevirtual 38, 3) := by decide +kernel
theorem dX3_addSieve_47 : decode cX3_addSieve 47 = .ok (.aload_n 0, 1) := by decide +kernel
theorem dX3_addSieve_48 : decode cX3_addSieve 48 = .ok (.getfield 10, 3) := by decide +kernel
theorem dX3_addSieve_51 : decode cX3_addSieve 51 = .ok (.invokevirtual 86, 3) := by decide +kernel
theorem dX3_addSieve_54 : decode cX3_addSieve 54 = .ok (.aload_n 0, 1) := by decide +kernel
theorem dX3_addSieve_55 : decode cX3_addSieve 55 = .ok (.getfield 10, 3) := by decide +kernel
theorem dX3_addSieve_58 : decode cX3_addSieve 58 = .ok (.iload_n 1, 1) := by decide +kernel
theorem dX3_addSieve_59 : decode cX3_addSieve 59 = .ok (.invokevirtual 89, 3) := by decide +kernel
theorem dX3_addSieve_62 : decode cX3_addSieve 62 = .ok (.ireturn, 1) := by decide +kernel
theorem dX3_removeSieve_0 : decode cX3_removeSieve 0 = .ok (.iload_n 1, 1) := by decide +kernel
theorem dX3_removeSieve_1 : decode cX3_removeSieve 1 = .ok (.iconst 1, 1) := by decide +kernel
theorem dX3_removeSieve_2 : decode cX3_removeSieve 2 = .ok (.bipush 9, 2) := by decide +kernel
theorem dX3_removeSieve_4 : decode cX3_removeSieve 4 = .ok (.invokestatic 34, 3) := by decide +kernel
theorem dX3_removeSieve_7 : decode cX3_removeSieve 7 = .ok (.ifCond .ne 5, 3) := by decide +kernel
theorem dX3_removeSieve_10 : decode cX3_removeSieve 10 = .ok (.iconst (-1), 1) := by decide +kernel
theorem dX3_removeSieve_11 : decode cX3_removeSieve 11 = .ok (.ireturn, 1) := by decide +kernel
theorem dX3_removeSieve_12 : decode cX3_removeSieve 12 = .ok (.aload_n 0, 1) := by decide +kernel
theorem dX3_removeSieve_13 : decode cX3_removeSieve 13 = .ok (.getfield 10, 3) := by decide +kernel
theorem dX3_removeSieve_16 : decode cX3_removeSieve 16 = .ok (.iload_n 1, 1) := by decide +kernel
theorem dX3_removeSieve_17 : decode cX3_removeSieve 17 = .ok (.invokevirtual 79, 3) := by decide +kernel
theorem dX3_removeSieve_20 : decode cX3_removeSieve 20 = .ok (.istore_n 2, 1) := by decide +kernel
theorem dX3_removeSieve_21 : decode cX3_removeSieve 21 = .ok (.iload_n 2, 1) := by decide +kernel
theorem dX3_removeSieve_22 : decode cX3_removeSieve 22 = .ok (.bipush (-9), 2) := by decide +kernel
theorem dX3_removeSieve_24 : decode cX3_removeSieve 24 = .ok (.if_icmp .ne 6, 3) := by decide +kernel
theorem dX3_removeSieve_27 : decode cX3_removeSieve 27 = .ok (.bipush (-2), 2) := by decide +kernel
theorem dX3_removeSieve_29 : decode cX3_removeSieve 29 = .ok (.ireturn, 1) := by decide +kernel
theorem dX3_removeSieve_30 : decode cX3_removeSieve 30 = .ok (.aload_n 0, 1) := by decide +kernel
theorem dX3_removeSieve_31 : decode cX3_removeSieve 31 = .ok (.invokevirtual 38, 3) := by decide +kernel
theorem dX3_removeSieve_34 : decode cX3_removeSieve 34 = .ok (.aload_n 0, 1) := by decide +kernel
theorem dX3_removeSieve_35 : decode cX3_removeSieve 35 = .ok (.getfield 10, 3) := by decide +kernel
theorem dX3_removeSieve_38 : decode cX3_removeSieve 38 = .ok (.invokevirtual 86, 3) := by decide +kernel
theorem dX3_removeSieve_41 : decode cX3_removeSieve 41 = .ok (.aload_n 0, 1) := by decide +kernel
theorem dX3_removeSieve_42 : decode cX3_removeSieve 42 = .ok (.getfield 10, 3) := by decide +kernel
theorem dX3_removeSieve_45 : decode cX3_removeSieve 45 = .ok (.iload_n 2, 1) := by decide +kernel
theorem dX3_removeSieve_46 : decode cX3_removeSieve 46 = .ok (.invokevirtual 92, 3) := by decide +kernel
theorem dX3_removeSieve_49 : decode cX3_removeSieve 49 = .ok (.aload_n 0, 1) := by decide +kernel
theorem dX3_removeSieve_50 : decode cX3_removeSieve 50 = .ok (.getfield 10, 3) := by decide +kernel
theorem dX3_removeSieve_53 : decode cX3_removeSieve 53 = .ok (.getfield 83, 3) := by decide +kernel
theorem dX3_removeSieve_56 : decode cX3_removeSieve 56 = .ok (.ireturn, 1) := by decide +kernel
theorem dX3_setRules_0 : decode cX3_setRules 0 = .ok (.iload_n 1, 1) := by decide +kernel
theorem dX3_setRules_1 : decode cX3_setRules 1 = .ok (.iconst 1, 1) := by decide +kernel
theorem dX3_setRules_2 : decode cX3_setRules 2 = .ok (.sipush 9999, 3) := by decide +kernel
theorem dX3_setRules_5 : decode cX3_setRules 5 = .ok (.invokestatic 34, 3) := by decide +kernel
theorem dX3_setRules_8 : decode cX3_setRules 8 = .ok (.ifCond .eq 35, 3) := by decide +kernel
theorem dX3_setRules_11 : decode cX3_setRules 11 = .ok (.iload_n 2, 1) := by decide +kernel
theorem dX3_setRules_12 : decode cX3_setRules 12 = .ok (.iconst 0, 1) := by decide +kernel
theorem dX3_setRules_13 : decode cX3_setRules 13 = .ok (.sipush 200, 3) := by decide +kernel
theorem dX3_setRules_16 : decode cX3_setRules 16 = .ok (.invokestatic 34, 3) := by decide +kernel
theorem dX3_setRules_19 : decode cX3_setRules 19 = .ok (.ifCond .eq 24, 3) := by decide +kernel
theorem dX3_setRules_22 : decode cX3_setRules 22 = .ok (.iload_n 3, 1) := by decide +kernel
theorem dX3_setRules_23 : decode cX3_setRules 23 = .ok (.iconst 0, 1) := by decide +kernel
theorem dX3_setRules_24 : decode cX3_setRules 24 = .ok (.bipush 100, 2) := by decide +kernel
theorem dX3_setRules_26 : decode cX3_setRules 26 = .ok (.invokestatic 34, 3) := by decide +kernel
theorem dX3_setRules_29 : decode cX3_setRules 29 = .ok (.ifCond .eq 14, 3) := by decide +kernel
theorem dX3_setRules_32 : decode cX3_setRules 32 = .ok (.iload 4, 2) := by decide +kernel
theorem dX3_setRules_34 : decode cX3_setRules 34 = .ok (.iconst 0, 1) := by decide +kernel
theorem dX3_setRules_35 : decode cX3_setRules 35 = .ok (.bipush 100, 2) := by decide +kernel
theorem dX3_setRules_37 : decode cX3_setRules 37 = .ok (.invokestatic 34, 3) := by decide +kernel
theorem dX3_setRules_40 : decode cX3_setRules 40 = .ok (.ifCond .ne 5, 3) := by decide +kernel
theorem dX3_setRules_43 : decode cX3_setRules 43 = .ok (.iconst (-1), 1) := by decide +kernel
theorem dX3_setRules_44 : decode cX3_setRules 44 = .ok (.ireturn, 1) := by decide +kernel
theorem dX3_setRules_45 : decode cX3_setRules 45 = .ok (.aload_n 0, 1) := by decide +kernel
theorem dX3_setRules_46 : decode cX3_setRules 46 = .ok (.invokevirtual 38, 3) := by decide +kernel
theorem dX3_setRules_49 : decode cX3_setRules 49 = .ok (.aload_n 0, 1) := by decide +kernel
theorem dX3_setRules_50 : decode cX3_setRules 50 = .ok (.getfield 10, 3) := by decide +kernel
theorem dX3_setRules_53 : decode cX3_setRules 53 = .ok (.getfield 96, 3) := by decide +kernel
theorem dX3_setRules_56 : decode cX3_setRules 56 = .ok (.iload_n 1, 1) := by decide +kernel
theorem dX3_setRules_57 : decode cX3_setRules 57 = .ok (.if_icmp .ne 41, 3) := by decide +kernel
theorem dX3_setRules_60 : decode cX3_setRules 60 = .ok (.aload_n 0, 1) := by decide +kernel
theorem dX3_setRules_61 : decode cX3_setRules 61 = .ok (.getfield 10, 3) := by decide +kernel
theorem dX3_setRules_64 : decode cX3_setRules 64 = .ok (.getfield 99, 3) := by decide +kernel
theorem dX3_setRules_67 : decode cX3_setRules 67 = .ok (.iload_n 2, 1) := by decide +kernel
theorem dX3_setRules_68 : decode cX3_setRules 68 = .ok (.if_icmp .ne 30, 3) := by decide +kernel
theorem dX3_setRules_71 : decode cX3_setRules 71 = .ok (.aload_n 0, 1) := by decide +kernel
theorem dX3_setRules_72 : decode cX3_setRules 72 = .ok (.getfield 10, 3) := by decide +kernel
theorem dX3_setRules_75 : decode cX3_setRules 75 = .ok (.getfield 102, 3) := by decide +kernel
theorem dX3_setRules_78 : decode cX3_setRules 78 = .ok (.iload_n 3, 1) := by decide +kernel
theorem dX3_setRules_79 : decode cX3_setRules 79 = .ok (.if_icmp .ne 19, 3) := by decide +kernel
theorem dX3_setRules_82 : decode cX3_setRules 82 = .ok (.aload_n 0, 1) := by decide +kernel
theorem dX3_setRules_83 : decode cX3_setRules 83 = .ok (.getfield 10, 3) := by decide +kernel
theorem dX3_setRules_86 : decode cX3_setRules 86 = .ok (.getfield 105, 3) := by decide +kernel
theorem dX3_setRules_89 : decode cX3_setRules 89 = .ok (.iload 4, 2) := by decide +kernel
theorem dX3_setRules_91 : decode cX3_setRules 91 = .ok (.if_icmp .ne 7, 3) := by decide +kernel
theorem dX3_setRules_94 : decode cX3_setRules 94 = .ok (.iconst 1, 1) := by decide +kernel
theorem dX3_setRules_95 : decode cX3_setRules 95 = .ok (.goto 4, 3) := by decide +kernel
theorem dX3_setRules_98 : decode cX3_setRules 98 = .ok (.iconst 0, 1) := by decide +kernel
theorem dX3_setRules_99 : decode cX3_setRules 99 = .ok (.istore 5, 2) := by decide +kernel
theorem dX3_setRules_101 : decode cX3_setRules 101 = .ok (.aload_n 0, 1) := by decide +kernel
theorem dX3_setRules_102 : decode cX3_setRules 102 = .ok (.getfield 10, 3) := by decide +kernel
theorem dX3_setRules_105 : decode cX3_setRules 105 = .ok (.iload_n 1, 1) := by decide +kernel
theorem dX3_setRules_106 : decode cX3_setRules 106 = .ok (.putfield 96, 3) := by decide +kernel
theorem dX3_setRules_109 : decode cX3_setRules 109 = .ok (.aload_n 0, 1) := by decide +kernel
theorem dX3_setRules_110 : decode cX3_setRules 110 = .ok (.getfield 10, 3) := by decide +kernel
theorem dX3_setRules_113 : decode cX3_setRules 113 = .ok (.iload_n 2, 1) := by decide +kernel
theorem dX3_setRules_114 : decode cX3_setRules 114 = .ok (.putfield 99, 3) := by decide +kernel
theorem dX3_setRules_117 : decode cX3_setRules 117 = .ok (.aload_n 0, 1) := by decide +kernel
theorem dX3_setRules_118 : decode cX3_setRules 118 = .ok (.getfield 10, 3) := by decide +kernel
theorem dX3_setRules_121 : decode cX3_setRules 121 = .ok (.iload_n 3, 1) := by decide +kernel
theorem dX3_setRules_122 : decode cX3_setRules 122 = .ok (.putfield 102, 3) := by decide +kernel
theorem dX3_setRules_125 : decode cX3_setRules 125 = .ok (.aload_n 0, 1) := by decide +kernel
theorem dX3_setRules_126 : decode cX3_setRules 126 = .ok (.getfield 10, 3) := by decide +kernel
theorem dX3_setRules_129 : decode cX3_setRules 129 = .ok (.iload 4, 2) := by decide +kernel
theorem dX3_setRules_131 : decode cX3_setRules 131 = .ok (.putfield 105, 3) := by decide +kernel
theorem dX3_setRules_134 : decode cX3_setRules 134 = .ok (.iload 5, 2) := by decide +kernel
theorem dX3_setRules_136 : decode cX3_setRules 136 = .ok (.ifCond .eq 7, 3) := by decide +kernel
theorem dX3_setRules_139 : decode cX3_setRules 139 = .ok (.iconst 0, 1) := by decide +kernel
theorem dX3_setRules_140 : decode cX3_setRules 140 = .ok (.goto 4, 3) := by decide +kernel
theorem dX3_setRules_143 : decode cX3_setRules 143 = .ok (.iconst 1, 1) := by decide +kernel
theorem dX3_setRules_144 : decode cX3_setRules 144 = .ok (.ireturn, 1) := by decide +kernel
theorem dX3_setBand_0 : decode cX3_setBand 0 = .ok (.iload_n 1, 1) := by decide +kernel
theorem dX3_setBand_1 : decode cX3_setBand 1 = .ok (.iconst 1, 1) := by decide +kernel
theorem dX3_setBand_2 : decode cX3_setBand 2 = .ok (.bipush 9, 2) := by decide +kernel
theorem dX3_setBand_4 : decode cX3_setBand 4 = .ok (.invokestatic 34, 3) := by decide +kernel
theorem dX3_setBand_7 : decode cX3_setBand 7 = .ok (.ifCond .eq 25, 3) := by decide +kernel
theorem dX3_setBand_10 : decode cX3_setBand 10 = .ok (.iload_n 2, 1) := by decide +kernel
theorem dX3_setBand_11 : decode cX3_setBand 11 = .ok (.iconst 0, 1) := by decide +kernel
theorem dX3_setBand_12 : decode cX3_setBand 12 = .ok (.sipush 1000, 3) := by decide +kernel
theorem dX3_setBand_15 : decode cX3_setBand 15 = .ok (.invokestatic 34, 3) := by decide +kernel
theorem dX3_setBand_18 : decode cX3_setBand 18 = .ok (.ifCond .eq 14, 3) := by decide +kernel
theorem dX3_setBand_21 : decode cX3_setBand 21 = .ok (.iload_n 3, 1) := by decide +kernel
theorem dX3_setBand_22 : decode cX3_setBand 22 = .ok (.iload_n 2, 1) := by decide +kernel
theorem dX3_setBand_23 : decode cX3_setBand 23 = .ok (.sipush 1000, 3) := by decide +kernel
theorem dX3_setBand_26 : decode cX3_setBand 26 = .ok (.invokestatic 34, 3) := by decide +kernel
theorem dX3_setBand_29 : decode cX3_setBand 29 = .ok (.ifCond .ne 5, 3) := by decide +kernel
theorem dX3_setBand_32 : decode cX3_setBand 32 = .ok (.iconst (-1), 1) := by decide +kernel
theorem dX3_setBand_33 : decode cX3_setBand 33 = .ok (.ireturn, 1) := by decide +kernel
theorem dX3_setBand_34 : decode cX3_setBand 34 = .ok (.aload_n 0, 1) := by decide +kernel
theorem dX3_setBand_35 : decode cX3_setBand 35 = .ok (.invokevirtual 38, 3) := by decide +kernel
theorem dX3_setBand_38 : decode cX3_setBand 38 = .ok (.aload_n 0, 1) := by decide +kernel
theorem dX3_setBand_39 : decode cX3_setBand 39 = .ok (.getfield 10, 3) := by decide +kernel
theorem dX3_setBand_42 : decode cX3_setBand 42 = .ok (.getfield 108, 3) := by decide +kernel
theorem dX3_setBand_45 : decode cX3_setBand 45 = .ok (.iload_n 1, 1) := by decide +kernel
theorem dX3_setBand_46 : decode cX3_setBand 46 = .ok (.iaload, 1) := by decide +kernel
theorem dX3_setBand_47 : decode cX3_setBand 47 = .ok (.iload_n 2, 1) := by decide +kernel
theorem dX3_setBand_48 : decode cX3_setBand 48 = .ok (.if_icmp .ne 20, 3) := by decide +kernel
theorem dX3_setBand_51 : decode cX3_setBand 51 = .ok (.aload_n 0, 1) := by decide +kernel
theorem dX3_setBand_52 : decode cX3_setBand 52 = .ok (.getfield 10, 3) := by decide +kernel
theorem dX3_setBand_55 : decode cX3_setBand 55 = .ok (.getfield 111, 3) := by decide +kernel
theorem dX3_setBand_58 : decode cX3_setBand 58 = .ok (.iload_n 1, 1) := by decide +kernel
theorem dX3_setBand_59 : decode cX3_setBand 59 = .ok (.iaload, 1) := by decide +kernel
theorem dX3_setBand_60 : decode cX3_setBand 60 = .ok (.iload_n 3, 1) := by decide +kernel
theorem dX3_setBand_61 : decode cX3_setBand 61 = .ok (.if_icmp .ne 7, 3) := by decide +kernel
theorem dX3_setBand_64 : decode cX3_setBand 64 = .ok (.iconst 1, 1) := by decide +kernel
theorem dX3_setBand_65 : decode cX3_setBand 65 = .ok (.goto 4, 3) := by decide +kernel
theorem dX3_setBand_68 : decode cX3_setBand 68 = .ok (.iconst 0, 1) := by decide +kernel
theorem dX3_setBand_69 : decode cX3_setBand 69 = .ok (.istore 4, 2) := by decide +kernel
theorem dX3_setBand_71 : decode cX3_setBand 71 = .ok (.aload_n 0, 1) := by decide +kernel
theorem dX3_setBand_72 : decode cX3_setBand 72 = .ok (.getfield 10, 3) := by decide +kernel
theorem dX3_setBand_75 : decode cX3_setBand 75 = .ok (.getfield 108, 3) := by decide +kernel
theorem dX3_setBand_78 : decode cX3_setBand 78 = .ok (.iload_n 1, 1) := by decide +kernel
theorem dX3_setBand_79 : decode cX3_setBand 79 = .ok (.iload_n 2, 1) := by decide +kernel
theorem dX3_setBand_80 : decode cX3_setBand 80 = .ok (.iastore, 1) := by decide +kernel
theorem dX3_setBand_81 : decode cX3_setBand 81 = .ok (.aload_n 0, 1) := by decide +kernel
theorem dX3_setBand_82 : decode cX3_setBand 82 = .ok (.getfield 10, 3) := by decide +kernel
theorem dX3_setBand_85 : decode cX3_setBand 85 = .ok (.getfield 111, 3) := by decide +kernel
theorem dX3_setBand_88 : decode cX3_setBand 88 = .ok (.iload_n 1, 1) := by decide +kernel
theorem dX3_setBand_89 : decode cX3_setBand 89 = .ok (.iload_n 3, 1) := by decide +kernel
theorem dX3_setBand_90 : decode cX3_setBand 90 = .ok (.iastore, 1) := by decide +kernel
theorem dX3_setBand_91 : decode cX3_setBand 91 = .ok (.iload 4, 2) := by decide +kernel
theorem dX3_setBand_93 : decode cX3_setBand 93 = .ok (.ifCond .eq 7, 3) := by decide +kernel
theorem dX3_setBand_96 : decode cX3_setBand 96 = .ok (.iconst 0, 1) := by decide +kernel
theorem dX3_setBand_97 : decode cX3_setBand 97 = .ok (.goto 4, 3) := by decide +kernel
theorem dX3_setBand_100 : decode cX3_setBand 100 = .ok (.iconst 1, 1) := by decide +kernel
theorem dX3_setBand_101 : decode cX3_setBand 101 = .ok (.ireturn, 1) := by decide +kernel
theorem dX3_count_0 : decode cX3_count 0 = .ok (.iload_n 1, 1) := by decide +kernel
theorem dX3_count_1 : decode cX3_count 1 = .ok (.tableswitch 140 0 9 #[55, 63, 71, 79, 87, 95, 111, 119, 127, 135], 55) := by decide +kernel
theorem dX3_count_56 : decode cX3_count 56 = .ok (.aload_n 0, 1) := by decide +kernel
theorem dX3_count_57 : decode cX3_count 57 = .ok (.getfield 10, 3) := by decide +kernel
theorem dX3_count_60 : decode cX3_count 60 = .ok (.getfield 83, 3) := by decide +kernel
theorem dX3_count_63 : decode cX3_count 63 = .ok (.ireturn, 1) := by decide +kernel
theorem dX3_count_64 : decode cX3_count 64 = .ok (.aload_n 0, 1) := by decide +kernel
theorem dX3_count_65 : decode cX3_count 65 = .ok (.getfield 10, 3) := by decide +kernel
theorem dX3_count_68 : decode cX3_count 68 = .ok (.getfield 96, 3) := by decide +kernel
theorem dX3_count_71 : decode cX3_count 71 = .ok (.ireturn, 1) := by decide +kernel
theorem dX3_count_72 : decode cX3_count 72 = .ok (.aload_n 0, 1) := by decide +kernel
theorem dX3_count_73 : decode cX3_count 73 = .ok (.getfield 10, 3) := by decide +kernel
theorem dX3_count_76 : decode cX3_count 76 = .ok (.getfield 99, 3) := by decide +kernel
theorem dX3_count_79 : decode cX3_count 79 = .ok (.ireturn, 1) := by decide +kernel
theorem dX3_count_80 : decode cX3_count 80 = .ok (.aload_n 0, 1) := by decide +kernel
theorem dX3_count_81 : decode cX3_count 81 = .ok (.getfield 10, 3) := by decide +kernel
theorem dX3_count_84 : decode cX3_count 84 = .ok (.getfield 102, 3) := by decide +kernel
theorem dX3_count_87 : decode cX3_count 87 = .ok (.ireturn, 1) := by decide +kernel
theorem dX3_count_88 : decode cX3_count 88 = .ok (.aload_n 0, 1) := by decide +kernel
theorem dX3_count_89 : decode cX3_count 89 = .ok (.getfield 10, 3) := by decide +kernel
theorem dX3_count_92 : decode cX3_count 92 = .ok (.getfield 105, 3) := by decide +kernel
theorem dX3_count_95 : decode cX3_count 95 = .ok (.ireturn, 1) := by decide +kernel
theorem dX3_count_96 : decode cX3_count 96 = .ok (.aload_n 0, 1) := by decide +kernel
theorem dX3_count_97 : decode cX3_count 97 = .ok (.getfield 10, 3) := by decide +kernel
theorem dX3_count_100 : decode cX3_count 100 = .ok (.getfield 114, 3) := by decide +kernel
theorem dX3_count_103 : decode cX3_count 103 = .ok (.ifCond .eq 7, 3) := by decide +kernel
theorem dX3_count_106 : decode cX3_count 106 = .ok (.iconst 1, 1) := by decide +kernel
theorem dX3_count_107 : decode cX3_count 107 = .ok (.goto 4, 3) := by decide +kernel
theorem dX3_count_110 : decode cX3_count 110 = .ok (.iconst 0, 1) := by decide +kernel
theorem dX3_count_111 : decode cX3_count 111 = .ok (.ireturn, 1) := by decide +kernel
theorem dX3_count_112 : decode cX3_count 112 = .ok (.aload_n 0, 1) := by decide +kernel
theorem dX3_count_113 : decode cX3_count 113 = .ok (.getfield 10, 3) := by decide +kernel
theorem dX3_count_116 : decode cX3_count 116 = .ok (.getfield 118, 3) := by decide +kernel
theorem dX3_count_119 : decode cX3_count 119 = .ok (.ireturn, 1) := by decide +kernel
theorem dX3_count_120 : decode cX3_count 120 = .ok (.aload_n 0, 1) := by decide +kernel
theorem dX3_count_121 : decode cX3_count 121 = .ok (.getfield 10, 3) := by decide +kernel
theorem dX3_count_124 : decode cX3_count 124 = .ok (.getfield 121, 3) := by decide +kernel
theorem dX3_count_127 : decode cX3_count 127 = .ok (.ireturn, 1) := by decide +kernel
theorem dX3_count_128 : decode cX3_count 128 = .ok (.aload_n 0, 1) := by decide +kernel
theorem dX3_count_129 : decode cX3_count 129 = .ok (.getfield 26, 3) := by decide +kernel
theorem dX3_count_132 : decode cX3_count 132 = .ok (.getfield 60, 3) := by decide +kernel
theorem dX3_count_135 : decode cX3_count 135 = .ok (.ireturn, 1) := by decide +kernel
theorem dX3_count_136 : decode cX3_count 136 = .ok (.aload_n 0, 1) := by decide +kernel
theorem dX3_count_137 : decode cX3_count 137 = .ok (.getfield 124, 3) := by decide +kernel
theorem dX3_count_140 : decode cX3_count 140 = .ok (.ireturn, 1) := by decide +kernel
theorem dX3_count_141 : decode cX3_count 141 = .ok (.iconst (-1), 1) := by decide +kernel
theorem dX3_count_142 : decode cX3_count 142 = .ok (.ireturn, 1) := by decide +kernel
theorem dX3_tray_0 : decode cX3_tray 0 = .ok (.aload_n 0, 1) := by decide +kernel
theorem dX3_tray_1 : decode cX3_tray 1 = .ok (.getfield 10, 3) := by decide +kernel
theorem dX3_tray_4 : decode cX3_tray 4 = .ok (.iload_n 1, 1) := by decide +kernel
theorem dX3_tray_5 : decode cX3_tray 5 = .ok (.invokevirtual 127, 3) := by decide +kernel
theorem dX3_tray_8 : decode cX3_tray 8 = .ok (.ifCond .ne 5, 3) := by decide +kernel
theorem dX3_tray_11 : decode cX3_tray 11 = .ok (.iconst (-1), 1) := by decide +kernel
theorem dX3_tray_12 : decode cX3_tray 12 = .ok (.ireturn, 1) := by decide +kernel
theorem dX3_tray_13 : decode cX3_tray 13 = .ok (.aload_n 0, 1) := by decide +kernel
theorem dX3_tray_14 : decode cX3_tray 14 = .ok (.getfield 10, 3) := by decide +kernel
theorem dX3_tray_17 : decode cX3_tray 17 = .ok (.getfield 130, 3) := by decide +kernel
theorem dX3_tray_20 : decode cX3_tray 20 = .ok (.iload_n 1, 1) := by decide +kernel
theorem dX3_tray_21 : decode cX3_tray 21 = .ok (.aaload, 1) := by decide +kernel
theorem dX3_tray_22 : decode cX3_tray 22 = .ok (.astore_n 3, 1) := by decide +kernel
theorem dX3_tray_23 : decode cX3_tray 23 = .ok (.iload_n 2, 1) := by decide +kernel
theorem dX3_tray_24 : decode cX3_tray 24 = .ok (.tableswitch 71 0 4 #[36, 41, 49, 54, 59], 36) := by decide +kernel
theorem dX3_tray_60 : decode cX3_tray 60 = .ok (.aload_n 3, 1) := by decide +kernel
theorem dX3_tray_61 : decode cX3_tray 61 = .ok (.getfield 134, 3) := by decide +kernel
theorem dX3_tray_64 : decode cX3_tray 64 = .ok (.ireturn, 1) := by decide +kernel
theorem dX3_tray_65 : decode cX3_tray 65 = .ok (.aload_n 3, 1) := by decide +kernel
theorem dX3_tray_66 : decode cX3_tray 66 = .ok (.getfield 139, 3) := by decide +kernel
theorem dX3_tray_69 : decode cX3_tray 69 = .ok (.invokestatic 52, 3) := by decide +kernel
theorem dX3_tray_72 : decode cX3_tray 72 = .ok (.ireturn, 1) := by decide +kernel
theorem dX3_tray_73 : decode cX3_tray 73 = .ok (.aload_n 3, 1) := by decide +kernel
theorem dX3_tray_74 : decode cX3_tray 74 = .ok (.getfield 142, 3) := by decide +kernel
theorem dX3_tray_77 : decode cX3_tray 77 = .ok (.ireturn, 1) := by decide +kernel
theorem dX3_tray_78 : decode cX3_tray 78 = .ok (.aload_n 3, 1) := by decide +kernel
theorem dX3_tray_79 : decode cX3_tray 79 = .ok (.getfield 145, 3) := by decide +kernel
theorem dX3_tray_82 : decode cX3_tray 82 = .ok (.ireturn, 1) := by decide +kernel
theorem dX3_tray_83 : decode cX3_tray 83 = .ok (.aload_n 3, 1) := by decide +kernel
theorem dX3_tray_84 : decode cX3_tray 84 = .ok (.aload_n 0, 1) := by decide +kernel
theorem dX3_tray_85 : decode cX3_tray 85 = .ok (.getfield 10, 3) := by decide +kernel
theorem dX3_tray_88 : decode cX3_tray 88 = .ok (.getfield 96, 3) := by decide +kernel
theorem dX3_tray_91 : decode cX3_tray 91 = .ok (.invokevirtual 148, 3) := by decide +kernel
theorem dX3_tray_94 : decode cX3_tray 94 = .ok (.ireturn, 1) := by decide +kernel
theorem dX3_tray_95 : decode cX3_tray 95 = .ok (.iconst (-1), 1) := by decide +kernel
theorem dX3_tray_96 : decode cX3_tray 96 = .ok (.ireturn, 1) := by decide +kernel
theorem dX3_on_0 : decode cX3_on 0 = .ok (.aload_n 0, 1) := by decide +kernel
theorem dX3_on_1 : decode cX3_on 1 = .ok (.getfield 10, 3) := by decide +kernel
theorem dX3_on_4 : decode cX3_on 4 = .ok (.iload_n 1, 1) := by decide +kernel
theorem dX3_on_5 : decode cX3_on 5 = .ok (.invokevirtual 127, 3) := by decide +kernel
theorem dX3_on_8 : decode cX3_on 8 = .ok (.ifCond .eq 10, 3) := by decide +kernel
theorem dX3_on_11 : decode cX3_on 11 = .ok (.iload_n 2, 1) := by decide +kernel
theorem dX3_on_12 : decode cX3_on 12 = .ok (.invokestatic 30, 3) := by decide +kernel
theorem dX3_on_15 : decode cX3_on 15 = .ok (.ifCond .ne 5, 3) := by decide +kernel
theorem dX3_on_18 : decode cX3_on 18 = .ok (.iconst (-1), 1) := by decide +kernel
theorem dX3_on_19 : decode cX3_on 19 = .ok (.ireturn, 1) := by decide +kernel
theorem dX3_on_20 : decode cX3_on 20 = .ok (.aload_n 0, 1) := by decide +kernel
theorem dX3_on_21 : decode cX3_on 21 = .ok (.getfield 10, 3) := by decide +kernel
theorem dX3_on_24 : decode cX3_on 24 = .ok (.getfield 130, 3) := by decide +kernel
theorem dX3_on_27 : decode cX3_on 27 = .ok (.iload_n 1, 1) := by decide +kernel
theorem dX3_on_28 : decode cX3_on 28 = .ok (.aaload, 1) := by decide +kernel
theorem dX3_on_29 : decode cX3_on 29 = .ok (.getfield 139, 3) := by decide +kernel
theorem dX3_on_32 : decode cX3_on 32 = .ok (.iload_n 2, 1) := by decide +kernel
theorem dX3_on_33 : decode cX3_on 33 = .ok (.iaload, 1) := by decide +kernel
theorem dX3_on_34 : decode cX3_on 34 = .ok (.ireturn, 1) := by decide +kernel
theorem dX3_charge_0 : decode cX3_charge 0 = .ok (.aload_n 0, 1) := by decide +kernel
theorem dX3_charge_1 : decode cX3_charge 1 = .ok (.getfield 10, 3) := by decide +kernel
theorem dX3_charge_4 : decode cX3_charge 4 = .ok (.getfield 41, 3) := by decide +kernel
theorem dX3_charge_7 : decode cX3_charge 7 = .ok (.invokestatic 52, 3) := by decide +kernel
theorem dX3_charge_10 : decode cX3_charge 10 = .ok (.istore_n 1, 1) := by decide +kernel
theorem dX3_charge_11 : decode cX3_charge 11 = .ok (.aload_n 0, 1) := by decide +kernel
theorem dX3_charge_12 : decode cX3_charge 12 = .ok (.getfield 10, 3) := by decide +kernel
theorem dX3_charge_15 : decode cX3_charge 15 = .ok (.getfield 83, 3) := by decide +kernel
theorem dX3_charge_18 : decode cX3_charge 18 = .ok (.ifCond .eq 7, 3) := by decide +kernel
theorem dX3_charge_21 : decode cX3_charge 21 = .ok (.iload_n 1, 1) := by decide +kernel
theorem dX3_charge_22 : decode cX3_charge 22 = .ok (.ifCond .ne 6, 3) := by decide +kernel
theorem dX3_charge_25 : decode cX3_charge 25 = .ok (.bipush (-2), 2) := by decide +kernel
theorem dX3_charge_27 : decode cX3_charge 27 = .ok (.ireturn, 1) := by decide +kernel
theorem dX3_charge_28 : decode cX3_charge 28 = .ok (.aload_n 0, 1) := by decide +kernel
theorem dX3_charge_29 : decode cX3_charge 29 = .ok (.invokevirtual 38, 3) := by decide +kernel
theorem dX3_charge_32 : decode cX3_charge 32 = .ok (.aload_n 0, 1) := by decide +kernel
theorem dX3_charge_33 : decode cX3_charge 33 = .ok (.getfield 10, 3) := by decide +kernel
theorem dX3_charge_36 : decode cX3_charge 36 = .ok (.invokevirtual 86, 3) := by decide +kernel
theorem dX3_charge_39 : decode cX3_charge 39 = .ok (.aload_n 0, 1) := by decide +kernel
theorem dX3_charge_40 : decode cX3_charge 40 = .ok (.getfield 10, 3) := by decide +kernel
theorem dX3_charge_43 : decode cX3_charge 43 = .ok (.iload_n 1, 1) := by decide +kernel
theorem dX3_charge_44 : decode cX3_charge 44 = .ok (.invokevirtual 151, 3) := by decide +kernel
theorem dX3_charge_47 : decode cX3_charge 47 = .ok (.iload_n 1, 1) := by decide +kernel
theorem dX3_charge_48 : decode cX3_charge 48 = .ok (.ireturn, 1) := by decide +kernel
theorem dX3_shake_0 : decode cX3_shake 0 = .ok (.iload_n 1, 1) := by decide +kernel
theorem dX3_shake_1 : decode cX3_shake 1 = .ok (.iconst 1, 1) := by decide +kernel
theorem dX3_shake_2 : decode cX3_shake 2 = .ok (.sipush 200, 3) := by decide +kernel
theorem dX3_shake_5 : decode cX3_shake 5 = .ok (.invokestatic 34, 3) := by decide +kernel
theorem dX3_shake_8 : decode cX3_shake 8 = .ok (.ifCond .ne 5, 3) := by decide +kernel
theorem dX3_shake_11 : decode cX3_shake 11 = .ok (.iconst (-1), 1) := by decide +kernel
theorem dX3_shake_12 : decode cX3_shake 12 = .ok (.ireturn, 1) := by decide +kernel
theorem dX3_shake_13 : decode cX3_shake 13 = .ok (.aload_n 0, 1) := by decide +kernel
theorem dX3_shake_14 : decode cX3_shake 14 = .ok (.getfield 10, 3) := by decide +kernel
theorem dX3_shake_17 : decode cX3_shake 17 = .ok (.getfield 114, 3) := by decide +kernel
theorem dX3_shake_20 : decode cX3_shake 20 = .ok (.ifCond .ne 6, 3) := by decide +kernel
theorem dX3_shake_23 : decode cX3_shake 23 = .ok (.bipush (-2), 2) := by decide +kernel
theorem dX3_shake_25 : decode cX3_shake 25 = .ok (.ireturn, 1) := by decide +kernel
theorem dX3_shake_26 : decode cX3_shake 26 = .ok (.aload_n 0, 1) := by decide +kernel
theorem dX3_shake_27 : decode cX3_shake 27 = .ok (.invokevirtual 38, 3) := by decide +kernel
theorem dX3_shake_30 : decode cX3_shake 30 = .ok (.iconst 0, 1) := by decide +kernel
theorem dX3_shake_31 : decode cX3_shake 31 = .ok (.istore_n 2, 1) := by decide +kernel
theorem dX3_shake_32 : decode cX3_shake 32 = .ok (.iconst 0, 1) := by decide +kernel
theorem dX3_shake_33 : decode cX3_shake 33 = .ok (.istore_n 3, 1) := by decide +kernel
theorem dX3_shake_34 : decode cX3_shake 34 = .ok (.iload_n 3, 1) := by decide +kernel
theorem dX3_shake_35 : decode cX3_shake 35 = .ok (.iload_n 1, 1) := by decide +kernel
theorem dX3_shake_36 : decode cX3_shake 36 = .ok (.if_icmp .ge 19, 3) := by decide +kernel
theorem dX3_shake_39 : decode cX3_shake 39 = .ok (.iload_n 2, 1) := by decide +kernel
theorem dX3_shake_40 : decode cX3_shake 40 = .ok (.aload_n 0, 1) := by decide +kernel
theorem dX3_shake_41 : decode cX3_shake 41 = .ok (.getfield 10, 3) := by decide +kernel
theorem dX3_shake_44 : decode cX3_shake 44 = .ok (.invokevirtual 154, 3) := by decide +kernel
theorem dX3_shake_47 : decode cX3_shake 47 = .ok (.iadd, 1) := by decide +kernel
theorem dX3_shake_48 : decode cX3_shake 48 = .ok (.istore_n 2, 1) := by decide +kernel
theorem dX3_shake_49 : decode cX3_shake 49 = .ok (.iinc 3 1, 3) := by decide +kernel
theorem dX3_shake_52 : decode cX3_shake 52 = .ok (.goto (-18), 3) := by decide +kernel
theorem dX3_shake_55 : decode cX3_shake 55 = .ok (.iload_n 2, 1) := by decide +kernel
theorem dX3_shake_56 : decode cX3_shake 56 = .ok (.ireturn, 1) := by decide +kernel
theorem dX3_collect_0 : decode cX3_collect 0 = .ok (.aload_n 0, 1) := by decide +kernel
theorem dX3_collect_1 : decode cX3_collect 1 = .ok (.getfield 10, 3) := by decide +kernel
theorem dX3_collect_4 : decode cX3_collect 4 = .ok (.iload_n 1, 1) := by decide +kernel
end
section
theorem dX3_collect_5 : decode cX3_collect 5 = .ok (.invokevirtual 127, 3) := by decide +kernel
theorem dX3_collect_8 : decode cX3_collect 8 = .ok (.ifCond .ne 5, 3) := by decide +kernel
theorem dX3_collect_11 : decode cX3_collect 11 = .ok (.iconst (-1), 1) := by decide +kernel
theorem dX3_collect_12 : decode cX3_collect 12 = .ok (.ireturn, 1) := by decide +kernel
theorem dX3_collect_13 : decode cX3_collect 13 = .ok (.aload_n 0, 1) := by decide +kernel
theorem dX3_collect_14 : decode cX3_collect 14 = .ok (.getfield 10, 3) := by decide +kernel
theorem dX3_collect_17 : decode cX3_collect 17 = .ok (.getfield 114, 3) := by decide +kernel
theorem dX3_collect_20 : decode cX3_collect 20 = .ok (.ifCond .ne 6, 3) := by decide +kernel
theorem dX3_collect_23 : decode cX3_collect 23 = .ok (.bipush (-2), 2) := by decide +kernel
theorem dX3_collect_25 : decode cX3_collect 25 = .ok (.ireturn, 1) := by decide +kernel
theorem dX3_collect_26 : decode cX3_collect 26 = .ok (.aload_n 0, 1) := by decide +kernel
theorem dX3_collect_27 : decode cX3_collect 27 = .ok (.invokevirtual 38, 3) := by decide +kernel
theorem dX3_collect_30 : decode cX3_collect 30 = .ok (.aload_n 0, 1) := by decide +kernel
theorem dX3_collect_31 : decode cX3_collect 31 = .ok (.getfield 10, 3) := by decide +kernel
theorem dX3_collect_34 : decode cX3_collect 34 = .ok (.getfield 130, 3) := by decide +kernel
theorem dX3_collect_37 : decode cX3_collect 37 = .ok (.iload_n 1, 1) := by decide +kernel
theorem dX3_collect_38 : decode cX3_collect 38 = .ok (.aaload, 1) := by decide +kernel
theorem dX3_collect_39 : decode cX3_collect 39 = .ok (.astore_n 2, 1) := by decide +kernel
theorem dX3_collect_40 : decode cX3_collect 40 = .ok (.aload_n 2, 1) := by decide +kernel
theorem dX3_collect_41 : decode cX3_collect 41 = .ok (.getfield 139, 3) := by decide +kernel
theorem dX3_collect_44 : decode cX3_collect 44 = .ok (.invokestatic 52, 3) := by decide +kernel
theorem dX3_collect_47 : decode cX3_collect 47 = .ok (.istore_n 3, 1) := by decide +kernel
theorem dX3_collect_48 : decode cX3_collect 48 = .ok (.aload_n 2, 1) := by decide +kernel
theorem dX3_collect_49 : decode cX3_collect 49 = .ok (.dup, 1) := by decide +kernel
theorem dX3_collect_50 : decode cX3_collect 50 = .ok (.getfield 145, 3) := by decide +kernel
theorem dX3_collect_53 : decode cX3_collect 53 = .ok (.iload_n 3, 1) := by decide +kernel
theorem dX3_collect_54 : decode cX3_collect 54 = .ok (.iadd, 1) := by decide +kernel
theorem dX3_collect_55 : decode cX3_collect 55 = .ok (.putfield 145, 3) := by decide +kernel
theorem dX3_collect_58 : decode cX3_collect 58 = .ok (.aload_n 2, 1) := by decide +kernel
theorem dX3_collect_59 : decode cX3_collect 59 = .ok (.getfield 139, 3) := by decide +kernel
theorem dX3_collect_62 : decode cX3_collect 62 = .ok (.invokestatic 157, 3) := by decide +kernel
theorem dX3_collect_65 : decode cX3_collect 65 = .ok (.iload_n 3, 1) := by decide +kernel
theorem dX3_collect_66 : decode cX3_collect 66 = .ok (.ireturn, 1) := by decide +kernel
theorem dX3_brush_0 : decode cX3_brush 0 = .ok (.aload_n 0, 1) := by decide +kernel
theorem dX3_brush_1 : decode cX3_brush 1 = .ok (.getfield 10, 3) := by decide +kernel
theorem dX3_brush_4 : decode cX3_brush 4 = .ok (.iload_n 1, 1) := by decide +kernel
theorem dX3_brush_5 : decode cX3_brush 5 = .ok (.invokevirtual 161, 3) := by decide +kernel
theorem dX3_brush_8 : decode cX3_brush 8 = .ok (.ifCond .eq 12, 3) := by decide +kernel
theorem dX3_brush_11 : decode cX3_brush 11 = .ok (.iload_n 2, 1) := by decide +kernel
theorem dX3_brush_12 : decode cX3_brush 12 = .ok (.iconst 0, 1) := by decide +kernel
theorem dX3_brush_13 : decode cX3_brush 13 = .ok (.iconst 1, 1) := by decide +kernel
theorem dX3_brush_14 : decode cX3_brush 14 = .ok (.invokestatic 34, 3) := by decide +kernel
theorem dX3_brush_17 : decode cX3_brush 17 = .ok (.ifCond .ne 5, 3) := by decide +kernel
theorem dX3_brush_20 : decode cX3_brush 20 = .ok (.iconst (-1), 1) := by decide +kernel
theorem dX3_brush_21 : decode cX3_brush 21 = .ok (.ireturn, 1) := by decide +kernel
theorem dX3_brush_22 : decode cX3_brush 22 = .ok (.aload_n 0, 1) := by decide +kernel
theorem dX3_brush_23 : decode cX3_brush 23 = .ok (.getfield 10, 3) := by decide +kernel
theorem dX3_brush_26 : decode cX3_brush 26 = .ok (.getfield 114, 3) := by decide +kernel
theorem dX3_brush_29 : decode cX3_brush 29 = .ok (.ifCond .ne 6, 3) := by decide +kernel
theorem dX3_brush_32 : decode cX3_brush 32 = .ok (.bipush (-2), 2) := by decide +kernel
theorem dX3_brush_34 : decode cX3_brush 34 = .ok (.ireturn, 1) := by decide +kernel
theorem dX3_brush_35 : decode cX3_brush 35 = .ok (.aload_n 0, 1) := by decide +kernel
theorem dX3_brush_36 : decode cX3_brush 36 = .ok (.invokevirtual 38, 3) := by decide +kernel
theorem dX3_brush_39 : decode cX3_brush 39 = .ok (.aload_n 0, 1) := by decide +kernel
theorem dX3_brush_40 : decode cX3_brush 40 = .ok (.getfield 10, 3) := by decide +kernel
theorem dX3_brush_43 : decode cX3_brush 43 = .ok (.getfield 130, 3) := by decide +kernel
theorem dX3_brush_46 : decode cX3_brush 46 = .ok (.iload_n 1, 1) := by decide +kernel
theorem dX3_brush_47 : decode cX3_brush 47 = .ok (.aaload, 1) := by decide +kernel
theorem dX3_brush_48 : decode cX3_brush 48 = .ok (.astore_n 3, 1) := by decide +kernel
theorem dX3_brush_49 : decode cX3_brush 49 = .ok (.aload_n 3, 1) := by decide +kernel
theorem dX3_brush_50 : decode cX3_brush 50 = .ok (.getfield 142, 3) := by decide +kernel
theorem dX3_brush_53 : decode cX3_brush 53 = .ok (.istore 4, 2) := by decide +kernel
theorem dX3_brush_55 : decode cX3_brush 55 = .ok (.aload_n 3, 1) := by decide +kernel
theorem dX3_brush_56 : decode cX3_brush 56 = .ok (.iconst 0, 1) := by decide +kernel
theorem dX3_brush_57 : decode cX3_brush 57 = .ok (.putfield 142, 3) := by decide +kernel
theorem dX3_brush_60 : decode cX3_brush 60 = .ok (.iload_n 2, 1) := by decide +kernel
theorem dX3_brush_61 : decode cX3_brush 61 = .ok (.iconst 1, 1) := by decide +kernel
theorem dX3_brush_62 : decode cX3_brush 62 = .ok (.if_icmp .ne 14, 3) := by decide +kernel
theorem dX3_brush_65 : decode cX3_brush 65 = .ok (.aload_n 3, 1) := by decide +kernel
theorem dX3_brush_66 : decode cX3_brush 66 = .ok (.dup, 1) := by decide +kernel
theorem dX3_brush_67 : decode cX3_brush 67 = .ok (.getfield 145, 3) := by decide +kernel
theorem dX3_brush_70 : decode cX3_brush 70 = .ok (.iload 4, 2) := by decide +kernel
theorem dX3_brush_72 : decode cX3_brush 72 = .ok (.iadd, 1) := by decide +kernel
theorem dX3_brush_73 : decode cX3_brush 73 = .ok (.putfield 145, 3) := by decide +kernel
theorem dX3_brush_76 : decode cX3_brush 76 = .ok (.iload 4, 2) := by decide +kernel
theorem dX3_brush_78 : decode cX3_brush 78 = .ok (.ireturn, 1) := by decide +kernel
theorem dX3_loss_0 : decode cX3_loss 0 = .ok (.aload_n 0, 1) := by decide +kernel
theorem dX3_loss_1 : decode cX3_loss 1 = .ok (.getfield 10, 3) := by decide +kernel
theorem dX3_loss_4 : decode cX3_loss 4 = .ok (.getfield 114, 3) := by decide +kernel
theorem dX3_loss_7 : decode cX3_loss 7 = .ok (.ifCond .ne 6, 3) := by decide +kernel
theorem dX3_loss_10 : decode cX3_loss 10 = .ok (.bipush (-2), 2) := by decide +kernel
theorem dX3_loss_12 : decode cX3_loss 12 = .ok (.ireturn, 1) := by decide +kernel
theorem dX3_loss_13 : decode cX3_loss 13 = .ok (.aload_n 0, 1) := by decide +kernel
theorem dX3_loss_14 : decode cX3_loss 14 = .ok (.getfield 10, 3) := by decide +kernel
theorem dX3_loss_17 : decode cX3_loss 17 = .ok (.invokevirtual 164, 3) := by decide +kernel
theorem dX3_loss_20 : decode cX3_loss 20 = .ok (.ireturn, 1) := by decide +kernel
theorem dX3_isGood_0 : decode cX3_isGood 0 = .ok (.aload_n 0, 1) := by decide +kernel
theorem dX3_isGood_1 : decode cX3_isGood 1 = .ok (.getfield 10, 3) := by decide +kernel
theorem dX3_isGood_4 : decode cX3_isGood 4 = .ok (.getfield 114, 3) := by decide +kernel
theorem dX3_isGood_7 : decode cX3_isGood 7 = .ok (.ifCond .ne 6, 3) := by decide +kernel
theorem dX3_isGood_10 : decode cX3_isGood 10 = .ok (.bipush (-2), 2) := by decide +kernel
theorem dX3_isGood_12 : decode cX3_isGood 12 = .ok (.ireturn, 1) := by decide +kernel
theorem dX3_isGood_13 : decode cX3_isGood 13 = .ok (.aload_n 0, 1) := by decide +kernel
theorem dX3_isGood_14 : decode cX3_isGood 14 = .ok (.getfield 10, 3) := by decide +kernel
theorem dX3_isGood_17 : decode cX3_isGood 17 = .ok (.invokevirtual 164, 3) := by decide +kernel
theorem dX3_isGood_20 : decode cX3_isGood 20 = .ok (.sipush 1000, 3) := by decide +kernel
theorem dX3_isGood_23 : decode cX3_isGood 23 = .ok (.imul, 1) := by decide +kernel
theorem dX3_isGood_24 : decode cX3_isGood 24 = .ok (.aload_n 0, 1) := by decide +kernel
theorem dX3_isGood_25 : decode cX3_isGood 25 = .ok (.getfield 10, 3) := by decide +kernel
theorem dX3_isGood_28 : decode cX3_isGood 28 = .ok (.getfield 105, 3) := by decide +kernel
theorem dX3_isGood_31 : decode cX3_isGood 31 = .ok (.aload_n 0, 1) := by decide +kernel
theorem dX3_isGood_32 : decode cX3_isGood 32 = .ok (.getfield 10, 3) := by decide +kernel
theorem dX3_isGood_35 : decode cX3_isGood 35 = .ok (.getfield 167, 3) := by decide +kernel
theorem dX3_isGood_38 : decode cX3_isGood 38 = .ok (.imul, 1) := by decide +kernel
theorem dX3_isGood_39 : decode cX3_isGood 39 = .ok (.if_icmp .gt 7, 3) := by decide +kernel
theorem dX3_isGood_42 : decode cX3_isGood 42 = .ok (.iconst 1, 1) := by decide +kernel
theorem dX3_isGood_43 : decode cX3_isGood 43 = .ok (.goto 4, 3) := by decide +kernel
theorem dX3_isGood_46 : decode cX3_isGood 46 = .ok (.iconst 0, 1) := by decide +kernel
theorem dX3_isGood_47 : decode cX3_isGood 47 = .ok (.ireturn, 1) := by decide +kernel
theorem dX3_passing_0 : decode cX3_passing 0 = .ok (.aload_n 0, 1) := by decide +kernel
theorem dX3_passing_1 : decode cX3_passing 1 = .ok (.getfield 10, 3) := by decide +kernel
theorem dX3_passing_4 : decode cX3_passing 4 = .ok (.iload_n 1, 1) := by decide +kernel
theorem dX3_passing_5 : decode cX3_passing 5 = .ok (.invokevirtual 161, 3) := by decide +kernel
theorem dX3_passing_8 : decode cX3_passing 8 = .ok (.ifCond .ne 5, 3) := by decide +kernel
theorem dX3_passing_11 : decode cX3_passing 11 = .ok (.iconst (-1), 1) := by decide +kernel
theorem dX3_passing_12 : decode cX3_passing 12 = .ok (.ireturn, 1) := by decide +kernel
theorem dX3_passing_13 : decode cX3_passing 13 = .ok (.aload_n 0, 1) := by decide +kernel
theorem dX3_passing_14 : decode cX3_passing 14 = .ok (.getfield 10, 3) := by decide +kernel
theorem dX3_passing_17 : decode cX3_passing 17 = .ok (.invokevirtual 170, 3) := by decide +kernel
theorem dX3_passing_20 : decode cX3_passing 20 = .ok (.ifCond .ne 6, 3) := by decide +kernel
theorem dX3_passing_23 : decode cX3_passing 23 = .ok (.bipush (-2), 2) := by decide +kernel
theorem dX3_passing_25 : decode cX3_passing 25 = .ok (.ireturn, 1) := by decide +kernel
theorem dX3_passing_26 : decode cX3_passing 26 = .ok (.aload_n 0, 1) := by decide +kernel
theorem dX3_passing_27 : decode cX3_passing 27 = .ok (.getfield 10, 3) := by decide +kernel
theorem dX3_passing_30 : decode cX3_passing 30 = .ok (.iload_n 1, 1) := by decide +kernel
theorem dX3_passing_31 : decode cX3_passing 31 = .ok (.invokevirtual 174, 3) := by decide +kernel
theorem dX3_passing_34 : decode cX3_passing 34 = .ok (.ireturn, 1) := by decide +kernel
theorem dX3_misses_0 : decode cX3_misses 0 = .ok (.aload_n 0, 1) := by decide +kernel
theorem dX3_misses_1 : decode cX3_misses 1 = .ok (.getfield 10, 3) := by decide +kernel
theorem dX3_misses_4 : decode cX3_misses 4 = .ok (.invokevirtual 170, 3) := by decide +kernel
theorem dX3_misses_7 : decode cX3_misses 7 = .ok (.ifCond .ne 6, 3) := by decide +kernel
theorem dX3_misses_10 : decode cX3_misses 10 = .ok (.bipush (-2), 2) := by decide +kernel
theorem dX3_misses_12 : decode cX3_misses 12 = .ok (.ireturn, 1) := by decide +kernel
theorem dX3_misses_13 : decode cX3_misses 13 = .ok (.iconst 0, 1) := by decide +kernel
theorem dX3_misses_14 : decode cX3_misses 14 = .ok (.istore_n 1, 1) := by decide +kernel
theorem dX3_misses_15 : decode cX3_misses 15 = .ok (.iconst 0, 1) := by decide +kernel
theorem dX3_misses_16 : decode cX3_misses 16 = .ok (.istore_n 2, 1) := by decide +kernel
theorem dX3_misses_17 : decode cX3_misses 17 = .ok (.iload_n 2, 1) := by decide +kernel
theorem dX3_misses_18 : decode cX3_misses 18 = .ok (.aload_n 0, 1) := by decide +kernel
theorem dX3_misses_19 : decode cX3_misses 19 = .ok (.getfield 10, 3) := by decide +kernel
theorem dX3_misses_22 : decode cX3_misses 22 = .ok (.getfield 83, 3) := by decide +kernel
theorem dX3_misses_25 : decode cX3_misses 25 = .ok (.if_icmp .ge 57, 3) := by decide +kernel
theorem dX3_misses_28 : decode cX3_misses 28 = .ok (.aload_n 0, 1) := by decide +kernel
theorem dX3_misses_29 : decode cX3_misses 29 = .ok (.getfield 10, 3) := by decide +kernel
theorem dX3_misses_32 : decode cX3_misses 32 = .ok (.getfield 130, 3) := by decide +kernel
theorem dX3_misses_35 : decode cX3_misses 35 = .ok (.iload_n 2, 1) := by decide +kernel
theorem dX3_misses_36 : decode cX3_misses 36 = .ok (.aaload, 1) := by decide +kernel
theorem dX3_misses_37 : decode cX3_misses 37 = .ok (.getfield 134, 3) := by decide +kernel
theorem dX3_misses_40 : decode cX3_misses 40 = .ok (.istore_n 3, 1) := by decide +kernel
theorem dX3_misses_41 : decode cX3_misses 41 = .ok (.aload_n 0, 1) := by decide +kernel
theorem dX3_misses_42 : decode cX3_misses 42 = .ok (.getfield 10, 3) := by decide +kernel
theorem dX3_misses_45 : decode cX3_misses 45 = .ok (.iload_n 2, 1) := by decide +kernel
theorem dX3_misses_46 : decode cX3_misses 46 = .ok (.invokevirtual 174, 3) := by decide +kernel
theorem dX3_misses_49 : decode cX3_misses 49 = .ok (.aload_n 0, 1) := by decide +kernel
theorem dX3_misses_50 : decode cX3_misses 50 = .ok (.getfield 10, 3) := by decide +kernel
theorem dX3_misses_53 : decode cX3_misses 53 = .ok (.getfield 108, 3) := by decide +kernel
theorem dX3_misses_56 : decode cX3_misses 56 = .ok (.iload_n 3, 1) := by decide +kernel
theorem dX3_misses_57 : decode cX3_misses 57 = .ok (.iaload, 1) := by decide +kernel
theorem dX3_misses_58 : decode cX3_misses 58 = .ok (.aload_n 0, 1) := by decide +kernel
theorem dX3_misses_59 : decode cX3_misses 59 = .ok (.getfield 10, 3) := by decide +kernel
theorem dX3_misses_62 : decode cX3_misses 62 = .ok (.getfield 111, 3) := by decide +kernel
theorem dX3_misses_65 : decode cX3_misses 65 = .ok (.iload_n 3, 1) := by decide +kernel
theorem dX3_misses_66 : decode cX3_misses 66 = .ok (.iaload, 1) := by decide +kernel
theorem dX3_misses_67 : decode cX3_misses 67 = .ok (.invokestatic 34, 3) := by decide +kernel
theorem dX3_misses_70 : decode cX3_misses 70 = .ok (.ifCond .ne 6, 3) := by decide +kernel
theorem dX3_misses_73 : decode cX3_misses 73 = .ok (.iinc 1 1, 3) := by decide +kernel
theorem dX3_misses_76 : decode cX3_misses 76 = .ok (.iinc 2 1, 3) := by decide +kernel
theorem dX3_misses_79 : decode cX3_misses 79 = .ok (.goto (-62), 3) := by decide +kernel
theorem dX3_misses_82 : decode cX3_misses 82 = .ok (.iload_n 1, 1) := by decide +kernel
theorem dX3_misses_83 : decode cX3_misses 83 = .ok (.ireturn, 1) := by decide +kernel
theorem dX3_modulus_0 : decode cX3_modulus 0 = .ok (.aload_n 0, 1) := by decide +kernel
theorem dX3_modulus_1 : decode cX3_modulus 1 = .ok (.getfield 10, 3) := by decide +kernel
theorem dX3_modulus_4 : decode cX3_modulus 4 = .ok (.invokevirtual 170, 3) := by decide +kernel
theorem dX3_modulus_7 : decode cX3_modulus 7 = .ok (.ifCond .ne 6, 3) := by decide +kernel
theorem dX3_modulus_10 : decode cX3_modulus 10 = .ok (.bipush (-2), 2) := by decide +kernel
theorem dX3_modulus_12 : decode cX3_modulus 12 = .ok (.ireturn, 1) := by decide +kernel
theorem dX3_modulus_13 : decode cX3_modulus 13 = .ok (.iconst 0, 1) := by decide +kernel
theorem dX3_modulus_14 : decode cX3_modulus 14 = .ok (.istore_n 1, 1) := by decide +kernel
theorem dX3_modulus_15 : decode cX3_modulus 15 = .ok (.iconst 0, 1) := by decide +kernel
theorem dX3_modulus_16 : decode cX3_modulus 16 = .ok (.istore_n 2, 1) := by decide +kernel
theorem dX3_modulus_17 : decode cX3_modulus 17 = .ok (.iload_n 2, 1) := by decide +kernel
theorem dX3_modulus_18 : decode cX3_modulus 18 = .ok (.aload_n 0, 1) := by decide +kernel
theorem dX3_modulus_19 : decode cX3_modulus 19 = .ok (.getfield 10, 3) := by decide +kernel
theorem dX3_modulus_22 : decode cX3_modulus 22 = .ok (.getfield 83, 3) := by decide +kernel
theorem dX3_modulus_25 : decode cX3_modulus 25 = .ok (.if_icmp .ge 24, 3) := by decide +kernel
theorem dX3_modulus_28 : decode cX3_modulus 28 = .ok (.iload_n 1, 1) := by decide +kernel
theorem dX3_modulus_29 : decode cX3_modulus 29 = .ok (.sipush 1000, 3) := by decide +kernel
theorem dX3_modulus_32 : decode cX3_modulus 32 = .ok (.aload_n 0, 1) := by decide +kernel
theorem dX3_modulus_33 : decode cX3_modulus 33 = .ok (.getfield 10, 3) := by decide +kernel
theorem dX3_modulus_36 : decode cX3_modulus 36 = .ok (.iload_n 2, 1) := by decide +kernel
theorem dX3_modulus_37 : decode cX3_modulus 37 = .ok (.invokevirtual 174, 3) := by decide +kernel
theorem dX3_modulus_40 : decode cX3_modulus 40 = .ok (.isub, 1) := by decide +kernel
theorem dX3_modulus_41 : decode cX3_modulus 41 = .ok (.iadd, 1) := by decide +kernel
theorem dX3_modulus_42 : decode cX3_modulus 42 = .ok (.istore_n 1, 1) := by decide +kernel
theorem dX3_modulus_43 : decode cX3_modulus 43 = .ok (.iinc 2 1, 3) := by decide +kernel
theorem dX3_modulus_46 : decode cX3_modulus 46 = .ok (.goto (-29), 3) := by decide +kernel
theorem dX3_modulus_49 : decode cX3_modulus 49 = .ok (.iload_n 1, 1) := by decide +kernel
theorem dX3_modulus_50 : decode cX3_modulus 50 = .ok (.bipush 10, 2) := by decide +kernel
theorem dX3_modulus_52 : decode cX3_modulus 52 = .ok (.idiv, 1) := by decide +kernel
theorem dX3_modulus_53 : decode cX3_modulus 53 = .ok (.ireturn, 1) := by decide +kernel
theorem dX3_truePassing_0 : decode cX3_truePassing 0 = .ok (.iload_n 1, 1) := by decide +kernel
theorem dX3_truePassing_1 : decode cX3_truePassing 1 = .ok (.iconst 1, 1) := by decide +kernel
theorem dX3_truePassing_2 : decode cX3_truePassing 2 = .ok (.bipush 9, 2) := by decide +kernel
theorem dX3_truePassing_4 : decode cX3_truePassing 4 = .ok (.invokestatic 34, 3) := by decide +kernel
theorem dX3_truePassing_7 : decode cX3_truePassing 7 = .ok (.ifCond .ne 5, 3) := by decide +kernel
theorem dX3_truePassing_10 : decode cX3_truePassing 10 = .ok (.iconst (-1), 1) := by decide +kernel
theorem dX3_truePassing_11 : decode cX3_truePassing 11 = .ok (.ireturn, 1) := by decide +kernel
theorem dX3_truePassing_12 : decode cX3_truePassing 12 = .ok (.aload_n 0, 1) := by decide +kernel
theorem dX3_truePassing_13 : decode cX3_truePassing 13 = .ok (.getfield 10, 3) := by decide +kernel
theorem dX3_truePassing_16 : decode cX3_truePassing 16 = .ok (.getfield 41, 3) := by decide +kernel
theorem dX3_truePassing_19 : decode cX3_truePassing 19 = .ok (.invokestatic 52, 3) := by decide +kernel
theorem dX3_truePassing_22 : decode cX3_truePassing 22 = .ok (.istore_n 2, 1) := by decide +kernel
theorem dX3_truePassing_23 : decode cX3_truePassing 23 = .ok (.iload_n 2, 1) := by decide +kernel
theorem dX3_truePassing_24 : decode cX3_truePassing 24 = .ok (.ifCond .ne 6, 3) := by decide +kernel
theorem dX3_truePassing_27 : decode cX3_truePassing 27 = .ok (.bipush (-2), 2) := by decide +kernel
theorem dX3_truePassing_29 : decode cX3_truePassing 29 = .ok (.ireturn, 1) := by decide +kernel
theorem dX3_truePassing_30 : decode cX3_truePassing 30 = .ok (.iconst 0, 1) := by decide +kernel
theorem dX3_truePassing_31 : decode cX3_truePassing 31 = .ok (.istore_n 3, 1) := by decide +kernel
theorem dX3_truePassing_32 : decode cX3_truePassing 32 = .ok (.iconst 0, 1) := by decide +kernel
theorem dX3_truePassing_33 : decode cX3_truePassing 33 = .ok (.istore 4, 2) := by decide +kernel
theorem dX3_truePassing_35 : decode cX3_truePassing 35 = .ok (.iload 4, 2) := by decide +kernel
theorem dX3_truePassing_37 : decode cX3_truePassing 37 = .ok (.iload_n 1, 1) := by decide +kernel
theorem dX3_truePassing_38 : decode cX3_truePassing 38 = .ok (.if_icmp .ge 22, 3) := by decide +kernel
theorem dX3_truePassing_41 : decode cX3_truePassing 41 = .ok (.iload_n 3, 1) := by decide +kernel
theorem dX3_truePassing_42 : decode cX3_truePassing 42 = .ok (.aload_n 0, 1) := by decide +kernel
theorem dX3_truePassing_43 : decode cX3_truePassing 43 = .ok (.getfield 10, 3) := by decide +kernel
theorem dX3_truePassing_46 : decode cX3_truePassing 46 = .ok (.getfield 41, 3) := by decide +kernel
theorem dX3_truePassing_49 : decode cX3_truePassing 49 = .ok (.iload 4, 2) := by decide +kernel
theorem dX3_truePassing_51 : decode cX3_truePassing 51 = .ok (.iaload, 1) := by decide +kernel
theorem dX3_truePassing_52 : decode cX3_truePassing 52 = .ok (.iadd, 1) := by decide +kernel
theorem dX3_truePassing_53 : decode cX3_truePassing 53 = .ok (.istore_n 3, 1) := by decide +kernel
theorem dX3_truePassing_54 : decode cX3_truePassing 54 = .ok (.iinc 4 1, 3) := by decide +kernel
theorem dX3_truePassing_57 : decode cX3_truePassing 57 = .ok (.goto (-22), 3) := by decide +kernel
theorem dX3_truePassing_60 : decode cX3_truePassing 60 = .ok (.iload_n 3, 1) := by decide +kernel
theorem dX3_truePassing_61 : decode cX3_truePassing 61 = .ok (.iload_n 2, 1) := by decide +kernel
theorem dX3_truePassing_62 : decode cX3_truePassing 62 = .ok (.invokestatic 177, 3) := by decide +kernel
theorem dX3_truePassing_65 : decode cX3_truePassing 65 = .ok (.ireturn, 1) := by decide +kernel
theorem dX3_minutesTo_0 : decode cX3_minutesTo 0 = .ok (.iload_n 1, 1) := by decide +kernel
theorem dX3_minutesTo_1 : decode cX3_minutesTo 1 = .ok (.iconst 1, 1) := by decide +kernel
theorem dX3_minutesTo_2 : decode cX3_minutesTo 2 = .ok (.sipush 9999, 3) := by decide +kernel
theorem dX3_minutesTo_5 : decode cX3_minutesTo 5 = .ok (.invokestatic 34, 3) := by decide +kernel
theorem dX3_minutesTo_8 : decode cX3_minutesTo 8 = .ok (.ifCond .ne 5, 3) := by decide +kernel
theorem dX3_minutesTo_11 : decode cX3_minutesTo 11 = .ok (.iconst (-1), 1) := by decide +kernel
theorem dX3_minutesTo_12 : decode cX3_minutesTo 12 = .ok (.ireturn, 1) := by decide +kernel
theorem dX3_minutesTo_13 : decode cX3_minutesTo 13 = .ok (.aload_n 0, 1) := by decide +kernel
theorem dX3_minutesTo_14 : decode cX3_minutesTo 14 = .ok (.getfield 10, 3) := by decide +kernel
theorem dX3_minutesTo_17 : decode cX3_minutesTo 17 = .ok (.getfield 114, 3) := by decide +kernel
theorem dX3_minutesTo_20 : decode cX3_minutesTo 20 = .ok (.ifCond .ne 6, 3) := by decide +kernel
theorem dX3_minutesTo_23 : decode cX3_minutesTo 23 = .ok (.bipush (-2), 2) := by decide +kernel
theorem dX3_minutesTo_25 : decode cX3_minutesTo 25 = .ok (.ireturn, 1) := by decide +kernel
theorem dX3_minutesTo_26 : decode cX3_minutesTo 26 = .ok (.aload_n 0, 1) := by decide +kernel
theorem dX3_minutesTo_27 : decode cX3_minutesTo 27 = .ok (.getfield 16, 3) := by decide +kernel
theorem dX3_minutesTo_30 : decode cX3_minutesTo 30 = .ok (.aload_n 0, 1) := by decide +kernel
theorem dX3_minutesTo_31 : decode cX3_minutesTo 31 = .ok (.getfield 10, 3) := by decide +kernel
theorem dX3_minutesTo_34 : decode cX3_minutesTo 34 = .ok (.invokevirtual 181, 3) := by decide +kernel
theorem dX3_minutesTo_37 : decode cX3_minutesTo 37 = .ok (.iconst 1, 1) := by decide +kernel
theorem dX3_minutesTo_38 : decode cX3_minutesTo 38 = .ok (.istore_n 2, 1) := by decide +kernel
theorem dX3_minutesTo_39 : decode cX3_minutesTo 39 = .ok (.iload_n 2, 1) := by decide +kernel
theorem dX3_minutesTo_40 : decode cX3_minutesTo 40 = .ok (.sipush 500, 3) := by decide +kernel
theorem dX3_minutesTo_43 : decode cX3_minutesTo 43 = .ok (.if_icmp .gt 22, 3) := by decide +kernel
theorem dX3_minutesTo_46 : decode cX3_minutesTo 46 = .ok (.aload_n 0, 1) := by decide +kernel
theorem dX3_minutesTo_47 : decode cX3_minutesTo 47 = .ok (.getfield 16, 3) := by decide +kernel
theorem dX3_minutesTo_50 : decode cX3_minutesTo 50 = .ok (.invokevirtual 154, 3) := by decide +kernel
theorem dX3_minutesTo_53 : decode cX3_minutesTo 53 = .ok (.iload_n 1, 1) := by decide +kernel
theorem dX3_minutesTo_54 : decode cX3_minutesTo 54 = .ok (.if_icmp .ge 5, 3) := by decide +kernel
theorem dX3_minutesTo_57 : decode cX3_minutesTo 57 = .ok (.iload_n 2, 1) := by decide +kernel
theorem dX3_minutesTo_58 : decode cX3_minutesTo 58 = .ok (.ireturn, 1) := by decide +kernel
theorem dX3_minutesTo_59 : decode cX3_minutesTo 59 = .ok (.iinc 2 1, 3) := by decide +kernel
theorem dX3_minutesTo_62 : decode cX3_minutesTo 62 = .ok (.goto (-23), 3) := by decide +kernel
theorem dX3_minutesTo_65 : decode cX3_minutesTo 65 = .ok (.bipush (-9), 2) := by decide +kernel
theorem dX3_minutesTo_67 : decode cX3_minutesTo 67 = .ok (.ireturn, 1) := by decide +kernel
theorem dX3_dustIn_0 : decode cX3_dustIn 0 = .ok (.iload_n 1, 1) := by decide +kernel
theorem dX3_dustIn_1 : decode cX3_dustIn 1 = .ok (.iconst 1, 1) := by decide +kernel
theorem dX3_dustIn_2 : decode cX3_dustIn 2 = .ok (.sipush 500, 3) := by decide +kernel
theorem dX3_dustIn_5 : decode cX3_dustIn 5 = .ok (.invokestatic 34, 3) := by decide +kernel
theorem dX3_dustIn_8 : decode cX3_dustIn 8 = .ok (.ifCond .ne 5, 3) := by decide +kernel
theorem dX3_dustIn_11 : decode cX3_dustIn 11 = .ok (.iconst (-1), 1) := by decide +kernel
theorem dX3_dustIn_12 : decode cX3_dustIn 12 = .ok (.ireturn, 1) := by decide +kernel
theorem dX3_dustIn_13 : decode cX3_dustIn 13 = .ok (.aload_n 0, 1) := by decide +kernel
theorem dX3_dustIn_14 : decode cX3_dustIn 14 = .ok (.getfield 10, 3) := by decide +kernel
theorem dX3_dustIn_17 : decode cX3_dustIn 17 = .ok (.getfield 114, 3) := by decide +kernel
theorem dX3_dustIn_20 : decode cX3_dustIn 20 = .ok (.ifCond .ne 6, 3) := by decide +kernel
theorem dX3_dustIn_23 : decode cX3_dustIn 23 = .ok (.bipush (-2), 2) := by decide +kernel
theorem dX3_dustIn_25 : decode cX3_dustIn 25 = .ok (.ireturn, 1) := by decide +kernel
theorem dX3_dustIn_26 : decode cX3_dustIn 26 = .ok (.aload_n 0, 1) := by decide +kernel
theorem dX3_dustIn_27 : decode cX3_dustIn 27 = .ok (.getfield 16, 3) := by decide +kernel
theorem dX3_dustIn_30 : decode cX3_dustIn 30 = .ok (.aload_n 0, 1) := by decide +kernel
theorem dX3_dustIn_31 : decode cX3_dustIn 31 = .ok (.getfield 10, 3) := by decide +kernel
theorem dX3_dustIn_34 : decode cX3_dustIn 34 = .ok (.invokevirtual 181, 3) := by decide +kernel
theorem dX3_dustIn_37 : decode cX3_dustIn 37 = .ok (.iconst 0, 1) := by decide +kernel
theorem dX3_dustIn_38 : decode cX3_dustIn 38 = .ok (.istore_n 2, 1) := by decide +kernel
theorem dX3_dustIn_39 : decode cX3_dustIn 39 = .ok (.iload_n 2, 1) := by decide +kernel
theorem dX3_dustIn_40 : decode cX3_dustIn 40 = .ok (.iload_n 1, 1) := by decide +kernel
theorem dX3_dustIn_41 : decode cX3_dustIn 41 = .ok (.if_icmp .ge 17, 3) := by decide +kernel
theorem dX3_dustIn_44 : decode cX3_dustIn 44 = .ok (.aload_n 0, 1) := by decide +kernel
theorem dX3_dustIn_45 : decode cX3_dustIn 45 = .ok (.getfield 16, 3) := by decide +kernel
theorem dX3_dustIn_48 : decode cX3_dustIn 48 = .ok (.invokevirtual 154, 3) := by decide +kernel
theorem dX3_dustIn_51 : decode cX3_dustIn 51 = .ok (.pop, 1) := by decide +kernel
theorem dX3_dustIn_52 : decode cX3_dustIn 52 = .ok (.iinc 2 1, 3) := by decide +kernel
theorem dX3_dustIn_55 : decode cX3_dustIn 55 = .ok (.goto (-16), 3) := by decide +kernel
theorem dX3_dustIn_58 : decode cX3_dustIn 58 = .ok (.aload_n 0, 1) := by decide +kernel
theorem dX3_dustIn_59 : decode cX3_dustIn 59 = .ok (.getfield 16, 3) := by decide +kernel
theorem dX3_dustIn_62 : decode cX3_dustIn 62 = .ok (.invokevirtual 164, 3) := by decide +kernel
theorem dX3_dustIn_65 : decode cX3_dustIn 65 = .ok (.aload_n 0, 1) := by decide +kernel
theorem dX3_dustIn_66 : decode cX3_dustIn 66 = .ok (.getfield 10, 3) := by decide +kernel
theorem dX3_dustIn_69 : decode cX3_dustIn 69 = .ok (.invokevirtual 164, 3) := by decide +kernel
theorem dX3_dustIn_72 : decode cX3_dustIn 72 = .ok (.isub, 1) := by decide +kernel
theorem dX3_dustIn_73 : decode cX3_dustIn 73 = .ok (.ireturn, 1) := by decide +kernel
theorem dX3_undo_0 : decode cX3_undo 0 = .ok (.aload_n 0, 1) := by decide +kernel
theorem dX3_undo_1 : decode cX3_undo 1 = .ok (.getfield 124, 3) := by decide +kernel
theorem dX3_undo_4 : decode cX3_undo 4 = .ok (.ifCond .ne 6, 3) := by decide +kernel
theorem dX3_undo_7 : decode cX3_undo 7 = .ok (.bipush (-2), 2) := by decide +kernel
theorem dX3_undo_9 : decode cX3_undo 9 = .ok (.ireturn, 1) := by decide +kernel
theorem dX3_undo_10 : decode cX3_undo 10 = .ok (.aload_n 0, 1) := by decide +kernel
theorem dX3_undo_11 : decode cX3_undo 11 = .ok (.aload_n 0, 1) := by decide +kernel
theorem dX3_undo_12 : decode cX3_undo 12 = .ok (.getfield 185, 3) := by decide +kernel
theorem dX3_undo_15 : decode cX3_undo 15 = .ok (.ifCond .ne 7, 3) := by decide +kernel
theorem dX3_undo_18 : decode cX3_undo 18 = .ok (.iconst 5, 1) := by decide +kernel
theorem dX3_undo_19 : decode cX3_undo 19 = .ok (.goto 9, 3) := by decide +kernel
theorem dX3_undo_22 : decode cX3_undo 22 = .ok (.aload_n 0, 1) := by decide +kernel
theorem dX3_undo_23 : decode cX3_undo 23 = .ok (.getfield 185, 3) := by decide +kernel
theorem dX3_undo_26 : decode cX3_undo 26 = .ok (.iconst 1, 1) := by decide +kernel
theorem dX3_undo_27 : decode cX3_undo 27 = .ok (.isub, 1) := by decide +kernel
theorem dX3_undo_28 : decode cX3_undo 28 = .ok (.putfield 185, 3) := by decide +kernel
theorem dX3_undo_31 : decode cX3_undo 31 = .ok (.aload_n 0, 1) := by decide +kernel
theorem dX3_undo_32 : decode cX3_undo 32 = .ok (.getfield 10, 3) := by decide +kernel
theorem dX3_undo_35 : decode cX3_undo 35 = .ok (.aload_n 0, 1) := by decide +kernel
theorem dX3_undo_36 : decode cX3_undo 36 = .ok (.getfield 19, 3) := by decide +kernel
theorem dX3_undo_39 : decode cX3_undo 39 = .ok (.aload_n 0, 1) := by decide +kernel
theorem dX3_undo_40 : decode cX3_undo 40 = .ok (.getfield 185, 3) := by decide +kernel
theorem dX3_undo_43 : decode cX3_undo 43 = .ok (.aaload, 1) := by decide +kernel
theorem dX3_undo_44 : decode cX3_undo 44 = .ok (.invokevirtual 181, 3) := by decide +kernel
theorem dX3_undo_47 : decode cX3_undo 47 = .ok (.aload_n 0, 1) := by decide +kernel
theorem dX3_undo_48 : decode cX3_undo 48 = .ok (.dup, 1) := by decide +kernel
theorem dX3_undo_49 : decode cX3_undo 49 = .ok (.getfield 124, 3) := by decide +kernel
theorem dX3_undo_52 : decode cX3_undo 52 = .ok (.iconst 1, 1) := by decide +kernel
theorem dX3_undo_53 : decode cX3_undo 53 = .ok (.isub, 1) := by decide +kernel
theorem dX3_undo_54 : decode cX3_undo 54 = .ok (.putfield 124, 3) := by decide +kernel
theorem dX3_undo_57 : decode cX3_undo 57 = .ok (.aload_n 0, 1) := by decide +kernel
theorem dX3_undo_58 : decode cX3_undo 58 = .ok (.getfield 124, 3) := by decide +kernel
theorem dX3_undo_61 : decode cX3_undo 61 = .ok (.ireturn, 1) := by decide +kernel
theorem dX3_saveState_0 : decode cX3_saveState 0 = .ok (.aload_n 0, 1) := by decide +kernel
theorem dX3_saveState_1 : decode cX3_saveState 1 = .ok (.getfield 19, 3) := by decide +kernel
theorem dX3_saveState_4 : decode cX3_saveState 4 = .ok (.aload_n 0, 1) := by decide +kernel
theorem dX3_saveState_5 : decode cX3_saveState 5 = .ok (.getfield 185, 3) := by decide +kernel
theorem dX3_saveState_8 : decode cX3_saveState 8 = .ok (.aaload, 1) := by decide +kernel
theorem dX3_saveState_9 : decode cX3_saveState 9 = .ok (.aload_n 0, 1) := by decide +kernel
theorem dX3_saveState_10 : decode cX3_saveState 10 = .ok (.getfield 10, 3) := by decide +kernel
theorem dX3_saveState_13 : decode cX3_saveState 13 = .ok (.invokevirtual 181, 3) := by decide +kernel
theorem dX3_saveState_16 : decode cX3_saveState 16 = .ok (.aload_n 0, 1) := by decide +kernel
theorem dX3_saveState_17 : decode cX3_saveState 17 = .ok (.aload_n 0, 1) := by decide +kernel
theorem dX3_saveState_18 : decode cX3_saveState 18 = .ok (.getfield 185, 3) := by decide +kernel
theorem dX3_saveState_21 : decode cX3_saveState 21 = .ok (.iconst 5, 1) := by decide +kernel
theorem dX3_saveState_22 : decode cX3_saveState 22 = .ok (.if_icmp .ne 7, 3) := by decide +kernel
theorem dX3_saveState_25 : decode cX3_saveState 25 = .ok (.iconst 0, 1) := by decide +kernel
theorem dX3_saveState_26 : decode cX3_saveState 26 = .ok (.goto 9, 3) := by decide +kernel
theorem dX3_saveState_29 : decode cX3_saveState 29 = .ok (.aload_n 0, 1) := by decide +kernel
theorem dX3_saveState_30 : decode cX3_saveState 30 = .ok (.getfield 185, 3) := by decide +kernel
theorem dX3_saveState_33 : decode cX3_saveState 33 = .ok (.iconst 1, 1) := by decide +kernel
theorem dX3_saveState_34 : decode cX3_saveState 34 = .ok (.iadd, 1) := by decide +kernel
theorem dX3_saveState_35 : decode cX3_saveState 35 = .ok (.putfield 185, 3) := by decide +kernel
theorem dX3_saveState_38 : decode cX3_saveState 38 = .ok (.aload_n 0, 1) := by decide +kernel
theorem dX3_saveState_39 : decode cX3_saveState 39 = .ok (.getfield 124, 3) := by decide +kernel
theorem dX3_saveState_42 : decode cX3_saveState 42 = .ok (.bipush 6, 2) := by decide +kernel
theorem dX3_saveState_44 : decode cX3_saveState 44 = .ok (.if_icmp .ge 13, 3) := by decide +kernel
theorem dX3_saveState_47 : decode cX3_saveState 47 = .ok (.aload_n 0, 1) := by decide +kernel
theorem dX3_saveState_48 : decode cX3_saveState 48 = .ok (.dup, 1) := by decide +kernel
theorem dX3_saveState_49 : decode cX3_saveState 49 = .ok (.getfield 124, 3) := by decide +kernel
theorem dX3_saveState_52 : decode cX3_saveState 52 = .ok (.iconst 1, 1) := by decide +kernel
theorem dX3_saveState_53 : decode cX3_saveState 53 = .ok (.iadd, 1) := by decide +kernel
theorem dX3_saveState_54 : decode cX3_saveState 54 = .ok (.putfield 124, 3) := by decide +kernel
theorem dX3_saveState_57 : decode cX3_saveState 57 = .ok (.return_, 1) := by decide +kernel
theorem dX3_isIn_0 : decode cX3_isIn 0 = .ok (.iload_n 0, 1) := by decide +kernel
theorem dX3_isIn_1 : decode cX3_isIn 1 = .ok (.iload_n 1, 1) := by decide +kernel
theorem dX3_isIn_2 : decode cX3_isIn 2 = .ok (.if_icmp .lt 12, 3) := by decide +kernel
theorem dX3_isIn_5 : decode cX3_isIn 5 = .ok (.iload_n 0, 1) := by decide +kernel
theorem dX3_isIn_6 : decode cX3_isIn 6 = .ok (.iload_n 2, 1) := by decide +kernel
theorem dX3_isIn_7 : decode cX3_isIn 7 = .ok (.if_icmp .gt 7, 3) := by decide +kernel
theorem dX3_isIn_10 : decode cX3_isIn 10 = .ok (.iconst 1, 1) := by decide +kernel
theorem dX3_isIn_11 : decode cX3_isIn 11 = .ok (.goto 4, 3) := by decide +kernel
theorem dX3_isIn_14 : decode cX3_isIn 14 = .ok (.iconst 0, 1) := by decide +kernel
theorem dX3_isIn_15 : decode cX3_isIn 15 = .ok (.ireturn, 1) := by decide +kernel
theorem dX3_isClass_0 : decode cX3_isClass 0 = .ok (.iload_n 0, 1) := by decide +kernel
theorem dX3_isClass_1 : decode cX3_isClass 1 = .ok (.iconst 0, 1) := by decide +kernel
theorem dX3_isClass_2 : decode cX3_isClass 2 = .ok (.bipush 9, 2) := by decide +kernel
theorem dX3_isClass_4 : decode cX3_isClass 4 = .ok (.invokestatic 34, 3) := by decide +kernel
theorem dX3_isClass_7 : decode cX3_isClass 7 = .ok (.ireturn, 1) := by decide +kernel
theorem dX3_massIn_0 : decode cX3_massIn 0 = .ok (.iload_n 1, 1) := by decide +kernel
theorem dX3_massIn_1 : decode cX3_massIn 1 = .ok (.iconst (-1), 1) := by decide +kernel
theorem dX3_massIn_2 : decode cX3_massIn 2 = .ok (.if_icmp .ne 8, 3) := by decide +kernel
theorem dX3_massIn_5 : decode cX3_massIn 5 = .ok (.aload_n 0, 1) := by decide +kernel
theorem dX3_massIn_6 : decode cX3_massIn 6 = .ok (.invokestatic 52, 3) := by decide +kernel
theorem dX3_massIn_9 : decode cX3_massIn 9 = .ok (.ireturn, 1) := by decide +kernel
theorem dX3_massIn_10 : decode cX3_massIn 10 = .ok (.iload_n 1, 1) := by decide +kernel
theorem dX3_massIn_11 : decode cX3_massIn 11 = .ok (.invokestatic 30, 3) := by decide +kernel
theorem dX3_massIn_14 : decode cX3_massIn 14 = .ok (.ifCond .eq 9, 3) := by decide +kernel
theorem dX3_massIn_17 : decode cX3_massIn 17 = .ok (.aload_n 0, 1) := by decide +kernel
theorem dX3_massIn_18 : decode cX3_massIn 18 = .ok (.iload_n 1, 1) := by decide +kernel
theorem dX3_massIn_19 : decode cX3_massIn 19 = .ok (.iaload, 1) := by decide +kernel
theorem dX3_massIn_20 : decode cX3_massIn 20 = .ok (.goto 4, 3) := by decide +kernel
theorem dX3_massIn_23 : decode cX3_massIn 23 = .ok (.iconst (-1), 1) := by decide +kernel
theorem dX3_massIn_24 : decode cX3_massIn 24 = .ok (.ireturn, 1) := by decide +kernel
theorem dX3_sumOf_0 : decode cX3_sumOf 0 = .ok (.iconst 0, 1) := by decide +kernel
theorem dX3_sumOf_1 : decode cX3_sumOf 1 = .ok (.istore_n 1, 1) := by decide +kernel
theorem dX3_sumOf_2 : decode cX3_sumOf 2 = .ok (.aload_n 0, 1) := by decide +kernel
theorem dX3_sumOf_3 : decode cX3_sumOf 3 = .ok (.astore_n 2, 1) := by decide +kernel
theorem dX3_sumOf_4 : decode cX3_sumOf 4 = .ok (.aload_n 2, 1) := by decide +kernel
theorem dX3_sumOf_5 : decode cX3_sumOf 5 = .ok (.arraylength, 1) := by decide +kernel
theorem dX3_sumOf_6 : decode cX3_sumOf 6 = .ok (.istore_n 3, 1) := by decide +kernel
theorem dX3_sumOf_7 : decode cX3_sumOf 7 = .ok (.iconst 0, 1) := by decide +kernel
theorem dX3_sumOf_8 : decode cX3_sumOf 8 = .ok (.istore 4, 2) := by decide +kernel
theorem dX3_sumOf_10 : decode cX3_sumOf 10 = .ok (.iload 4, 2) := by decide +kernel
theorem dX3_sumOf_12 : decode cX3_sumOf 12 = .ok (.iload_n 3, 1) := by decide +kernel
theorem dX3_sumOf_13 : decode cX3_sumOf 13 = .ok (.if_icmp .ge 20, 3) := by decide +kernel
theorem dX3_sumOf_16 : decode cX3_sumOf 16 = .ok (.aload_n 2, 1) := by decide +kernel
theorem dX3_sumOf_17 : decode cX3_sumOf 17 = .ok (.iload 4, 2) := by decide +kernel
theorem dX3_sumOf_19 : decode cX3_sumOf 19 = .ok (.iaload, 1) := by decide +kernel
theorem dX3_sumOf_20 : decode cX3_sumOf 20 = .ok (.istore 5, 2) := by decide +kernel
theorem dX3_sumOf_22 : decode cX3_sumOf 22 = .ok (.iload_n 1, 1) := by decide +kernel
theorem dX3_sumOf_23 : decode cX3_sumOf 23 = .ok (.iload 5, 2) := by decide +kernel
theorem dX3_sumOf_25 : decode cX3_sumOf 25 = .ok (.iadd, 1) := by decide +kernel
theorem dX3_sumOf_26 : decode cX3_sumOf 26 = .ok (.istore_n 1, 1) := by decide +kernel
theorem dX3_sumOf_27 : decode cX3_sumOf 27 = .ok (.iinc 4 1, 3) := by decide +kernel
theorem dX3_sumOf_30 : decode cX3_sumOf 30 = .ok (.goto (-20), 3) := by decide +kernel
theorem dX3_sumOf_33 : decode cX3_sumOf 33 = .ok (.iload_n 1, 1) := by decide +kernel
theorem dX3_sumOf_34 : decode cX3_sumOf 34 = .ok (.ireturn, 1) := by decide +kernel
theorem dX3_clearRow_0 : decode cX3_clearRow 0 = .ok (.iconst 0, 1) := by decide +kernel
theorem dX3_clearRow_1 : decode cX3_clearRow 1 = .ok (.istore_n 1, 1) := by decide +kernel
theorem dX3_clearRow_2 : decode cX3_clearRow 2 = .ok (.iload_n 1, 1) := by decide +kernel
theorem dX3_clearRow_3 : decode cX3_clearRow 3 = .ok (.aload_n 0, 1) := by decide +kernel
theorem dX3_clearRow_4 : decode cX3_clearRow 4 = .ok (.arraylength, 1) := by decide +kernel
theorem dX3_clearRow_5 : decode cX3_clearRow 5 = .ok (.if_icmp .ge 13, 3) := by decide +kernel
theorem dX3_clearRow_8 : decode cX3_clearRow 8 = .ok (.aload_n 0, 1) := by decide +kernel
theorem dX3_clearRow_9 : decode cX3_clearRow 9 = .ok (.iload_n 1, 1) := by decide +kernel
theorem dX3_clearRow_10 : decode cX3_clearRow 10 = .ok (.iconst 0, 1) := by decide +kernel
theorem dX3_clearRow_11 : decode cX3_clearRow 11 = .ok (.iastore, 1) := by decide +kernel
theorem dX3_clearRow_12 : decode cX3_clearRow 12 = .ok (.iinc 1 1, 3) := by decide +kernel
theorem dX3_clearRow_15 : decode cX3_clearRow 15 = .ok (.goto (-13), 3) := by decide +kernel
theorem dX3_clearRow_18 : decode cX3_clearRow 18 = .ok (.return_, 1) := by decide +kernel
theorem dX3_copyRow_0 : decode cX3_copyRow 0 = .ok (.aload_n 0, 1) := by decide +kernel
theorem dX3_copyRow_1 : decode cX3_copyRow 1 = .ok (.iconst 0, 1) := by decide +kernel
theorem dX3_copyRow_2 : decode cX3_copyRow 2 = .ok (.aload_n 1, 1) := by decide +kernel
theorem dX3_copyRow_3 : decode cX3_copyRow 3 = .ok (.iconst 0, 1) := by decide +kernel
theorem dX3_copyRow_4 : decode cX3_copyRow 4 = .ok (.aload_n 0, 1) := by decide +kernel
theorem dX3_copyRow_5 : decode cX3_copyRow 5 = .ok (.arraylength, 1) := by decide +kernel
theorem dX3_copyRow_6 : decode cX3_copyRow 6 = .ok (.aload_n 1, 1) := by decide +kernel
theorem dX3_copyRow_7 : decode cX3_copyRow 7 = .ok (.arraylength, 1) := by decide +kernel
theorem dX3_copyRow_8 : decode cX3_copyRow 8 = .ok (.invokestatic 188, 3) := by decide +kernel
theorem dX3_copyRow_11 : decode cX3_copyRow 11 = .ok (.invokestatic 193, 3) := by decide +kernel
theorem dX3_copyRow_14 : decode cX3_copyRow 14 = .ok (.return_, 1) := by decide +kernel
theorem dX3_perThousand_0 : decode cX3_perThousand 0 = .ok (.iload_n 1, 1) := by decide +kernel
theorem dX3_perThousand_1 : decode cX3_perThousand 1 = .ok (.ifCond .le 13, 3) := by decide +kernel
theorem dX3_perThousand_4 : decode cX3_perThousand 4 = .ok (.iload_n 0, 1) := by decide +kernel
theorem dX3_perThousand_5 : decode cX3_perThousand 5 = .ok (.sipush 1000, 3) := by decide +kernel
theorem dX3_perThousand_8 : decode cX3_perThousand 8 = .ok (.imul, 1) := by decide +kernel
theorem dX3_perThousand_9 : decode cX3_perThousand 9 = .ok (.iload_n 1, 1) := by decide +kernel
theorem dX3_perThousand_10 : decode cX3_perThousand 10 = .ok (.idiv, 1) := by decide +kernel
theorem dX3_perThousand_11 : decode cX3_perThousand 11 = .ok (.goto 4, 3) := by decide +kernel
theorem dX3_perThousand_14 : decode cX3_perThousand 14 = .ok (.iconst 0, 1) := by decide +kernel
theorem dX3_perThousand_15 : decode cX3_perThousand 15 = .ok (.ireturn, 1) := by decide +kernel
theorem dX4_init_0 : decode cX4_init 0 = .ok (.aload_n 0, 1) := by decide +kernel
theorem dX4_init_1 : decode cX4_init 1 = .ok (.invokespecial 1, 3) := by decide +kernel
theorem dX4_init_4 : decode cX4_init 4 = .ok (.aload_n 0, 1) := by decide +kernel
theorem dX4_init_5 : decode cX4_init 5 = .ok (.sipush 137, 3) := by decide +kernel
theorem dX4_init_8 : decode cX4_init 8 = .ok (.newarray .int, 2) := by decide +kernel
theorem dX4_init_10 : decode cX4_init 10 = .ok (.putfield 7, 3) := by decide +kernel
theorem dX4_init_13 : decode cX4_init 13 = .ok (.aload_n 0, 1) := by decide +kernel
theorem dX4_init_14 : decode cX4_init 14 = .ok (.sipush 822, 3) := by decide +kernel
theorem dX4_init_17 : decode cX4_init 17 = .ok (.newarray .int, 2) := by decide +kernel
theorem dX4_init_19 : decode cX4_init 19 = .ok (.putfield 13, 3) := by decide +kernel
theorem dX4_init_22 : decode cX4_init 22 = .ok (.aload_n 0, 1) := by decide +kernel
theorem dX4_init_23 : decode cX4_init 23 = .ok (.bipush 80, 2) := by decide +kernel
theorem dX4_init_25 : decode cX4_init 25 = .ok (.newarray .byte, 2) := by decide +kernel
theorem dX4_init_27 : decode cX4_init 27 = .ok (.putfield 16, 3) := by decide +kernel
theorem dX4_init_30 : decode cX4_init 30 = .ok (.aload_n 0, 1) := by decide +kernel
theorem dX4_init_31 : decode cX4_init 31 = .ok (.sipush 137, 3) := by decide +kernel
theorem dX4_init_34 : decode cX4_init 34 = .ok (.newarray .int, 2) := by decide +kernel
theorem dX4_init_36 : decode cX4_init 36 = .ok (.putfield 20, 3) := by decide +kernel
theorem dX4_init_39 : decode cX4_init 39 = .ok (.aload_n 0, 1) := by decide +kernel
theorem dX4_init_40 : decode cX4_init 40 = .ok (.bipush 10, 2) := by decide +kernel
theorem dX4_init_42 : decode cX4_init 42 = .ok (.newarray .int, 2) := by decide +kernel
theorem dX4_init_44 : decode cX4_init 44 = .ok (.putfield 23, 3) := by decide +kernel
theorem dX4_init_47 : decode cX4_init 47 = .ok (.aload_n 0, 1) := by decide +kernel
theorem dX4_init_48 : decode cX4_init 48 = .ok (.getfield 7, 3) := by decide +kernel
theorem dX4_init_51 : decode cX4_init 51 = .ok (.bipush 20, 2) := by decide +kernel
theorem dX4_init_53 : decode cX4_init 53 = .ok (.sipush 500, 3) := by decide +kernel
theorem dX4_init_56 : decode cX4_init 56 = .ok (.iastore, 1) := by decide +kernel
theorem dX4_init_57 : decode cX4_init 57 = .ok (.aload_n 0, 1) := by decide +kernel
theorem dX4_init_58 : decode cX4_init 58 = .ok (.getfield 7, 3) := by decide +kernel
theorem dX4_init_61 : decode cX4_init 61 = .ok (.bipush 21, 2) := by decide +kernel
theorem dX4_init_63 : decode cX4_init 63 = .ok (.bipush 20, 2) := by decide +kernel
theorem dX4_init_65 : decode cX4_init 65 = .ok (.iastore, 1) := by decide +kernel
theorem dX4_init_66 : decode cX4_init 66 = .ok (.aload_n 0, 1) := by decide +kernel
theorem dX4_init_67 : decode cX4_init 67 = .ok (.getfield 7, 3) := by decide +kernel
theorem dX4_init_70 : decode cX4_init 70 = .ok (.bipush 22, 2) := by decide +kernel
theorem dX4_init_72 : decode cX4_init 72 = .ok (.iconst 2, 1) := by decide +kernel
theorem dX4_init_73 : decode cX4_init 73 = .ok (.iastore, 1) := by decide +kernel
theorem dX4_init_74 : decode cX4_init 74 = .ok (.aload_n 0, 1) := by decide +kernel
theorem dX4_init_75 : decode cX4_init 75 = .ok (.getfield 7, 3) := by decide +kernel
theorem dX4_init_78 : decode cX4_init 78 = .ok (.bipush 23, 2) := by decide +kernel
theorem dX4_init_80 : decode cX4_init 80 = .ok (.iconst 5, 1) := by decide +kernel
theorem dX4_init_81 : decode cX4_init 81 = .ok (.iastore, 1) := by decide +kernel
theorem dX4_init_82 : decode cX4_init 82 = .ok (.iconst 0, 1) := by decide +kernel
theorem dX4_init_83 : decode cX4_init 83 = .ok (.istore_n 1, 1) := by decide +kernel
theorem dX4_init_84 : decode cX4_init 84 = .ok (.iload_n 1, 1) := by decide +kernel
theorem dX4_init_85 : decode cX4_init 85 = .ok (.bipush 9, 2) := by decide +kernel
theorem dX4_init_87 : decode cX4_init 87 = .ok (.if_icmp .ge 25, 3) := by decide +kernel
theorem dX4_init_90 : decode cX4_init 90 = .ok (.aload_n 0, 1) := by decide +kernel
theorem dX4_init_91 : decode cX4_init 91 = .ok (.getfield 7, 3) := by decide +kernel
theorem dX4_init_94 : decode cX4_init 94 = .ok (.bipush 31, 2) := by decide +kernel
theorem dX4_init_96 : decode cX4_init 96 = .ok (.iconst 2, 1) := by decide +kernel
theorem dX4_init_97 : decode cX4_init 97 = .ok (.iload_n 1, 1) := by decide +kernel
theorem dX4_init_98 : decode cX4_init 98 = .ok (.imul, 1) := by decide +kernel
theorem dX4_init_99 : decode cX4_init 99 = .ok (.iadd, 1) := by decide +kernel
theorem dX4_init_100 : decode cX4_init 100 = .ok (.iconst 1, 1) := by decide +kernel
theorem dX4_init_101 : decode cX4_init 101 = .ok (.iadd, 1) := by decide +kernel
theorem dX4_init_102 : decode cX4_init 102 = .ok (.sipush 1000, 3) := by decide +kernel
theorem dX4_init_105 : decode cX4_init 105 = .ok (.iastore, 1) := by decide +kernel
theorem dX4_init_106 : decode cX4_init 106 = .ok (.iinc 1 1, 3) := by decide +kernel
theorem dX4_init_109 : decode cX4_init 109 = .ok (.goto (-25), 3) := by decide +kernel
theorem dX4_init_112 : decode cX4_init 112 = .ok (.return_, 1) := by decide +kernel
theorem dX4_in_0 : decode cX4_in 0 = .ok (.iload_n 0, 1) := by decide +kernel
theorem dX4_in_1 : decode cX4_in 1 = .ok (.iload_n 1, 1) := by decide +kernel
theorem dX4_in_2 : decode cX4_in 2 = .ok (.if_icmp .lt 12, 3) := by decide +kernel
theorem dX4_in_5 : decode cX4_in 5 = .ok (.iload_n 0, 1) := by decide +kernel
theorem dX4_in_6 : decode cX4_in 6 = .ok (.iload_n 2, 1) := by decide +kernel
theorem dX4_in_7 : decode cX4_in 7 = .ok (.if_icmp .gt 7, 3) := by decide +kernel
theorem dX4_in_10 : decode cX4_in 10 = .ok (.iconst 1, 1) := by decide +kernel
theorem dX4_in_11 : decode cX4_in 11 = .ok (.goto 4, 3) := by decide +kernel
theorem dX4_in_14 : decode cX4_in 14 = .ok (.iconst 0, 1) := by decide +kernel
theorem dX4_in_15 : decode cX4_in 15 = .ok (.ireturn, 1) := by decide +kernel
theorem dX4_notes_0 : decode cX4_notes 0 = .ok (.aload_n 0, 1) := by decide +kernel
theorem dX4_notes_1 : decode cX4_notes 1 = .ok (.getfield 26, 3) := by decide +kernel
theorem dX4_notes_4 : decode cX4_notes 4 = .ok (.bipush 6, 2) := by decide +kernel
theorem dX4_notes_6 : decode cX4_notes 6 = .ok (.if_icmp .ne 44, 3) := by decide +kernel
theorem dX4_notes_9 : decode cX4_notes 9 = .ok (.iconst 0, 1) := by decide +kernel
theorem dX4_notes_10 : decode cX4_notes 10 = .ok (.istore_n 1, 1) := by decide +kernel
theorem dX4_notes_11 : decode cX4_notes 11 = .ok (.iload_n 1, 1) := by decide +kernel
theorem dX4_notes_12 : decode cX4_notes 12 = .ok (.sipush 685, 3) := by decide +kernel
theorem dX4_notes_15 : decode cX4_notes 15 = .ok (.if_icmp .ge 25, 3) := by decide +kernel
theorem dX4_notes_18 : decode cX4_notes 18 = .ok (.aload_n 0, 1) := by decide +kernel
theorem dX4_notes_19 : decode cX4_notes 19 = .ok (.getfield 13, 3) := by decide +kernel
theorem dX4_notes_22 : decode cX4_notes 22 = .ok (.iload_n 1, 1) := by decide +kernel
theorem dX4_notes_23 : decode cX4_notes 23 = .ok (.aload_n 0, 1) := by decide +kernel
theorem dX4_notes_24 : decode cX4_notes 24 = .ok (.getfield 13, 3) := by decide +kernel
theorem dX4_notes_27 : decode cX4_notes 27 = .ok (.iload_n 1, 1) := by decide +kernel
theorem dX4_notes_28 : decode cX4_notes 28 = .ok (.sipush 137, 3) := by decide +kernel
theorem dX4_notes_31 : decode cX4_notes 31 = .ok (.iadd, 1) := by decide +kernel
theorem dX4_notes_32 : decode cX4_notes 32 = .ok (.iaload, 1) := by decide +kernel
theorem dX4_notes_33 : decode cX4_notes 33 = .ok (.iastore, 1) := by decide +kernel
theorem dX4_notes_34 : decode cX4_notes 34 = .ok (.iinc 1 1, 3) := by decide +kernel
theorem dX4_notes_37 : decode cX4_notes 37 = .ok (.goto (-26), 3) := by decide +kernel
theorem dX4_notes_40 : decode cX4_notes 40 = .ok (.aload_n 0, 1) := by decide +kernel
theorem dX4_notes_41 : decode cX4_notes 41 = .ok (.dup, 1) := by decide +kernel
theorem dX4_notes_42 : decode cX4_notes 42 = .ok (.getfield 26, 3) := by decide +kernel
theorem dX4_notes_45 : decode cX4_notes 45 = .ok (.iconst 1, 1) := by decide +kernel
theorem dX4_notes_46 : decode cX4_notes 46 = .ok (.isub, 1) := by decide +kernel
theorem dX4_notes_47 : decode cX4_notes 47 = .ok (.putfield 26, 3) := by decide +kernel
theorem dX4_notes_50 : decode cX4_notes 50 = .ok (.iconst 0, 1) := by decide +kernel
theorem dX4_notes_51 : decode cX4_notes 51 = .ok (.istore_n 1, 1) := by decide +kernel
theorem dX4_notes_52 : decode cX4_notes 52 = .ok (.iload_n 1, 1) := by decide +kernel
theorem dX4_notes_53 : decode cX4_notes 53 = .ok (.sipush 137, 3) := by decide +kernel
theorem dX4_notes_56 : decode cX4_notes 56 = .ok (.if_icmp .ge 30, 3) := by decide +kernel
theorem dX4_notes_59 : decode cX4_notes 59 = .ok (.aload_n 0, 1) := by decide +kernel
theorem dX4_notes_60 : decode cX4_notes 60 = .ok (.getfield 13, 3) := by decide +kernel
theorem dX4_notes_63 : decode cX4_notes 63 = .ok (.sipush 137, 3) := by decide +kernel
theorem dX4_notes_66 : decode cX4_notes 66 = .ok (.aload_n 0, 1) := by decide +kernel
theorem dX4_notes_67 : decode cX4_notes 67 = .ok (.getfield 26, 3) := by decide +kernel
theorem dX4_notes_70 : decode cX4_notes 70 = .ok (.imul, 1) := by decide +kernel
theorem dX4_notes_71 : decode cX4_notes 71 = .ok (.iload_n 1, 1) := by decide +kernel
theorem dX4_notes_72 : decode cX4_notes 72 = .ok (.iadd, 1) := by decide +kernel
theorem dX4_notes_73 : decode cX4_notes 73 = .ok (.aload_n 0, 1) := by decide +kernel
theorem dX4_notes_74 : decode cX4_notes 74 = .ok (.getfield 7, 3) := by decide +kernel
theorem dX4_notes_77 : decode cX4_notes 77 = .ok (.iload_n 1, 1) := by decide +kernel
theorem dX4_notes_78 : decode cX4_notes 78 = .ok (.iaload, 1) := by decide +kernel
theorem dX4_notes_79 : decode cX4_notes 79 = .ok (.iastore, 1) := by decide +kernel
theorem dX4_notes_80 : decode cX4_notes 80 = .ok (.iinc 1 1, 3) := by decide +kernel
theorem dX4_notes_83 : decode cX4_notes 83 = .ok (.goto (-31), 3) := by decide +kernel
theorem dX4_notes_86 : decode cX4_notes 86 = .ok (.aload_n 0, 1) := by decide +kernel
theorem dX4_notes_87 : decode cX4_notes 87 = .ok (.dup, 1) := by decide +kernel
theorem dX4_notes_88 : decode cX4_notes 88 = .ok (.getfield 26, 3) := by decide +kernel
theorem dX4_notes_91 : decode cX4_notes 91 = .ok (.iconst 1, 1) := by decide +kernel
theorem dX4_notes_92 : decode cX4_notes 92 = .ok (.iadd, 1) := by decide +kernel
theorem dX4_notes_93 : decode cX4_notes 93 = .ok (.putfield 26, 3) := by decide +kernel
theorem dX4_notes_96 : decode cX4_notes 96 = .ok (.return_, 1) := by decide +kernel
theorem dX4_undo_0 : decode cX4_undo 0 = .ok (.aload_n 0, 1) := by decide +kernel
theorem dX4_undo_1 : decode cX4_undo 1 = .ok (.getfield 26, 3) := by decide +kernel
theorem dX4_undo_4 : decode cX4_undo 4 = .ok (.ifCond .ne 6, 3) := by decide +kernel
theorem dX4_undo_7 : decode cX4_undo 7 = .ok (.bipush (-2), 2) := by decide +kernel
theorem dX4_undo_9 : decode cX4_undo 9 = .ok (.ireturn, 1) := by decide +kernel
theorem dX4_undo_10 : decode cX4_undo 10 = .ok (.aload_n 0, 1) := by decide +kernel
theorem dX4_undo_11 : decode cX4_undo 11 = .ok (.dup, 1) := by decide +kernel
theorem dX4_undo_12 : decode cX4_undo 12 = .ok (.getfield 26, 3) := by decide +kernel
theorem dX4_undo_15 : decode cX4_undo 15 = .ok (.iconst 1, 1) := by decide +kernel
theorem dX4_undo_16 : decode cX4_undo 16 = .ok (.isub, 1) := by decide +kernel
theorem dX4_undo_17 : decode cX4_undo 17 = .ok (.putfield 26, 3) := by decide +kernel
theorem dX4_undo_20 : decode cX4_undo 20 = .ok (.iconst 0, 1) := by decide +kernel
theorem dX4_undo_21 : decode cX4_undo 21 = .ok (.istore_n 1, 1) := by decide +kernel
theorem dX4_undo_22 : decode cX4_undo 22 = .ok (.iload_n 1, 1) := by decide +kernel
theorem dX4_undo_23 : decode cX4_undo 23 = .ok (.sipush 137, 3) := by decide +kernel
theorem dX4_undo_26 : decode cX4_undo 26 = .ok (.if_icmp .ge 30, 3) := by decide +kernel
theorem dX4_undo_29 : decode cX4_undo 29 = .ok (.aload_n 0, 1) := by decide +kernel
theorem dX4_undo_30 : decode cX4_undo 30 = .ok (.getfield 7, 3) := by decide +kernel
theorem dX4_undo_33 : decode cX4_undo 33 = .ok (.iload_n 1, 1) := by decide +kernel
theorem dX4_undo_34 : decode cX4_undo 34 = .ok (.aload_n 0, 1) := by decide +kernel
theorem dX4_undo_35 : decode cX4_undo 35 = .ok (.getfield 13, 3) := by decide +kernel
theorem dX4_undo_38 : decode cX4_undo 38 = .ok (.sipush 137, 3) := by decide +kernel
theorem dX4_undo_41 : decode cX4_undo 41 = .ok (.aload_n 0, 1) := by decide +kernel
theorem dX4_undo_42 : decode cX4_undo 42 = .ok (.getfield 26, 3) := by decide +kernel
theorem dX4_undo_45 : decode cX4_undo 45 = .ok (.imul, 1) := by decide +kernel
theorem dX4_undo_46 : decode cX4_undo 46 = .ok (.iload_n 1, 1) := by decide +kernel
theorem dX4_undo_47 : decode cX4_undo 47 = .ok (.iadd, 1) := by decide +kernel
theorem dX4_undo_48 : decode cX4_undo 48 = .ok (.iaload, 1) := by decide +kernel
theorem dX4_undo_49 : decode cX4_undo 49 = .ok (.iastore, 1) := by decide +kernel
theorem dX4_undo_50 : decode cX4_undo 50 = .ok (.iinc 1 1, 3) := by decide +kernel
theorem dX4_undo_53 : decode cX4_undo 53 = .ok (.goto (-31), 3) := by decide +kernel
theorem dX4_undo_56 : decode cX4_undo 56 = .ok (.aload_n 0, 1) := by decide +kernel
theorem dX4_undo_57 : decode cX4_undo 57 = .ok (.getfield 26, 3) := by decide +kernel
theorem dX4_undo_60 : decode cX4_undo 60 = .ok (.ireturn, 1) := by decide +kernel
theorem dX4_sum_0 : decode cX4_sum 0 = .ok (.iconst 0, 1) := by decide +kernel
theorem dX4_sum_1 : decode cX4_sum 1 = .ok (.istore_n 2, 1) := by decide +kernel
theorem dX4_sum_2 : decode cX4_sum 2 = .ok (.iconst 0, 1) := by decide +kernel
theorem dX4_sum_3 : decode cX4_sum 3 = .ok (.istore_n 3, 1) := by decide +kernel
theorem dX4_sum_4 : decode cX4_sum 4 = .ok (.iload_n 3, 1) := by decide +kernel
theorem dX4_sum_5 : decode cX4_sum 5 = .ok (.bipush 10, 2) := by decide +kernel
theorem dX4_sum_7 : decode cX4_sum 7 = .ok (.if_icmp .ge 20, 3) := by decide +kernel
theorem dX4_sum_10 : decode cX4_sum 10 = .ok (.iload_n 2, 1) := by decide +kernel
theorem dX4_sum_11 : decode cX4_sum 11 = .ok (.aload_n 0, 1) := by decide +kernel
theorem dX4_sum_12 : decode cX4_sum 12 = .ok (.getfield 7, 3) := by decide +kernel
theorem dX4_sum_15 : decode cX4_sum 15 = .ok (.iload_n 1, 1) := by decide +kernel
theorem dX4_sum_16 : decode cX4_sum 16 = .ok (.iload_n 3, 1) := by decide +kernel
theorem dX4_sum_17 : decode cX4_sum 17 = .ok (.iadd, 1) := by decide +kernel
theorem dX4_sum_18 : decode cX4_sum 18 = .ok (.iaload, 1) := by decide +kernel
theorem dX4_sum_19 : decode cX4_sum 19 = .ok (.iadd, 1) := by decide +kernel
theorem dX4_sum_20 : decode cX4_sum 20 = .ok (.istore_n 2, 1) := by decide +kernel
theorem dX4_sum_21 : decode cX4_sum 21 = .ok (.iinc 3 1, 3) := by decide +kernel
theorem dX4_sum_24 : decode cX4_sum 24 = .ok (.goto (-20), 3) := by decide +kernel
theorem dX4_sum_27 : decode cX4_sum 27 = .ok (.iload_n 2, 1) := by decide +kernel
theorem dX4_sum_28 : decode cX4_sum 28 = .ok (.ireturn, 1) := by decide +kernel
theorem dX4_setMass_0 : decode cX4_setMass 0 = .ok (.iload_n 1, 1) := by decide +kernel
theorem dX4_setMass_1 : decode cX4_setMass 1 = .ok (.iconst 0, 1) := by decide +kernel
theorem dX4_setMass_2 : decode cX4_setMass 2 = .ok (.bipush 9, 2) := by decide +kernel
theorem dX4_setMass_4 : decode cX4_setMass 4 = .ok (.invokestatic 30, 3) := by decide +kernel
theorem dX4_setMass_7 : decode cX4_setMass 7 = .ok (.ifCond .eq 14, 3) := by decide +kernel
theorem dX4_setMass_10 : decode cX4_setMass 10 = .ok (.iload_n 2, 1) := by decide +kernel
theorem dX4_setMass_11 : decode cX4_setMass 11 = .ok (.iconst 0, 1) := by decide +kernel
theorem dX4_setMass_12 : decode cX4_setMass 12 = .ok (.sipush 9999, 3) := by decide +kernel
theorem dX4_setMass_15 : decode cX4_setMass 15 = .ok (.invokestatic 30, 3) := by decide +kernel
theorem dX4_setMass_18 : decode cX4_setMass 18 = .ok (.ifCond .ne 5, 3) := by decide +kernel
theorem dX4_setMass_21 : decode cX4_setMass 21 = .ok (.iconst (-1), 1) := by decide +kernel
theorem dX4_setMass_22 : decode cX4_setMass 22 = .ok (.ireturn, 1) := by decide +kernel
theorem dX4_setMass_23 : decode cX4_setMass 23 = .ok (.aload_n 0, 1) := by decide +kernel
theorem dX4_setMass_24 : decode cX4_setMass 24 = .ok (.invokevirtual 34, 3) := by decide +kernel
theorem dX4_setMass_27 : decode cX4_setMass 27 = .ok (.aload_n 0, 1) := by decide +kernel
theorem dX4_setMass_28 : decode cX4_setMass 28 = .ok (.getfield 7, 3) := by decide +kernel
theorem dX4_setMass_31 : decode cX4_setMass 31 = .ok (.iconst 0, 1) := by decide +kernel
theorem dX4_setMass_32 : decode cX4_setMass 32 = .ok (.iload_n 1, 1) := by decide +kernel
theorem dX4_setMass_33 : decode cX4_setMass 33 = .ok (.iadd, 1) := by decide +kernel
theorem dX4_setMass_34 : decode cX4_setMass 34 = .ok (.iaload, 1) := by decide +kernel
theorem dX4_setMass_35 : decode cX4_setMass 35 = .ok (.istore_n 3, 1) := by decide +kernel
theorem dX4_setMass_36 : decode cX4_setMass 36 = .ok (.aload_n 0, 1) := by decide +kernel
theorem dX4_setMass_37 : decode cX4_setMass 37 = .ok (.getfield 7, 3) := by decide +kernel
theorem dX4_setMass_40 : decode cX4_setMass 40 = .ok (.iconst 0, 1) := by decide +kernel
theorem dX4_setMass_41 : decode cX4_setMass 41 = .ok (.iload_n 1, 1) := by decide +kernel
theorem dX4_setMass_42 : decode cX4_setMass 42 = .ok (.iadd, 1) := by decide +kernel
theorem dX4_setMass_43 : decode cX4_setMass 43 = .ok (.iload_n 2, 1) := by decide +kernel
theorem dX4_setMass_44 : decode cX4_setMass 44 = .ok (.iastore, 1) := by decide +kernel
theorem dX4_setMass_45 : decode cX4_setMass 45 = .ok (.iload_n 3, 1) := by decide +kernel
theorem dX4_setMass_46 : decode cX4_setMass 46 = .ok (.ireturn, 1) := by decide +kernel
theorem dX4_massAt_0 : decode cX4_massAt 0 = .ok (.iload_n 2, 1) := by decide +kernel
theorem dX4_massAt_1 : decode cX4_massAt 1 = .ok (.iconst (-1), 1) := by decide +kernel
theorem dX4_massAt_2 : decode cX4_massAt 2 = .ok (.bipush 9, 2) := by decide +kernel
theorem dX4_massAt_4 : decode cX4_massAt 4 = .ok (.invokestatic 30, 3) := by decide +kernel
theorem dX4_massAt_7 : decode cX4_massAt 7 = .ok (.ifCond .ne 7, 3) := by decide +kernel
theorem dX4_massAt_10 : decode cX4_massAt 10 = .ok (.iconst (-1), 1) := by decide +kernel
theorem dX4_massAt_11 : decode cX4_massAt 11 = .ok (.goto 23, 3) := by decide +kernel
theorem dX4_massAt_14 : decode cX4_massAt 14 = .ok (.iload_n 2, 1) := by decide +kernel
theorem dX4_massAt_15 : decode cX4_massAt 15 = .ok (.ifCond .ge 11, 3) := by decide +kernel
theorem dX4_massAt_18 : decode cX4_massAt 18 = .ok (.aload_n 0, 1) := by decide +kernel
theorem dX4_massAt_19 : decode cX4_massAt 19 = .ok (.iload_n 1, 1) := by decide +kernel
theorem dX4_massAt_20 : decode cX4_massAt 20 = .ok (.invokevirtual 37, 3) := by decide +kernel
theorem dX4_massAt_23 : decode cX4_massAt 23 = .ok (.goto 11, 3) := by decide +kernel
theorem dX4_massAt_26 : decode cX4_massAt 26 = .ok (.aload_n 0, 1) := by decide +kernel
theorem dX4_massAt_27 : decode cX4_massAt 27 = .ok (.getfield 7, 3) := by decide +kernel
theorem dX4_massAt_30 : decode cX4_massAt 30 = .ok (.iload_n 1, 1) := by decide +kernel
theorem dX4_massAt_31 : decode cX4_massAt 31 = .ok (.iload_n 2, 1) := by decide +kernel
theorem dX4_massAt_32 : decode cX4_massAt 32 = .ok (.iadd, 1) := by decide +kernel
theorem dX4_massAt_33 : decode cX4_massAt 33 = .ok (.iaload, 1) := by decide +kernel
theorem dX4_massAt_34 : decode cX4_massAt 34 = .ok (.ireturn, 1) := by decide +kernel
theorem dX4_mass_0 : decode cX4_mass 0 = .ok (.aload_n 0, 1) := by decide +kernel
theorem dX4_mass_1 : decode cX4_mass 1 = .ok (.iconst 0, 1) := by decide +kernel
theorem dX4_mass_2 : decode cX4_mass 2 = .ok (.iload_n 1, 1) := by decide +kernel
theorem dX4_mass_3 : decode cX4_mass 3 = .ok (.invokevirtual 41, 3) := by decide +kernel
theorem dX4_mass_6 : decode cX4_mass 6 = .ok (.ireturn, 1) := by decide +kernel
theorem dX4_reserve_0 : decode cX4_reserve 0 = .ok (.aload_n 0, 1) := by decide +kernel
theorem dX4_reserve_1 : decode cX4_reserve 1 = .ok (.bipush 10, 2) := by decide +kernel
theorem dX4_reserve_3 : decode cX4_reserve 3 = .ok (.iload_n 1, 1) := by decide +kernel
theorem dX4_reserve_4 : decode cX4_reserve 4 = .ok (.invokevirtual 41, 3) := by decide +kernel
theorem dX4_reserve_7 : decode cX4_reserve 7 = .ok (.ireturn, 1) := by decide +kernel
theorem dX4_divides_0 : decode cX4_divides 0 = .ok (.iconst 0, 1) := by decide +kernel
theorem dX4_divides_1 : decode cX4_divides 1 = .ok (.istore_n 2, 1) := by decide +kernel
theorem dX4_divides_2 : decode cX4_divides 2 = .ok (.iconst 0, 1) := by decide +kernel
theorem dX4_divides_3 : decode cX4_divides 3 = .ok (.istore_n 3, 1) := by decide +kernel
theorem dX4_divides_4 : decode cX4_divides 4 = .ok (.iload_n 3, 1) := by decide +kernel
theorem dX4_divides_5 : decode cX4_divides 5 = .ok (.bipush 10, 2) := by decide +kernel
theorem dX4_divides_7 : decode cX4_divides 7 = .ok (.if_icmp .ge 100, 3) := by decide +kernel
theorem dX4_divides_10 : decode cX4_divides 10 = .ok (.aload_n 0, 1) := by decide +kernel
theorem dX4_divides_11 : decode cX4_divides 11 = .ok (.getfield 7, 3) := by decide +kernel
theorem dX4_divides_14 : decode cX4_divides 14 = .ok (.iconst 0, 1) := by decide +kernel
theorem dX4_divides_15 : decode cX4_divides 15 = .ok (.iload_n 3, 1) := by decide +kernel
theorem dX4_divides_16 : decode cX4_divides 16 = .ok (.iadd, 1) := by decide +kernel
theorem dX4_divides_17 : decode cX4_divides 17 = .ok (.iaload, 1) := by decide +kernel
theorem dX4_divides_18 : decode cX4_divides 18 = .ok (.istore 4, 2) := by decide +kernel
theorem dX4_divides_20 : decode cX4_divides 20 = .ok (.iload 4, 2) := by decide +kernel
theorem dX4_divides_22 : decode cX4_divides 22 = .ok (.iconst 2, 1) := by decide +kernel
theorem dX4_divides_23 : decode cX4_divides 23 = .ok (.idiv, 1) := by decide +kernel
theorem dX4_divides_24 : decode cX4_divides 24 = .ok (.iload 4, 2) := by decide +kernel
theorem dX4_divides_26 : decode cX4_divides 26 = .ok (.iconst 2, 1) := by decide +kernel
theorem dX4_divides_27 : decode cX4_divides 27 = .ok (.irem, 1) := by decide +kernel
theorem dX4_divides_28 : decode cX4_divides 28 = .ok (.iconst 1, 1) := by decide +kernel
theorem dX4_divides_29 : decode cX4_divides 29 = .ok (.if_icmp .ne 13, 3) := by decide +kernel
theorem dX4_divides_32 : decode cX4_divides 32 = .ok (.iload_n 2, 1) := by decide +kernel
theorem dX4_divides_33 : decode cX4_divides 33 = .ok (.iconst 2, 1) := by decide +kernel
theorem dX4_divides_34 : decode cX4_divides 34 = .ok (.irem, 1) := by decide +kernel
theorem dX4_divides_35 : decode cX4_divides 35 = .ok (.ifCond .ne 7, 3) := by decide +kernel
theorem dX4_divides_38 : decode cX4_divides 38 = .ok (.iconst 1, 1) := by decide +kernel
theorem dX4_divides_39 : decode cX4_divides 39 = .ok (.goto 4, 3) := by decide +kernel
theorem dX4_divides_42 : decode cX4_divides 42 = .ok (.iconst 0, 1) := by decide +kernel
theorem dX4_divides_43 : decode cX4_divides 43 = .ok (.iadd, 1) := by decide +kernel
theorem dX4_divides_44 : decode cX4_divides 44 = .ok (.istore 5, 2) := by decide +kernel
theorem dX4_divides_46 : decode cX4_divides 46 = .ok (.iload_n 2, 1) := by decide +kernel
theorem dX4_divides_47 : decode cX4_divides 47 = .ok (.iload 4, 2) := by decide +kernel
theorem dX4_divides_49 : decode cX4_divides 49 = .ok (.iconst 2, 1) := by decide +kernel
theorem dX4_divides_50 : decode cX4_divides 50 = .ok (.irem, 1) := by decide +kernel
theorem dX4_divides_51 : decode cX4_divides 51 = .ok (.iadd, 1) := by decide +kernel
theorem dX4_divides_52 : decode cX4_divides 52 = .ok (.istore_n 2, 1) := by decide +kernel
theorem dX4_divides_53 : decode cX4_divides 53 = .ok (.aload_n 0, 1) := by decide +kernel
theorem dX4_divides_54 : decode cX4_divides 54 = .ok (.getfield 7, 3) := by decide +kernel
theorem dX4_divides_57 : decode cX4_divides 57 = .ok (.iconst 0, 1) := by decide +kernel
theorem dX4_divides_58 : decode cX4_divides 58 = .ok (.iload_n 3, 1) := by decide +kernel
theorem dX4_divides_59 : decode cX4_divides 59 = .ok (.iadd, 1) := by decide +kernel
theorem dX4_divides_60 : decode cX4_divides 60 = .ok (.iload_n 1, 1) := by decide +kernel
theorem dX4_divides_61 : decode cX4_divides 61 = .ok (.ifCond .ne 8, 3) := by decide +kernel
theorem dX4_divides_64 : decode cX4_divides 64 = .ok (.iload 5, 2) := by decide +kernel
theorem dX4_divides_66 : decode cX4_divides 66 = .ok (.goto 8, 3) := by decide +kernel
theorem dX4_divides_69 : decode cX4_divides 69 = .ok (.iload 4, 2) := by decide +kernel
theorem dX4_divides_71 : decode cX4_divides 71 = .ok (.iload 5, 2) := by decide +kernel
theorem dX4_divides_73 : decode cX4_divides 73 = .ok (.isub, 1) := by decide +kernel
theorem dX4_divides_74 : decode cX4_divides 74 = .ok (.iastore, 1) := by decide +kernel
theorem dX4_divides_75 : decode cX4_divides 75 = .ok (.aload_n 0, 1) := by decide +kernel
theorem dX4_divides_76 : decode cX4_divides 76 = .ok (.getfield 7, 3) := by decide +kernel
theorem dX4_divides_79 : decode cX4_divides 79 = .ok (.bipush 10, 2) := by decide +kernel
theorem dX4_divides_81 : decode cX4_divides 81 = .ok (.iload_n 3, 1) := by decide +kernel
theorem dX4_divides_82 : decode cX4_divides 82 = .ok (.iadd, 1) := by decide +kernel
theorem dX4_divides_83 : decode cX4_divides 83 = .ok (.dup2, 1) := by decide +kernel
theorem dX4_divides_84 : decode cX4_divides 84 = .ok (.iaload, 1) := by decide +kernel
theorem dX4_divides_85 : decode cX4_divides 85 = .ok (.iload_n 1, 1) := by decide +kernel
theorem dX4_divides_86 : decode cX4_divides 86 = .ok (.ifCond .ne 11, 3) := by decide +kernel
theorem dX4_divides_89 : decode cX4_divides 89 = .ok (.iload 4, 2) := by decide +kernel
theorem dX4_divides_91 : decode cX4_divides 91 = .ok (.iload 5, 2) := by decide +kernel
theorem dX4_divides_93 : decode cX4_divides 93 = .ok (.isub, 1) := by decide +kernel
theorem dX4_divides_94 : decode cX4_divides 94 = .ok (.goto 5, 3) := by decide +kernel
theorem dX4_divides_97 : decode cX4_divides 97 = .ok (.iload 5, 2) := by decide +kernel
theorem dX4_divides_99 : decode cX4_divides 99 = .ok (.iadd, 1) := by decide +kernel
theorem dX4_divides_100 : decode cX4_divides 100 = .ok (.iastore, 1) := by decide +kernel
theorem dX4_divides_101 : decode cX4_divides 101 = .ok (.iinc 3 1, 3) := by decide +kernel
theorem dX4_divides_104 : decode cX4_divides 104 = .ok (.goto (-100), 3) := by decide +kernel
theorem dX4_divides_107 : decode cX4_divides 107 = .ok (.return_, 1) := by decide +kernel
theorem dX4_split_0 : decode cX4_split 0 = .ok (.iload_n 1, 1) := by decide +kernel
theorem dX4_split_1 : decode cX4_split 1 = .ok (.iconst 0, 1) := by decide +kernel
theorem dX4_split_2 : decode cX4_split 2 = .ok (.iconst 1, 1) := by decide +kernel
theorem dX4_split_3 : decode cX4_split 3 = .ok (.invokestatic 30, 3) := by decide +kernel
theorem dX4_split_6 : decode cX4_split 6 = .ok (.ifCond .ne 5, 3) := by decide +kernel
theorem dX4_split_9 : decode cX4_split 9 = .ok (.iconst (-1), 1) := by decide +kernel
theorem dX4_split_10 : decode cX4_split 10 = .ok (.ireturn, 1) := by decide +kernel
theorem dX4_split_11 : decode cX4_split 11 = .ok (.aload_n 0, 1) := by decide +kernel
theorem dX4_split_12 : decode cX4_split 12 = .ok (.iconst 0, 1) := by decide +kernel
theorem dX4_split_13 : decode cX4_split 13 = .ok (.invokevirtual 37, 3) := by decide +kernel
theorem dX4_split_16 : decode cX4_split 16 = .ok (.ifCond .ne 6, 3) := by decide +kernel
theorem dX4_split_19 : decode cX4_split 19 = .ok (.bipush (-2), 2) := by decide +kernel
theorem dX4_split_21 : decode cX4_split 21 = .ok (.ireturn, 1) := by decide +kernel
theorem dX4_split_22 : decode cX4_split 22 = .ok (.aload_n 0, 1) := by decide +kernel
theorem dX4_split_23 : decode cX4_split 23 = .ok (.invokevirtual 34, 3) := by decide +kernel
theorem dX4_split_26 : decode cX4_split 26 = .ok (.aload_n 0, 1) := by decide +kernel
theorem dX4_split_27 : decode cX4_split 27 = .ok (.iload_n 1, 1) := by decide +kernel
theorem dX4_split_28 : decode cX4_split 28 = .ok (.invokevirtual 45, 3) := by decide +kernel
theorem dX4_split_31 : decode cX4_split 31 = .ok (.aload_n 0, 1) := by decide +kernel
theorem dX4_split_32 : decode cX4_split 32 = .ok (.iconst 0, 1) := by decide +kernel
theorem dX4_split_33 : decode cX4_split 33 = .ok (.invokevirtual 37, 3) := by decide +kernel
theorem dX4_split_36 : decode cX4_split 36 = .ok (.ireturn, 1) := by decide +kernel
theorem dX4_splitTo_0 : decode cX4_splitTo 0 = .ok (.iload_n 1, 1) := by decide +kernel
theorem dX4_splitTo_1 : decode cX4_splitTo 1 = .ok (.iconst 1, 1) := by decide +kernel
theorem dX4_splitTo_2 : decode cX4_splitTo 2 = .ok (.sipush 9999, 3) := by decide +kernel
theorem dX4_splitTo_5 : decode cX4_splitTo 5 = .ok (.invokestatic 30, 3) := by decide +kernel
theorem dX4_splitTo_8 : decode cX4_splitTo 8 = .ok (.ifCond .ne 5, 3) := by decide +kernel
theorem dX4_splitTo_11 : decode cX4_splitTo 11 = .ok (.iconst (-1), 1) := by decide +kernel
theorem dX4_splitTo_12 : decode cX4_splitTo 12 = .ok (.ireturn, 1) := by decide +kernel
theorem dX4_splitTo_13 : decode cX4_splitTo 13 = .ok (.aload_n 0, 1) := by decide +kernel
theorem dX4_splitTo_14 : decode cX4_splitTo 14 = .ok (.invokevirtual 34, 3) := by decide +kernel
theorem dX4_splitTo_17 : decode cX4_splitTo 17 = .ok (.iconst 0, 1) := by decide +kernel
theorem dX4_splitTo_18 : decode cX4_splitTo 18 = .ok (.istore_n 2, 1) := by decide +kernel
theorem dX4_splitTo_19 : decode cX4_splitTo 19 = .ok (.aload_n 0, 1) := by decide +kernel
theorem dX4_splitTo_20 : decode cX4_splitTo 20 = .ok (.iconst 0, 1) := by decide +kernel
theorem dX4_splitTo_21 : decode cX4_splitTo 21 = .ok (.invokevirtual 37, 3) := by decide +kernel
theorem dX4_splitTo_24 : decode cX4_splitTo 24 = .ok (.iload_n 1, 1) := by decide +kernel
theorem dX4_splitTo_25 : decode cX4_splitTo 25 = .ok (.if_icmp .le 14, 3) := by decide +kernel
theorem dX4_splitTo_28 : decode cX4_splitTo 28 = .ok (.aload_n 0, 1) := by decide +kernel
theorem dX4_splitTo_29 : decode cX4_splitTo 29 = .ok (.iconst 0, 1) := by decide +kernel
theorem dX4_splitTo_30 : decode cX4_splitTo 30 = .ok (.invokevirtual 45, 3) := by decide +kernel
theorem dX4_splitTo_33 : decode cX4_splitTo 33 = .ok (.iinc 2 1, 3) := by decide +kernel
theorem dX4_splitTo_36 : decode cX4_splitTo 36 = .ok (.goto (-17), 3) := by decide +kernel
theorem dX4_splitTo_39 : decode cX4_splitTo 39 = .ok (.iload_n 2, 1) := by decide +kernel
theorem dX4_splitTo_40 : decode cX4_splitTo 40 = .ok (.ireturn, 1) := by decide +kernel
theorem dX4_combine_0 : decode cX4_combine 0 = .ok (.iconst 0, 1) := by decide +kernel
theorem dX4_combine_1 : decode cX4_combine 1 = .ok (.istore_n 1, 1) := by decide +kernel
theorem dX4_combine_2 : decode cX4_combine 2 = .ok (.iload_n 1, 1) := by decide +kernel
theorem dX4_combine_3 : decode cX4_combine 3 = .ok (.bipush 10, 2) := by decide +kernel
theorem dX4_combine_5 : decode cX4_combine 5 = .ok (.if_icmp .ge 36, 3) := by decide +kernel
theorem dX4_combine_8 : decode cX4_combine 8 = .ok (.aload_n 0, 1) := by decide +kernel
theorem dX4_combine_9 : decode cX4_combine 9 = .ok (.getfield 7, 3) := by decide +kernel
theorem dX4_combine_12 : decode cX4_combine 12 = .ok (.iconst 0, 1) := by decide +kernel
theorem dX4_combine_13 : decode cX4_combine 13 = .ok (.iload_n 1, 1) := by decide +kernel
theorem dX4_combine_14 : decode cX4_combine 14 = .ok (.iadd, 1) := by decide +kernel
theorem dX4_combine_15 : decode cX4_combine 15 = .ok (.iaload, 1) := by decide +kernel
theorem dX4_combine_16 : decode cX4_combine 16 = .ok (.aload_n 0, 1) := by decide +kernel
theorem dX4_combine_17 : decode cX4_combine 17 = .ok (.getfield 7, 3) := by decide +kernel
theorem dX4_combine_20 : decode cX4_combine 20 = .ok (.bipush 10, 2) := by decide +kernel
theorem dX4_combine_22 : decode cX4_combine 22 = .ok (.iload_n 1, 1) := by decide +kernel
theorem dX4_combine_23 : decode cX4_combine 23 = .ok (.iadd, 1) := by decide +kernel
theorem dX4_combine_24 : decode cX4_combine 24 = .ok (.iaload, 1) := by decide +kernel
theorem dX4_combine_25 : decode cX4_combine 25 = .ok (.iadd, 1) := by decide +kernel
theorem dX4_combine_26 : decode cX4_combine 26 = .ok (.sipush 9999, 3) := by decide +kernel
theorem dX4_combine_29 : decode cX4_combine 29 = .ok (.if_icmp .le 6, 3) := by decide +kernel
theorem dX4_combine_32 : decode cX4_combine 32 = .ok (.bipush (-3), 2) := by decide +kernel
theorem dX4_combine_34 : decode cX4_combine 34 = .ok (.ireturn, 1) := by decide +kernel
theorem dX4_combine_35 : decode cX4_combine 35 = .ok (.iinc 1 1, 3) := by decide +kernel
theorem dX4_combine_38 : decode cX4_combine 38 = .ok (.goto (-36), 3) := by decide +kernel
theorem dX4_combine_41 : decode cX4_combine 41 = .ok (.aload_n 0, 1) := by decide +kernel
theorem dX4_combine_42 : decode cX4_combine 42 = .ok (.invokevirtual 34, 3) := by decide +kernel
theorem dX4_combine_45 : decode cX4_combine 45 = .ok (.iconst 0, 1) := by decide +kernel
theorem dX4_combine_46 : decode cX4_combine 46 = .ok (.istore_n 1, 1) := by decide +kernel
theorem dX4_combine_47 : decode cX4_combine 47 = .ok (.iload_n 1, 1) := by decide +kernel
theorem dX4_combine_48 : decode cX4_combine 48 = .ok (.bipush 10, 2) := by decide +kernel
theorem dX4_combine_50 : decode cX4_combine 50 = .ok (.if_icmp .ge 39, 3) := by decide +kernel
theorem dX4_combine_53 : decode cX4_combine 53 = .ok (.aload_n 0, 1) := by decide +kernel
theorem dX4_combine_54 : decode cX4_combine 54 = .ok (.getfield 7, 3) := by decide +kernel
theorem dX4_combine_57 : decode cX4_combine 57 = .ok (.iconst 0, 1) := by decide +kernel
theorem dX4_combine_58 : decode cX4_combine 58 = .ok (.iload_n 1, 1) := by decide +kernel
theorem dX4_combine_59 : decode cX4_combine 59 = .ok (.iadd, 1) := by decide +kernel
theorem dX4_combine_60 : decode cX4_combine 60 = .ok (.dup2, 1) := by decide +kernel
theorem dX4_combine_61 : decode cX4_combine 61 = .ok (.iaload, 1) := by decide +kernel
theorem dX4_combine_62 : decode cX4_combine 62 = .ok (.aload_n 0, 1) := by decide +kernel
theorem dX4_combine_63 : decode cX4_combine 63 = .ok (.getfield 7, 3) := by decide +kernel
theorem dX4_combine_66 : decode cX4_combine 66 = .ok (.bipush 10, 2) := by decide +kernel
theorem dX4_combine_68 : decode cX4_combine 68 = .ok (.iload_n 1, 1) := by decide +kernel
theorem dX4_combine_69 : decode cX4_combine 69 = .ok (.iadd, 1) := by decide +kernel
theorem dX4_combine_70 : decode cX4_combine 70 = .ok (.iaload, 1) := by decide +kernel
theorem dX4_combine_71 : decode cX4_combine 71 = .ok (.iadd, 1) := by decide +kernel
theorem dX4_combine_72 : decode cX4_combine 72 = .ok (.iastore, 1) := by decide +kernel
theorem dX4_combine_73 : decode cX4_combine 73 = .ok (.aload_n 0, 1) := by decide +kernel
theorem dX4_combine_74 : decode cX4_combine 74 = .ok (.getfield 7, 3) := by decide +kernel
theorem dX4_combine_77 : decode cX4_combine 77 = .ok (.bipush 10, 2) := by decide +kernel
theorem dX4_combine_79 : decode cX4_combine 79 = .ok (.iload_n 1, 1) := by decide +kernel
theorem dX4_combine_80 : decode cX4_combine 80 = .ok (.iadd, 1) := by decide +kernel
theorem dX4_combine_81 : decode cX4_combine 81 = .ok (.iconst 0, 1) := by decide +kernel
theorem dX4_combine_82 : decode cX4_combine 82 = .ok (.iastore, 1) := by decide +kernel
theorem dX4_combine_83 : decode cX4_combine 83 = .ok (.iinc 1 1, 3) := by decide +kernel
theorem dX4_combine_86 : decode cX4_combine 86 = .ok (.goto (-39), 3) := by decide +kernel
theorem dX4_combine_89 : decode cX4_combine 89 = .ok (.aload_n 0, 1) := by decide +kernel
theorem dX4_combine_90 : decode cX4_combine 90 = .ok (.iconst 0, 1) := by decide +kernel
theorem dX4_combine_91 : decode cX4_combine 91 = .ok (.invokevirtual 37, 3) := by decide +kernel
theorem dX4_combine_94 : decode cX4_combine 94 = .ok (.ireturn, 1) := by decide +kernel
theorem dX4_appendCharacter_0 : decode cX4_appendCharacter 0 = .ok (.iload_n 1, 1) := by decide +kernel
theorem dX4_appendCharacter_1 : decode cX4_appendCharacter 1 = .ok (.iconst 0, 1) := by decide +kernel
theorem dX4_appendCharacter_2 : decode cX4_appendCharacter 2 = .ok (.sipush 255, 3) := by decide +kernel
theorem dX4_appendCharacter_5 : decode cX4_appendCharacter 5 = .ok (.invokestatic 30, 3) := by decide +kernel
theorem dX4_appendCharacter_8 : decode cX4_appendCharacter 8 = .ok (.ifCond .ne 5, 3) := by decide +kernel
theorem dX4_appendCharacter_11 : decode cX4_appendCharacter 11 = .ok (.iconst (-1), 1) := by decide +kernel
theorem dX4_appendCharacter_12 : decode cX4_appendCharacter 12 = .ok (.ireturn, 1) := by decide +kernel
theorem dX4_appendCharacter_13 : decode cX4_appendCharacter 13 = .ok (.aload_n 0, 1) := by decide +kernel
theorem dX4_appendCharacter_14 : decode cX4_appendCharacter 14 = .ok (.getfield 49, 3) := by decide +kernel
theorem dX4_appendCharacter_17 : decode cX4_appendCharacter 17 = .ok (.bipush 80, 2) := by decide +kernel
theorem dX4_appendCharacter_19 : decode cX4_appendCharacter 19 = .ok (.if_icmp .ne 6, 3) := by decide +kernel
theorem dX4_appendCharacter_22 : decode cX4_appendCharacter 22 = .ok (.bipush (-3), 2) := by decide +kernel
theorem dX4_appendCharacter_24 : decode cX4_appendCharacter 24 = .ok (.ireturn, 1) := by decide +kernel
theorem dX4_appendCharacter_25 : decode cX4_appendCharacter 25 = .ok (.aload_n 0, 1) := by decide +kernel
theorem dX4_appendCharacter_26 : decode cX4_appendCharacter 26 = .ok (.getfield 16, 3) := by decide +kernel
theorem dX4_appendCharacter_29 : decode cX4_appendCharacter 29 = .ok (.aload_n 0, 1) := by decide +kernel
theorem dX4_appendCharacter_30 : decode cX4_appendCharacter 30 = .ok (.getfield 49, 3) := by decide +kernel
theorem dX4_appendCharacter_33 : decode cX4_appendCharacter 33 = .ok (.iload_n 1, 1) := by decide +kernel
theorem dX4_appendCharacter_34 : decode cX4_appendCharacter 34 = .ok (.i2b, 1) := by decide +kernel
theorem dX4_appendCharacter_35 : decode cX4_appendCharacter 35 = .ok (.bastore, 1) := by decide +kernel
theorem dX4_appendCharacter_36 : decode cX4_appendCharacter 36 = .ok (.aload_n 0, 1) := by decide +kernel
theorem dX4_appendCharacter_37 : decode cX4_appendCharacter 37 = .ok (.dup, 1) := by decide +kernel
theorem dX4_appendCharacter_38 : decode cX4_appendCharacter 38 = .ok (.getfield 49, 3) := by decide +kernel
theorem dX4_appendCharacter_41 : decode cX4_appendCharacter 41 = .ok (.iconst 1, 1) := by decide +kernel
theorem dX4_appendCharacter_42 : decode cX4_appendCharacter 42 = .ok (.iadd, 1) := by decide +kernel
theorem dX4_appendCharacter_43 : decode cX4_appendCharacter 43 = .ok (.putfield 49, 3) := by decide +kernel
theorem dX4_appendCharacter_46 : decode cX4_appendCharacter 46 = .ok (.aload_n 0, 1) := by decide +kernel
theorem dX4_appendCharacter_47 : decode cX4_appendCharacter 47 = .ok (.getfield 49, 3) := by decide +kernel
theorem dX4_appendCharacter_50 : decode cX4_appendCharacter 50 = .ok (.ireturn, 1) := by decide +kernel
theorem dX4_clearText_0 : decode cX4_clearText 0 = .ok (.aload_n 0, 1) := by decide +kernel
theorem dX4_clearText_1 : decode cX4_clearText 1 = .ok (.getfield 49, 3) := by decide +kernel
theorem dX4_clearText_4 : decode cX4_clearText 4 = .ok (.istore_n 1, 1) := by decide +kernel
theorem dX4_clearText_5 : decode cX4_clearText 5 = .ok (.aload_n 0, 1) := by decide +kernel
theorem dX4_clearText_6 : decode cX4_clearText 6 = .ok (.iconst 0, 1) := by decide +kernel
theorem dX4_clearText_7 : decode cX4_clearText 7 = .ok (.putfield 49, 3) := by decide +kernel
theorem dX4_clearText_10 : decode cX4_clearText 10 = .ok (.iload_n 1, 1) := by decide +kernel
theorem dX4_clearText_11 : decode cX4_clearText 11 = .ok (.ireturn, 1) := by decide +kernel
theorem dX4_here_0 : decode cX4_here 0 = .ok (.aload_n 0, 1) := by decide +kernel
theorem dX4_here_1 : decode cX4_here 1 = .ok (.getfield 52, 3) := by decide +kernel
theorem dX4_here_4 : decode cX4_here 4 = .ok (.aload_n 0, 1) := by decide +kernel
theorem dX4_here_5 : decode cX4_here 5 = .ok (.getfield 49, 3) := by decide +kernel
theorem dX4_here_8 : decode cX4_here 8 = .ok (.if_icmp .ge 30, 3) := by decide +kernel
theorem dX4_here_11 : decode cX4_here 11 = .ok (.aload_n 0, 1) := by decide +kernel
theorem dX4_here_12 : decode cX4_here 12 = .ok (.getfield 16, 3) := by decide +kernel
theorem dX4_here_15 : decode cX4_here 15 = .ok (.aload_n 0, 1) := by decide +kernel
theorem dX4_here_16 : decode cX4_here 16 = .ok (.getfield 52, 3) := by decide +kernel
theorem dX4_here_19 : decode cX4_here 19 = .ok (.baload, 1) := by decide +kernel
theorem dX4_here_20 : decode cX4_here 20 = .ok (.bipush 32, 2) := by decide +kernel
theorem dX4_here_22 : decode cX4_here 22 = .ok (.if_icmp .ne 16, 3) := by decide +kernel
theorem dX4_here_25 : decode cX4_here 25 = .ok (.aload_n 0, 1) := by decide +kernel
theorem dX4_here_26 : decode cX4_here 26 = .ok (.dup, 1) := by decide +kernel
theorem dX4_here_27 : decode cX4_here 27 = .ok (.getfield 52, 3) := by decide +kernel
theorem dX4_here_30 : decode cX4_here 30 = .ok (.iconst 1, 1) := by decide +kernel
theorem dX4_here_31 : decode cX4_here 31 = .ok (.iadd, 1) := by decide +kernel
theorem dX4_here_32 : decode cX4_here 32 = .ok (.putfield 52, 3) := by decide +kernel
theorem dX4_here_35 : decode cX4_here 35 = .ok (.goto (-35), 3) := by decide +kernel
theorem dX4_here_38 : decode cX4_here 38 = .ok (.aload_n 0, 1) := by decide +kernel
theorem dX4_here_39 : decode cX4_here 39 = .ok (.getfield 52, 3) := by decide +kernel
theorem dX4_here_42 : decode cX4_here 42 = .ok (.aload_n 0, 1) := by decide +kernel
theorem dX4_here_43 : decode cX4_here 43 = .ok (.getfield 49, 3) := by decide +kernel
theorem dX4_here_46 : decode cX4_here 46 = .ok (.if_icmp .ge 19, 3) := by decide +kernel
theorem dX4_here_49 : decode cX4_here 49 = .ok (.aload_n 0, 1) := by decide +kernel
theorem dX4_here_50 : decode cX4_here 50 = .ok (.getfield 16, 3) := by decide +kernel
theorem dX4_here_53 : decode cX4_here 53 = .ok (.aload_n 0, 1) := by decide +kernel
theorem dX4_here_54 : decode cX4_here 54 = .ok (.getfield 52, 3) := by decide +kernel
theorem dX4_here_57 : decode cX4_here 57 = .ok (.baload, 1) := by decide +kernel
theorem dX4_here_58 : decode cX4_here 58 = .ok (.sipush 255, 3) := by decide +kernel
theorem dX4_here_61 : decode cX4_here 61 = .ok (.iand, 1) := by decide +kernel
theorem dX4_here_62 : decode cX4_here 62 = .ok (.goto 4, 3) := by decide +kernel
theorem dX4_here_65 : decode cX4_here 65 = .ok (.iconst (-1), 1) := by decide +kernel
theorem dX4_here_66 : decode cX4_here 66 = .ok (.ireturn, 1) := by decide +kernel
theorem dX4_readsPair_0 : decode cX4_readsPair 0 = .ok (.aload_n 0, 1) := by decide +kernel
theorem dX4_readsPair_1 : decode cX4_readsPair 1 = .ok (.invokevirtual 55, 3) := by decide +kernel
theorem dX4_readsPair_4 : decode cX4_readsPair 4 = .ok (.bipush 48, 2) := by decide +kernel
theorem dX4_readsPair_6 : decode cX4_readsPair 6 = .ok (.isub, 1) := by decide +kernel
theorem dX4_readsPair_7 : decode cX4_readsPair 7 = .ok (.istore_n 1, 1) := by decide +kernel
theorem dX4_readsPair_8 : decode cX4_readsPair 8 = .ok (.iload_n 1, 1) := by decide +kernel
theorem dX4_readsPair_9 : decode cX4_readsPair 9 = .ok (.iconst 0, 1) := by decide +kernel
theorem dX4_readsPair_10 : decode cX4_readsPair 10 = .ok (.bipush 9, 2) := by decide +kernel
theorem dX4_readsPair_12 : decode cX4_readsPair 12 = .ok (.invokestatic 30, 3) := by decide +kernel
theorem dX4_readsPair_15 : decode cX4_readsPair 15 = .ok (.ifCond .eq 12, 3) := by decide +kernel
theorem dX4_readsPair_18 : decode cX4_readsPair 18 = .ok (.aload_n 0, 1) := by decide +kernel
theorem dX4_readsPair_19 : decode cX4_readsPair 19 = .ok (.getfield 23, 3) := by decide +kernel
theorem dX4_readsPair_22 : decode cX4_readsPair 22 = .ok (.iload_n 1, 1) := by decide +kernel
theorem dX4_readsPair_23 : decode cX4_readsPair 23 = .ok (.iaload, 1) := by decide +kernel
theorem dX4_readsPair_24 : decode cX4_readsPair 24 = .ok (.ifCond .lt 5, 3) := by decide +kernel
theorem dX4_readsPair_27 : decode cX4_readsPair 27 = .ok (.iconst 0, 1) := by decide +kernel
theorem dX4_readsPair_28 : decode cX4_readsPair 28 = .ok (.ireturn, 1) := by decide +kernel
theorem dX4_readsPair_29 : decode cX4_readsPair 29 = .ok (.aload_n 0, 1) := by decide +kernel
theorem dX4_readsPair_30 : decode cX4_readsPair 30 = .ok (.dup, 1) := by decide +kernel
theorem dX4_readsPair_31 : decode cX4_readsPair 31 = .ok (.getfield 52, 3) := by decide +kernel
theorem dX4_readsPair_34 : decode cX4_readsPair 34 = .ok (.iconst 1, 1) := by decide +kernel
theorem dX4_readsPair_35 : decode cX4_readsPair 35 = .ok (.iadd, 1) := by decide +kernel
theorem dX4_readsPair_36 : decode cX4_readsPair 36 = .ok (.putfield 52, 3) := by decide +kernel
theorem dX4_readsPair_39 : decode cX4_readsPair 39 = .ok (.aload_n 0, 1) := by decide +kernel
theorem dX4_readsPair_40 : decode cX4_readsPair 40 = .ok (.invokevirtual 55, 3) := by decide +kernel
theorem dX4_readsPair_43 : decode cX4_readsPair 43 = .ok (.bipush 58, 2) := by decide +kernel
theorem dX4_readsPair_45 : decode cX4_readsPair 45 = .ok (.if_icmp .eq 5, 3) := by decide +kernel
theorem dX4_readsPair_48 : decode cX4_readsPair 48 = .ok (.iconst 0, 1) := by decide +kernel
theorem dX4_readsPair_49 : decode cX4_readsPair 49 = .ok (.ireturn, 1) := by decide +kernel
theorem dX4_readsPair_50 : decode cX4_readsPair 50 = .ok (.aload_n 0, 1) := by decide +kernel
theorem dX4_readsPair_51 : decode cX4_readsPair 51 = .ok (.dup, 1) := by decide +kernel
theorem dX4_readsPair_52 : decode cX4_readsPair 52 = .ok (.getfield 52, 3) := by decide +kernel
theorem dX4_readsPair_55 : decode cX4_readsPair 55 = .ok (.iconst 1, 1) := by decide +kernel
theorem dX4_readsPair_56 : decode cX4_readsPair 56 = .ok (.iadd, 1) := by decide +kernel
theorem dX4_readsPair_57 : decode cX4_readsPair 57 = .ok (.putfield 52, 3) := by decide +kernel
theorem dX4_readsPair_60 : decode cX4_readsPair 60 = .ok (.aload_n 0, 1) := by decide +kernel
theorem dX4_readsPair_61 : decode cX4_readsPair 61 = .ok (.invokevirtual 55, 3) := by decide +kernel
theorem dX4_readsPair_64 : decode cX4_readsPair 64 = .ok (.istore_n 2, 1) := by decide +kernel
theorem dX4_readsPair_65 : decode cX4_readsPair 65 = .ok (.aload_n 0, 1) := by decide +kernel
theorem dX4_readsPair_66 : decode cX4_readsPair 66 = .ok (.getfield 52, 3) := by decide +kernel
theorem dX4_readsPair_69 : decode cX4_readsPair 69 = .ok (.istore_n 3, 1) := by decide +kernel
theorem dX4_readsPair_70 : decode cX4_readsPair 70 = .ok (.iconst 0, 1) := by decide +kernel
theorem dX4_readsPair_71 : decode cX4_readsPair 71 = .ok (.istore 4, 2) := by decide +kernel
theorem dX4_readsPair_73 : decode cX4_readsPair 73 = .ok (.aload_n 0, 1) := by decide +kernel
theorem dX4_readsPair_74 : decode cX4_readsPair 74 = .ok (.getfield 52, 3) := by decide +kernel
theorem dX4_readsPair_77 : decode cX4_readsPair 77 = .ok (.aload_n 0, 1) := by decide +kernel
theorem dX4_readsPair_78 : decode cX4_readsPair 78 = .ok (.getfield 49, 3) := by decide +kernel
theorem dX4_readsPair_81 : decode cX4_readsPair 81 = .ok (.if_icmp .ge 67, 3) := by decide +kernel
theorem dX4_readsPair_84 : decode cX4_readsPair 84 = .ok (.aload_n 0, 1) := by decide +kernel
theorem dX4_readsPair_85 : decode cX4_readsPair 85 = .ok (.getfield 16, 3) := by decide +kernel
theorem dX4_readsPair_88 : decode cX4_readsPair 88 = .ok (.aload_n 0, 1) := by decide +kernel
theorem dX4_readsPair_89 : decode cX4_readsPair 89 = .ok (.getfield 52, 3) := by decide +kernel
theorem dX4_readsPair_92 : decode cX4_readsPair 92 = .ok (.baload, 1) := by decide +kernel
theorem dX4_readsPair_93 : decode cX4_readsPair 93 = .ok (.bipush 48, 2) := by decide +kernel
theorem dX4_readsPair_95 : decode cX4_readsPair 95 = .ok (.bipush 57, 2) := by decide +kernel
theorem dX4_readsPair_97 : decode cX4_readsPair 97 = .ok (.invokestatic 30, 3) := by decide +kernel
theorem dX4_readsPair_100 : decode cX4_readsPair 100 = .ok (.ifCond .eq 48, 3) := by decide +kernel
theorem dX4_readsPair_103 : decode cX4_readsPair 103 = .ok (.iload 4, 2) := by decide +kernel
theorem dX4_readsPair_105 : decode cX4_readsPair 105 = .ok (.ldc 59, 2) := by decide +kernel
theorem dX4_readsPair_107 : decode cX4_readsPair 107 = .ok (.if_icmp .ge 24, 3) := by decide +kernel
theorem dX4_readsPair_110 : decode cX4_readsPair 110 = .ok (.bipush 10, 2) := by decide +kernel
theorem dX4_readsPair_112 : decode cX4_readsPair 112 = .ok (.iload 4, 2) := by decide +kernel
theorem dX4_readsPair_114 : decode cX4_readsPair 114 = .ok (.imul, 1) := by decide +kernel
theorem dX4_readsPair_115 : decode cX4_readsPair 115 = .ok (.aload_n 0, 1) := by decide +kernel
theorem dX4_readsPair_116 : decode cX4_readsPair 116 = .ok (.getfield 16, 3) := by decide +kernel
theorem dX4_readsPair_119 : decode cX4_readsPair 119 = .ok (.aload_n 0, 1) := by decide +kernel
theorem dX4_readsPair_120 : decode cX4_readsPair 120 = .ok (.getfield 52, 3) := by decide +kernel
theorem dX4_readsPair_123 : decode cX4_readsPair 123 = .ok (.baload, 1) := by decide +kernel
theorem dX4_readsPair_124 : decode cX4_readsPair 124 = .ok (.iadd, 1) := by decide +kernel
theorem dX4_readsPair_125 : decode cX4_readsPair 125 = .ok (.bipush 48, 2) := by decide +kernel
theorem dX4_readsPair_127 : decode cX4_readsPair 127 = .ok (.isub, 1) := by decide +kernel
theorem dX4_readsPair_128 : decode cX4_readsPair 128 = .ok (.goto 5, 3) := by decide +kernel
theorem dX4_readsPair_131 : decode cX4_readsPair 131 = .ok (.iload 4, 2) := by decide +kernel
theorem dX4_readsPair_133 : decode cX4_readsPair 133 = .ok (.istore 4, 2) := by decide +kernel
theorem dX4_readsPair_135 : decode cX4_readsPair 135 = .ok (.aload_n 0, 1) := by decide +kernel
theorem dX4_readsPair_136 : decode cX4_readsPair 136 = .ok (.dup, 1) := by decide +kernel
theorem dX4_readsPair_137 : decode cX4_readsPair 137 = .ok (.getfield 52, 3) := by decide +kernel
theorem dX4_readsPair_140 : decode cX4_readsPair 140 = .ok (.iconst 1, 1) := by decide +kernel
theorem dX4_readsPair_141 : decode cX4_readsPair 141 = .ok (.iadd, 1) := by decide +kernel
theorem dX4_readsPair_142 : decode cX4_readsPair 142 = .ok (.putfield 52, 3) := by decide +kernel
theorem dX4_readsPair_145 : decode cX4_readsPair 145 = .ok (.goto (-72), 3) := by decide +kernel
theorem dX4_readsPair_148 : decode cX4_readsPair 148 = .ok (.aload_n 0, 1) := by decide +kernel
theorem dX4_readsPair_149 : decode cX4_readsPair 149 = .ok (.getfield 52, 3) := by decide +kernel
theorem dX4_readsPair_152 : decode cX4_readsPair 152 = .ok (.iload_n 3, 1) := by decide +kernel
theorem dX4_readsPair_153 : decode cX4_readsPair 153 = .ok (.isub, 1) := by decide +kernel
theorem dX4_readsPair_154 : decode cX4_readsPair 154 = .ok (.iconst 1, 1) := by decide +kernel
theorem dX4_readsPair_155 : decode cX4_readsPair 155 = .ok (.iconst 4, 1) := by decide +kernel
theorem dX4_readsPair_156 : decode cX4_readsPair 156 = .ok (.invokestatic 30, 3) := by decide +kernel
theorem dX4_readsPair_159 : decode cX4_readsPair 159 = .ok (.ifCond .eq 23, 3) := by decide +kernel
theorem dX4_readsPair_162 : decode cX4_readsPair 162 = .ok (.iload_n 2, 1) := by decide +kernel
theorem dX4_readsPair_163 : decode cX4_readsPair 163 = .ok (.bipush 48, 2) := by decide +kernel
theorem dX4_readsPair_165 : decode cX4_readsPair 165 = .ok (.if_icmp .ne 13, 3) := by decide +kernel
theorem dX4_readsPair_168 : decode cX4_readsPair 168 = .ok (.aload_n 0, 1) := by decide +kernel
theorem dX4_readsPair_169 : decode cX4_readsPair 169 = .ok (.getfield 52, 3) := by decide +kernel
theorem dX4_readsPair_172 : decode cX4_readsPair 172 = .ok (.iload_n 3, 1) := by decide +kernel
theorem dX4_readsPair_173 : decode cX4_readsPair 173 = .ok (.iconst 1, 1) := by decide +kernel
theorem dX4_readsPair_174 : decode cX4_readsPair 174 = .ok (.iadd, 1) := by decide +kernel
theorem dX4_readsPair_175 : decode cX4_readsPair 175 = .ok (.if_icmp .ne 7, 3) := by decide +kernel
theorem dX4_readsPair_178 : decode cX4_readsPair 178 = .ok (.iconst 1, 1) := by decide +kernel
theorem dX4_readsPair_179 : decode cX4_readsPair 179 = .ok (.goto 4, 3) := by decide +kernel
theorem dX4_readsPair_182 : decode cX4_readsPair 182 = .ok (.iconst 0, 1) := by decide +kernel
theorem dX4_readsPair_183 : decode cX4_readsPair 183 = .ok (.istore 5, 2) := by decide +kernel
theorem dX4_readsPair_185 : decode cX4_readsPair 185 = .ok (.aload_n 0, 1) := by decide +kernel
theorem dX4_readsPair_186 : decode cX4_readsPair 186 = .ok (.getfield 23, 3) := by decide +kernel
theorem dX4_readsPair_189 : decode cX4_readsPair 189 = .ok (.iload_n 1, 1) := by decide +kernel
theorem dX4_readsPair_190 : decode cX4_readsPair 190 = .ok (.iload 5, 2) := by decide +kernel
theorem dX4_readsPair_192 : decode cX4_readsPair 192 = .ok (.ifCond .eq 8, 3) := by decide +kernel
theorem dX4_readsPair_195 : decode cX4_readsPair 195 = .ok (.iload 4, 2) := by decide +kernel
theorem dX4_readsPair_197 : decode cX4_readsPair 197 = .ok (.goto 4, 3) := by decide +kernel
theorem dX4_readsPair_200 : decode cX4_readsPair 200 = .ok (.iconst (-1), 1) := by decide +kernel
theorem dX4_readsPair_201 : decode cX4_readsPair 201 = .ok (.iastore, 1) := by decide +kernel
theorem dX4_readsPair_202 : decode cX4_readsPair 202 = .ok (.aload_n 0, 1) := by decide +kernel
theorem dX4_readsPair_203 : decode cX4_readsPair 203 = .ok (.iload 5, 2) := by decide +kernel
theorem dX4_readsPair_205 : decode cX4_readsPair 205 = .ok (.ifCond .eq 10, 3) := by decide +kernel
theorem dX4_readsPair_208 : decode cX4_readsPair 208 = .ok (.aload_n 0, 1) := by decide +kernel
theorem dX4_readsPair_209 : decode cX4_readsPair 209 = .ok (.getfield 52, 3) := by decide +kernel
theorem dX4_readsPair_212 : decode cX4_readsPair 212 = .ok (.goto 4, 3) := by decide +kernel
theorem dX4_readsPair_215 : decode cX4_readsPair 215 = .ok (.iload_n 3, 1) := by decide +kernel
theorem dX4_readsPair_216 : decode cX4_readsPair 216 = .ok (.putfield 52, 3) := by decide +kernel
theorem dX4_readsPair_219 : decode cX4_readsPair 219 = .ok (.iload 5, 2) := by decide +kernel
theorem dX4_readsPair_221 : decode cX4_readsPair 221 = .ok (.ireturn, 1) := by decide +kernel
theorem dX4_reads_0 : decode cX4_reads 0 = .ok (.aload_n 0, 1) := by decide +kernel
theorem dX4_reads_1 : decode cX4_reads 1 = .ok (.iconst 0, 1) := by decide +kernel
theorem dX4_reads_2 : decode cX4_reads 2 = .ok (.putfield 52, 3) := by decide +kernel
theorem dX4_reads_5 : decode cX4_reads 5 = .ok (.iconst 0, 1) := by decide +kernel
theorem dX4_reads_6 : decode cX4_reads 6 = .ok (.istore_n 1, 1) := by decide +kernel
theorem dX4_reads_7 : decode cX4_reads 7 = .ok (.iload_n 1, 1) := by decide +kernel
theorem dX4_reads_8 : decode cX4_reads 8 = .ok (.bipush 10, 2) := by decide +kernel
theorem dX4_reads_10 : decode cX4_reads 10 = .ok (.if_icmp .ge 16, 3) := by decide +kernel
theorem dX4_reads_13 : decode cX4_reads 13 = .ok (.aload_n 0, 1) := by decide +kernel
theorem dX4_reads_14 : decode cX4_reads 14 = .ok (.getfield 23, 3) := by decide +kernel
theorem dX4_reads_17 : decode cX4_reads 17 = .ok (.iload_n 1, 1) := by decide +kernel
theorem dX4_reads_18 : decode cX4_reads 18 = .ok (.iconst (-1), 1) := by decide +kernel
theorem dX4_reads_19 : decode cX4_reads 19 = .ok (.iastore, 1) := by decide +kernel
theorem dX4_reads_20 : decode cX4_reads 20 = .ok (.iinc 1 1, 3) := by decide +kernel
theorem dX4_reads_23 : decode cX4_reads 23 = .ok (.goto (-16), 3) := by decide +kernel
theorem dX4_reads_26 : decode cX4_reads 26 = .ok (.aload_n 0, 1) := by decide +kernel
theorem dX4_reads_27 : decode cX4_reads 27 = .ok (.invokevirtual 55, 3) := by decide +kernel
theorem dX4_reads_30 : decode cX4_reads 30 = .ok (.ifCond .lt 7, 3) := by decide +kernel
theorem dX4_reads_33 : decode cX4_reads 33 = .ok (.iconst 1, 1) := by decide +kernel
theorem dX4_reads_34 : decode cX4_reads 34 = .ok (.goto 4, 3) := by decide +kernel
theorem dX4_reads_37 : decode cX4_reads 37 = .ok (.iconst 0, 1) := by decide +kernel
theorem dX4_reads_38 : decode cX4_reads 38 = .ok (.istore_n 1, 1) := by decide +kernel
theorem dX4_reads_39 : decode cX4_reads 39 = .ok (.iload_n 1, 1) := by decide +kernel
theorem dX4_reads_40 : decode cX4_reads 40 = .ok (.ifCond .eq 61, 3) := by decide +kernel
theorem dX4_reads_43 : decode cX4_reads 43 = .ok (.aload_n 0, 1) := by decide +kernel
theorem dX4_reads_44 : decode cX4_reads 44 = .ok (.invokevirtual 60, 3) := by decide +kernel
theorem dX4_reads_47 : decode cX4_reads 47 = .ok (.ifCond .ne 5, 3) := by decide +kernel
theorem dX4_reads_50 : decode cX4_reads 50 = .ok (.iconst 0, 1) := by decide +kernel
theorem dX4_reads_51 : decode cX4_reads 51 = .ok (.ireturn, 1) := by decide +kernel
theorem dX4_reads_52 : decode cX4_reads 52 = .ok (.aload_n 0, 1) := by decide +kernel
theorem dX4_reads_53 : decode cX4_reads 53 = .ok (.invokevirtual 55, 3) := by decide +kernel
theorem dX4_reads_56 : decode cX4_reads 56 = .ok (.ifCond .lt 7, 3) := by decide +kernel
theorem dX4_reads_59 : decode cX4_reads 59 = .ok (.iconst 1, 1) := by decide +kernel
theorem dX4_reads_60 : decode cX4_reads 60 = .ok (.goto 4, 3) := by decide +kernel
theorem dX4_reads_63 : decode cX4_reads 63 = .ok (.iconst 0, 1) := by decide +kernel
theorem dX4_reads_64 : decode cX4_reads 64 = .ok (.istore_n 1, 1) := by decide +kernel
theorem dX4_reads_65 : decode cX4_reads 65 = .ok (.iload_n 1, 1) := by decide +kernel
theorem dX4_reads_66 : decode cX4_reads 66 = .ok (.ifCond .eq 14, 3) := by decide +kernel
theorem dX4_reads_69 : decode cX4_reads 69 = .ok (.aload_n 0, 1) := by decide +kernel
theorem dX4_reads_70 : decode cX4_reads 70 = .ok (.invokevirtual 55, 3) := by decide +kernel
theorem dX4_reads_73 : decode cX4_reads 73 = .ok (.bipush 44, 2) := by decide +kernel
theorem dX4_reads_75 : decode cX4_reads 75 = .ok (.if_icmp .eq 5, 3) := by decide +kernel
theorem dX4_reads_78 : decode cX4_reads 78 = .ok (.iconst 0, 1) := by decide +kernel
theorem dX4_reads_79 : decode cX4_reads 79 = .ok (.ireturn, 1) := by decide +kernel
theorem dX4_reads_80 : decode cX4_reads 80 = .ok (.aload_n 0, 1) := by decide +kernel
theorem dX4_reads_81 : decode cX4_reads 81 = .ok (.dup, 1) := by decide +kernel
theorem dX4_reads_82 : decode cX4_reads 82 = .ok (.getfield 52, 3) := by decide +kernel
theorem dX4_reads_85 : decode cX4_reads 85 = .ok (.iload_n 1, 1) := by decide +kernel
theorem dX4_reads_86 : decode cX4_reads 86 = .ok (.ifCond .eq 7, 3) := by decide +kernel
theorem dX4_reads_89 : decode cX4_reads 89 = .ok (.iconst 1, 1) := by decide +kernel
theorem dX4_reads_90 : decode cX4_reads 90 = .ok (.goto 4, 3) := by decide +kernel
theorem dX4_reads_93 : decode cX4_reads 93 = .ok (.iconst 0, 1) := by decide +kernel
theorem dX4_reads_94 : decode cX4_reads 94 = .ok (.iadd, 1) := by decide +kernel
theorem dX4_reads_95 : decode cX4_reads 95 = .ok (.putfield 52, 3) := by decide +kernel
theorem dX4_reads_98 : decode cX4_reads 98 = .ok (.goto (-59), 3) := by decide +kernel
theorem dX4_reads_101 : decode cX4_reads 101 = .ok (.iconst 1, 1) := by decide +kernel
theorem dX4_reads_102 : decode cX4_reads 102 = .ok (.ireturn, 1) := by decide +kernel
theorem dX4_load_0 : decode cX4_load 0 = .ok (.aload_n 0, 1) := by decide +kernel
theorem dX4_load_1 : decode cX4_load 1 = .ok (.invokevirtual 64, 3) := by decide +kernel
theorem dX4_load_4 : decode cX4_load 4 = .ok (.ifCond .ne 11, 3) := by decide +kernel
theorem dX4_load_7 : decode cX4_load 7 = .ok (.bipush (-10), 2) := by decide +kernel
theorem dX4_load_9 : decode cX4_load 9 = .ok (.aload_n 0, 1) := by decide +kernel
theorem dX4_load_10 : decode cX4_load 10 = .ok (.getfield 52, 3) := by decide +kernel
theorem dX4_load_13 : decode cX4_load 13 = .ok (.isub, 1) := by decide +kernel
theorem dX4_load_14 : decode cX4_load 14 = .ok (.ireturn, 1) := by decide +kernel
theorem dX4_load_15 : decode cX4_load 15 = .ok (.aload_n 0, 1) := by decide +kernel
theorem dX4_load_16 : decode cX4_load 16 = .ok (.invokevirtual 34, 3) := by decide +kernel
theorem dX4_load_19 : decode cX4_load 19 = .ok (.iconst 0, 1) := by decide +kernel
theorem dX4_load_20 : decode cX4_load 20 = .ok (.istore_n 1, 1) := by decide +kernel
theorem dX4_load_21 : decode cX4_load 21 = .ok (.iload_n 1, 1) := by decide +kernel
theorem dX4_load_22 : decode cX4_load 22 = .ok (.bipush 10, 2) := by decide +kernel
theorem dX4_load_24 : decode cX4_load 24 = .ok (.if_icmp .ge 36, 3) := by decide +kernel
theorem dX4_load_27 : decode cX4_load 27 = .ok (.aload_n 0, 1) := by decide +kernel
theorem dX4_load_28 : decode cX4_load 28 = .ok (.getfield 7, 3) := by decide +kernel
theorem dX4_load_31 : decode cX4_load 31 = .ok (.iconst 0, 1) := by decide +kernel
theorem dX4_load_32 : decode cX4_load 32 = .ok (.iload_n 1, 1) := by decide +kernel
theorem dX4_load_33 : decode cX4_load 33 = .ok (.iadd, 1) := by decide +kernel
theorem dX4_load_34 : decode cX4_load 34 = .ok (.aload_n 0, 1) := by decide +kernel
theorem dX4_load_35 : decode cX4_load 35 = .ok (.getfield 23, 3) := by decide +kernel
theorem dX4_load_38 : decode cX4_load 38 = .ok (.iload_n 1, 1) := by decide +kernel
theorem dX4_load_39 : decode cX4_load 39 = .ok (.iaload, 1) := by decide +kernel
theorem dX4_load_40 : decode cX4_load 40 = .ok (.ifCond .ge 7, 3) := by decide +kernel
theorem dX4_load_43 : decode cX4_load 43 = .ok (.iconst 0, 1) := by decide +kernel
theorem dX4_load_44 : decode cX4_load 44 = .ok (.goto 9, 3) := by decide +kernel
theorem dX4_load_47 : decode cX4_load 47 = .ok (.aload_n 0, 1) := by decide +kernel
theorem dX4_load_48 : decode cX4_load 48 = .ok (.getfield 23, 3) := by decide +kernel
theorem dX4_load_51 : decode cX4_load 51 = .ok (.iload_n 1, 1) := by decide +kernel
theorem dX4_load_52 : decode cX4_load 52 = .ok (.iaload, 1) := by decide +kernel
theorem dX4_load_53 : decode cX4_load 53 = .ok (.iastore, 1) := by decide +kernel
theorem dX4_load_54 : decode cX4_load 54 = .ok (.iinc 1 1, 3) := by decide +kernel
theorem dX4_load_57 : decode cX4_load 57 = .ok (.goto (-36), 3) := by decide +kernel
theorem dX4_load_60 : decode cX4_load 60 = .ok (.aload_n 0, 1) := by decide +kernel
theorem dX4_load_61 : decode cX4_load 61 = .ok (.iconst 0, 1) := by decide +kernel
theorem dX4_load_62 : decode cX4_load 62 = .ok (.putfield 49, 3) := by decide +kernel
theorem dX4_load_65 : decode cX4_load 65 = .ok (.aload_n 0, 1) := by decide +kernel
theorem dX4_load_66 : decode cX4_load 66 = .ok (.iconst 0, 1) := by decide +kernel
theorem dX4_load_67 : decode cX4_load 67 = .ok (.invokevirtual 37, 3) := by decide +kernel
theorem dX4_load_70 : decode cX4_load 70 = .ok (.ireturn, 1) := by decide +kernel
theorem dX4_at_0 : decode cX4_at 0 = .ok (.bipush 53, 2) := by decide +kernel
theorem dX4_at_2 : decode cX4_at 2 = .ok (.bipush 12, 2) := by decide +kernel
theorem dX4_at_4 : decode cX4_at 4 = .ok (.iload_n 1, 1) := by decide +kernel
theorem dX4_at_5 : decode cX4_at 5 = .ok (.imul, 1) := by decide +kernel
theorem dX4_at_6 : decode cX4_at 6 = .ok (.iadd, 1) := by decide +kernel
theorem dX4_at_7 : decode cX4_at 7 = .ok (.ireturn, 1) := by decide +kernel
theorem dX4_trayWith_0 : decode cX4_trayWith 0 = .ok (.iconst 0, 1) := by decide +kernel
theorem dX4_trayWith_1 : decode cX4_trayWith 1 = .ok (.istore_n 2, 1) := by decide +kernel
theorem dX4_trayWith_2 : decode cX4_trayWith 2 = .ok (.iload_n 2, 1) := by decide +kernel
theorem dX4_trayWith_3 : decode cX4_trayWith 3 = .ok (.aload_n 0, 1) := by decide +kernel
theorem dX4_trayWith_4 : decode cX4_trayWith 4 = .ok (.getfield 7, 3) := by decide +kernel
theorem dX4_trayWith_7 : decode cX4_trayWith 7 = .ok (.bipush 24, 2) := by decide +kernel
theorem dX4_trayWith_9 : decode cX4_trayWith 9 = .ok (.iaload, 1) := by decide +kernel
theorem dX4_trayWith_10 : decode cX4_trayWith 10 = .ok (.if_icmp .ge 24, 3) := by decide +kernel
theorem dX4_trayWith_13 : decode cX4_trayWith 13 = .ok (.aload_n 0, 1) := by decide +kernel
theorem dX4_trayWith_14 : decode cX4_trayWith 14 = .ok (.getfield 7, 3) := by decide +kernel
theorem dX4_trayWith_17 : decode cX4_trayWith 17 = .ok (.bipush 25, 2) := by decide +kernel
theorem dX4_trayWith_19 : decode cX4_trayWith 19 = .ok (.iload_n 2, 1) := by decide +kernel
theorem dX4_trayWith_20 : decode cX4_trayWith 20 = .ok (.iadd, 1) := by decide +kernel
theorem dX4_trayWith_21 : decode cX4_trayWith 21 = .ok (.iaload, 1) := by decide +kernel
theorem dX4_trayWith_22 : decode cX4_trayWith 22 = .ok (.iload_n 1, 1) := by decide +kernel
theorem dX4_trayWith_23 : decode cX4_trayWith 23 = .ok (.if_icmp .ne 5, 3) := by decide +kernel
theorem dX4_trayWith_26 : decode cX4_trayWith 26 = .ok (.iload_n 2, 1) := by decide +kernel
theorem dX4_trayWith_27 : decode cX4_trayWith 27 = .ok (.ireturn, 1) := by decide +kernel
theorem dX4_trayWith_28 : decode cX4_trayWith 28 = .ok (.iinc 2 1, 3) := by decide +kernel
theorem dX4_trayWith_31 : decode cX4_trayWith 31 = .ok (.goto (-29), 3) := by decide +kernel
theorem dX4_trayWith_34 : decode cX4_trayWith 34 = .ok (.bipush (-9), 2) := by decide +kernel
theorem dX4_trayWith_36 : decode cX4_trayWith 36 = .ok (.ireturn, 1) := by decide +kernel
theorem dX4_ends_0 : decode cX4_ends 0 = .ok (.bipush 49, 2) := by decide +kernel
theorem dX4_ends_2 : decode cX4_ends 2 = .ok (.istore_n 1, 1) := by decide +kernel
theorem dX4_ends_3 : decode cX4_ends 3 = .ok (.iload_n 1, 1) := by decide +kernel
theorem dX4_ends_4 : decode cX4_ends 4 = .ok (.sipush 137, 3) := by decide +kernel
theorem dX4_ends_7 : decode cX4_ends 7 = .ok (.if_icmp .ge 16, 3) := by decide +kernel
theorem dX4_ends_10 : decode cX4_ends 10 = .ok (.aload_n 0, 1) := by decide +kernel
theorem dX4_ends_11 : decode cX4_ends 11 = .ok (.getfield 7, 3) := by decide +kernel
theorem dX4_ends_14 : decode cX4_ends 14 = .ok (.iload_n 1, 1) := by decide +kernel
theorem dX4_ends_15 : decode cX4_ends 15 = .ok (.iconst 0, 1) := by decide +kernel
theorem dX4_ends_16 : decode cX4_ends 16 = .ok (.iastore, 1) := by decide +kernel
theorem dX4_ends_17 : decode cX4_ends 17 = .ok (.iinc 1 1, 3) := by decide +kernel
theorem dX4_ends_20 : decode cX4_ends 20 = .ok (.goto (-17), 3) := by decide +kernel
theorem dX4_ends_23 : decode cX4_ends 23 = .ok (.return_, 1) := by decide +kernel
theorem dX4_addSieve_0 : decode cX4_addSieve 0 = .ok (.iload_n 1, 1) := by decide +kernel
theorem dX4_addSieve_1 : decode cX4_addSieve 1 = .ok (.iconst 1, 1) := by decide +kernel
theorem dX4_addSieve_2 : decode cX4_addSieve 2 = .ok (.bipush 9, 2) := by decide +kernel
theorem dX4_addSieve_4 : decode cX4_addSieve 4 = .ok (.invokestatic 30, 3) := by decide +kernel
theorem dX4_addSieve_7 : decode cX4_addSieve 7 = .ok (.ifCond .ne 5, 3) := by decide +kernel
theorem dX4_addSieve_10 : decode cX4_addSieve 10 = .ok (.iconst (-1), 1) := by decide +kernel
theorem dX4_addSieve_11 : decode cX4_addSieve 11 = .ok (.ireturn, 1) := by decide +kernel
theorem dX4_addSieve_12 : decode cX4_addSieve 12 = .ok (.aload_n 0, 1) := by decide +kernel
theorem dX4_addSieve_13 : decode cX4_addSieve 13 = .ok (.iload_n 1, 1) := by decide +kernel
theorem dX4_addSieve_14 : decode cX4_addSieve 14 = .ok (.invokevirtual 67, 3) := by decide +kernel
theorem dX4_addSieve_17 : decode cX4_addSieve 17 = .ok (.bipush (-9), 2) := by decide +kernel
theorem dX4_addSieve_19 : decode cX4_addSieve 19 = .ok (.if_icmp .eq 6, 3) := by decide +kernel
theorem dX4_addSieve_22 : decode cX4_addSieve 22 = .ok (.bipush (-2), 2) := by decide +kernel
theorem dX4_addSieve_24 : decode cX4_addSieve 24 = .ok (.ireturn, 1) := by decide +kernel
theorem dX4_addSieve_25 : decode cX4_addSieve 25 = .ok (.aload_n 0, 1) := by decide +kernel
theorem dX4_addSieve_26 : decode cX4_addSieve 26 = .ok (.getfield 7, 3) := by decide +kernel
theorem dX4_addSieve_29 : decode cX4_addSieve 29 = .ok (.bipush 24, 2) := by decide +kernel
theorem dX4_addSieve_31 : decode cX4_addSieve 31 = .ok (.iaload, 1) := by decide +kernel
theorem dX4_addSieve_32 : decode cX4_addSieve 32 = .ok (.bipush 6, 2) := by decide +kernel
theorem dX4_addSieve_34 : decode cX4_addSieve 34 = .ok (.if_icmp .ne 6, 3) := by decide +kernel
theorem dX4_addSieve_37 : decode cX4_addSieve 37 = .ok (.bipush (-3), 2) := by decide +kernel
theorem dX4_addSieve_39 : decode cX4_addSieve 39 = .ok (.ireturn, 1) := by decide +kernel
theorem dX4_addSieve_40 : decode cX4_addSieve 40 = .ok (.aload_n 0, 1) := by decide +kernel
theorem dX4_addSieve_41 : decode cX4_addSieve 41 = .ok (.invokevirtual 34, 3) := by decide +kernel
theorem dX4_addSieve_44 : decode cX4_addSieve 44 = .ok (.aload_n 0, 1) := by decide +kernel
theorem dX4_addSieve_45 : decode cX4_addSieve 45 = .ok (.invokevirtual 70, 3) := by decide +kernel
theorem dX4_addSieve_48 : decode cX4_addSieve 48 = .ok (.aload_n 0, 1) := by decide +kernel
theorem dX4_addSieve_49 : decode cX4_addSieve 49 = .ok (.getfield 7, 3) := by decide +kernel
theorem dX4_addSieve_52 : decode cX4_addSieve 52 = .ok (.bipush 24, 2) := by decide +kernel
theorem dX4_addSieve_54 : decode cX4_addSieve 54 = .ok (.iaload, 1) := by decide +kernel
theorem dX4_addSieve_55 : decode cX4_addSieve 55 = .ok (.istore_n 2, 1) := by decide +kernel
theorem dX4_addSieve_56 : decode cX4_addSieve 56 = .ok (.iload_n 2, 1) := by decide +kernel
theorem dX4_addSieve_57 : decode cX4_addSieve 57 = .ok (.ifCond .le 44, 3) := by decide +kernel
theorem dX4_addSieve_60 : decode cX4_addSieve 60 = .ok (.aload_n 0, 1) := by decide +kernel
theorem dX4_addSieve_61 : decode cX4_addSieve 61 = .ok (.getfield 7, 3) := by decide +kernel
theorem dX4_addSieve_64 : decode cX4_addSieve 64 = .ok (.bipush 25, 2) := by decide +kernel
theorem dX4_addSieve_66 : decode cX4_addSieve 66 = .ok (.iload_n 2, 1) := by decide +kernel
theorem dX4_addSieve_67 : decode cX4_addSieve 67 = .ok (.iadd, 1) := by decide +kernel
theorem dX4_addSieve_68 : decode cX4_addSieve 68 = .ok (.iconst 1, 1) := by decide +kernel
theorem dX4_addSieve_69 : decode cX4_addSieve 69 = .ok (.isub, 1) := by decide +kernel
theorem dX4_addSieve_70 : decode cX4_addSieve 70 = .ok (.iaload, 1) := by decide +kernel
theorem dX4_addSieve_71 : decode cX4_addSieve 71 = .ok (.iload_n 1, 1) := by decide +kernel
theorem dX4_addSieve_72 : decode cX4_addSieve 72 = .ok (.if_icmp .ge 29, 3) := by decide +kernel
theorem dX4_addSieve_75 : decode cX4_addSieve 75 = .ok (.aload_n 0, 1) := by decide +kernel
theorem dX4_addSieve_76 : decode cX4_addSieve 76 = .ok (.getfield 7, 3) := by decide +kernel
theorem dX4_addSieve_79 : decode cX4_addSieve 79 = .ok (.bipush 25, 2) := by decide +kernel
theorem dX4_addSieve_81 : decode cX4_addSieve 81 = .ok (.iload_n 2, 1) := by decide +kernel
theorem dX4_addSieve_82 : decode cX4_addSieve 82 = .ok (.iadd, 1) := by decide +kernel
theorem dX4_addSieve_83 : decode cX4_addSieve 83 = .ok (.aload_n 0, 1) := by decide +kernel
theorem dX4_addSieve_84 : decode cX4_addSieve 84 = .ok (.getfield 7, 3) := by decide +kernel
theorem dX4_addSieve_87 : decode cX4_addSieve 87 = .ok (.bipush 25, 2) := by decide +kernel
theorem dX4_addSieve_89 : decode cX4_addSieve 89 = .ok (.iload_n 2, 1) := by decide +kernel
theorem dX4_addSieve_90 : decode cX4_addSieve 90 = .ok (.iadd, 1) := by decide +kernel
theorem dX4_addSieve_91 : decode cX4_addSieve 91 = .ok (.iconst 1, 1) := by decide +kernel
theorem dX4_addSieve_92 : decode cX4_addSieve 92 = .ok (.isub, 1) := by decide +kernel
theorem dX4_addSieve_93 : decode cX4_addSieve 93 = .ok (.iaload, 1) := by decide +kernel
theorem dX4_addSieve_94 : decode cX4_addSieve 94 = .ok (.iastore, 1) := by decide +kernel
theorem dX4_addSieve_95 : decode cX4_addSieve 95 = .ok (.iinc 2 (-1), 3) := by decide +kernel
theorem dX4_addSieve_98 : decode cX4_addSieve 98 = .ok (.goto (-42), 3) := by decide +kernel
theorem dX4_addSieve_101 : decode cX4_addSieve 101 = .ok (.aload_n 0, 1) := by decide +kernel
theorem dX4_addSieve_102 : decode cX4_addSieve 102 = .ok (.getfield 7, 3) := by decide +kernel
theorem dX4_addSieve_105 : decode cX4_addSieve 105 = .ok (.bipush 25, 2) := by decide +kernel
theorem dX4_addSieve_107 : decode cX4_addSieve 107 = .ok (.iload_n 2, 1) := by decide +kernel
theorem dX4_addSieve_108 : decode cX4_addSieve 108 = .ok (.iadd, 1) := by decide +kernel
theorem dX4_addSieve_109 : decode cX4_addSieve 109 = .ok (.iload_n 1, 1) := by decide +kernel
theorem dX4_addSieve_110 : decode cX4_addSieve 110 = .ok (.iastore, 1) := by decide +kernel
theorem dX4_addSieve_111 : decode cX4_addSieve 111 = .ok (.aload_n 0, 1) := by decide +kernel
theorem dX4_addSieve_112 : decode cX4_addSieve 112 = .ok (.getfield 7, 3) := by decide +kernel
theorem dX4_addSieve_115 : decode cX4_addSieve 115 = .ok (.bipush 24, 2) := by decide +kernel
theorem dX4_addSieve_117 : decode cX4_addSieve 117 = .ok (.dup2, 1) := by decide +kernel
theorem dX4_addSieve_118 : decode cX4_addSieve 118 = .ok (.iaload, 1) := by decide +kernel
theorem dX4_addSieve_119 : decode cX4_addSieve 119 = .ok (.iconst 1, 1) := by decide +kernel
theorem dX4_addSieve_120 : decode cX4_addSieve 120 = .ok (.iadd, 1) := by decide +kernel
theorem dX4_addSieve_121 : decode cX4_addSieve 121 = .ok (.iastore, 1) := by decide +kernel
theorem dX4_addSieve_122 : decode cX4_addSieve 122 = .ok (.iload_n 2, 1) := by decide +kernel
theorem dX4_addSieve_123 : decode cX4_addSieve 123 = .ok (.ireturn, 1) := by decide +kernel
theorem dX4_removeSieve_0 : decode cX4_removeSieve 0 = .ok (.iload_n 1, 1) := by decide +kernel
theorem dX4_removeSieve_1 : decode cX4_removeSieve 1 = .ok (.iconst 1, 1) := by decide +kernel
theorem dX4_removeSieve_2 : decode cX4_removeSieve 2 = .ok (.bipush 9, 2) := by decide +kernel
theorem dX4_removeSieve_4 : decode cX4_removeSieve 4 = .ok (.invokestatic 30, 3) := by decide +kernel
theorem dX4_removeSieve_7 : decode cX4_removeSieve 7 = .ok (.ifCond .ne 5, 3) := by decide +kernel
theorem dX4_removeSieve_10 : decode cX4_removeSieve 10 = .ok (.iconst (-1), 1) := by decide +kernel
theorem dX4_removeSieve_11 : decode cX4_removeSieve 11 = .ok (.ireturn, 1) := by decide +kernel
theorem dX4_removeSieve_12 : decode cX4_removeSieve 12 = .ok (.aload_n 0, 1) := by decide +kernel
theorem dX4_removeSieve_13 : decode cX4_removeSieve 13 = .ok (.iload_n 1, 1) := by decide +kernel
theorem dX4_removeSieve_14 : decode cX4_removeSieve 14 = .ok (.invokevirtual 67, 3) := by decide +kernel
theorem dX4_removeSieve_17 : decode cX4_removeSieve 17 = .ok (.istore_n 2, 1) := by decide +kernel
theorem dX4_removeSieve_18 : decode cX4_removeSieve 18 = .ok (.iload_n 2, 1) := by decide +kernel
theorem dX4_removeSieve_19 : decode cX4_removeSieve 19 = .ok (.bipush (-9), 2) := by decide +kernel
theorem dX4_removeSieve_21 : decode cX4_removeSieve 21 = .ok (.if_icmp .ne 6, 3) := by decide +kernel
theorem dX4_removeSieve_24 : decode cX4_removeSieve 24 = .ok (.bipush (-2), 2) := by decide +kernel
theorem dX4_removeSieve_26 : decode cX4_removeSieve 26 = .ok (.ireturn, 1) := by decide +kernel
theorem dX4_removeSieve_27 : decode cX4_removeSieve 27 = .ok (.aload_n 0, 1) := by decide +kernel
theorem dX4_removeSieve_28 : decode cX4_removeSieve 28 = .ok (.invokevirtual 34, 3) := by decide +kernel
theorem dX4_removeSieve_31 : decode cX4_removeSieve 31 = .ok (.aload_n 0, 1) := by decide +kernel
theorem dX4_removeSieve_32 : decode cX4_removeSieve 32 = .ok (.invokevirtual 70, 3) := by decide +kernel
theorem dX4_removeSieve_35 : decode cX4_removeSieve 35 = .ok (.aload_n 0, 1) := by decide +kernel
theorem dX4_removeSieve_36 : decode cX4_removeSieve 36 = .ok (.getfield 7, 3) := by decide +kernel
theorem dX4_removeSieve_39 : decode cX4_removeSieve 39 = .ok (.bipush 24, 2) := by decide +kernel
theorem dX4_removeSieve_41 : decode cX4_removeSieve 41 = .ok (.dup2, 1) := by decide +kernel
theorem dX4_removeSieve_42 : decode cX4_removeSieve 42 = .ok (.iaload, 1) := by decide +kernel
theorem dX4_removeSieve_43 : decode cX4_removeSieve 43 = .ok (.iconst 1, 1) := by decide +kernel
theorem dX4_removeSieve_44 : decode cX4_removeSieve 44 = .ok (.isub, 1) := by decide +kernel
theorem dX4_removeSieve_45 : decode cX4_removeSieve 45 = .ok (.iastore, 1) := by decide +kernel
theorem dX4_removeSieve_46 : decode cX4_removeSieve 46 = .ok (.iload_n 2, 1) := by decide +kernel
theorem dX4_removeSieve_47 : decode cX4_removeSieve 47 = .ok (.istore_n 3, 1) := by decide +kernel
theorem dX4_removeSieve_48 : decode cX4_removeSieve 48 = .ok (.iload_n 3, 1) := by decide +kernel
theorem dX4_removeSieve_49 : decode cX4_removeSieve 49 = .ok (.aload_n 0, 1) := by decide +kernel
theorem dX4_removeSieve_50 : decode cX4_removeSieve 50 = .ok (.getfield 7, 3) := by decide +kernel
theorem dX4_removeSieve_53 : decode cX4_removeSieve 53 = .ok (.bipush 24, 2) := by decide +kernel
theorem dX4_removeSieve_55 : decode cX4_removeSieve 55 = .ok (.iaload, 1) := by decide +kernel
theorem dX4_removeSieve_56 : decode cX4_removeSieve 56 = .ok (.if_icmp .ge 29, 3) := by decide +kernel
theorem dX4_removeSieve_59 : decode cX4_removeSieve 59 = .ok (.aload_n 0, 1) := by decide +kernel
theorem dX4_removeSieve_60 : decode cX4_removeSieve 60 = .ok (.getfield 7, 3) := by decide +kernel
theorem dX4_removeSieve_63 : decode cX4_removeSieve 63 = .ok (.bipush 25, 2) := by decide +kernel
theorem dX4_removeSieve_65 : decode cX4_removeSieve 65 = .ok (.iload_n 3, 1) := by decide +kernel
theorem dX4_removeSieve_66 : decode cX4_removeSieve 66 = .ok (.iadd, 1) := by decide +kernel
theorem dX4_removeSieve_67 : decode cX4_removeSieve 67 = .ok (.aload_n 0, 1) := by decide +kernel
theorem dX4_removeSieve_68 : decode cX4_removeSieve 68 = .ok (.getfield 7, 3) := by decide +kernel
theorem dX4_removeSieve_71 : decode cX4_removeSieve 71 = .ok (.bipush 25, 2) := by decide +kernel
theorem dX4_removeSieve_73 : decode cX4_removeSieve 73 = .ok (.iload_n 3, 1) := by decide +kernel
theorem dX4_removeSieve_74 : decode cX4_removeSieve 74 = .ok (.iadd, 1) := by decide +kernel
theorem dX4_removeSieve_75 : decode cX4_removeSieve 75 = .ok (.iconst 1, 1) := by decide +kernel
theorem dX4_removeSieve_76 : decode cX4_removeSieve 76 = .ok (.iadd, 1) := by decide +kernel
theorem dX4_removeSieve_77 : decode cX4_removeSieve 77 = .ok (.iaload, 1) := by decide +kernel
theorem dX4_removeSieve_78 : decode cX4_removeSieve 78 = .ok (.iastore, 1) := by decide +kernel
theorem dX4_removeSieve_79 : decode cX4_removeSieve 79 = .ok (.iinc 3 1, 3) := by decide +kernel
theorem dX4_removeSieve_82 : decode cX4_removeSieve 82 = .ok (.goto (-34), 3) := by decide +kernel
theorem dX4_removeSieve_85 : decode cX4_removeSieve 85 = .ok (.aload_n 0, 1) := by decide +kernel
theorem dX4_removeSieve_86 : decode cX4_removeSieve 86 = .ok (.getfield 7, 3) := by decide +kernel
theorem dX4_removeSieve_89 : decode cX4_removeSieve 89 = .ok (.bipush 24, 2) := by decide +kernel
theorem dX4_removeSieve_91 : decode cX4_removeSieve 91 = .ok (.iaload, 1) := by decide +kernel
theorem dX4_removeSieve_92 : decode cX4_removeSieve 92 = .ok (.ireturn, 1) := by decide +kernel
theorem dX4_changes_0 : decode cX4_changes 0 = .ok (.aload_n 0, 1) := by decide +kernel
theorem dX4_changes_1 : decode cX4_changes 1 = .ok (.getfield 7, 3) := by decide +kernel
theorem dX4_changes_4 : decode cX4_changes 4 = .ok (.iload_n 1, 1) := by decide +kernel
theorem dX4_changes_5 : decode cX4_changes 5 = .ok (.iaload, 1) := by decide +kernel
theorem dX4_changes_6 : decode cX4_changes 6 = .ok (.iload_n 2, 1) := by decide +kernel
theorem dX4_changes_7 : decode cX4_changes 7 = .ok (.if_icmp .ne 7, 3) := by decide +kernel
theorem dX4_changes_10 : decode cX4_changes 10 = .ok (.iconst 0, 1) := by decide +kernel
theorem dX4_changes_11 : decode cX4_changes 11 = .ok (.goto 4, 3) := by decide +kernel
theorem dX4_changes_14 : decode cX4_changes 14 = .ok (.iconst 1, 1) := by decide +kernel
theorem dX4_changes_15 : decode cX4_changes 15 = .ok (.istore_n 3, 1) := by decide +kernel
theorem dX4_changes_16 : decode cX4_changes 16 = .ok (.aload_n 0, 1) := by decide +kernel
theorem dX4_changes_17 : decode cX4_changes 17 = .ok (.getfield 7, 3) := by decide +kernel
theorem dX4_changes_20 : decode cX4_changes 20 = .ok (.iload_n 1, 1) := by decide +kernel
theorem dX4_changes_21 : decode cX4_changes 21 = .ok (.iload_n 2, 1) := by decide +kernel
theorem dX4_changes_22 : decode cX4_changes 22 = .ok (.iastore, 1) := by decide +kernel
theorem dX4_changes_23 : decode cX4_changes 23 = .ok (.iload_n 3, 1) := by decide +kernel
theorem dX4_changes_24 : decode cX4_changes 24 = .ok (.ireturn, 1) := by decide +kernel
theorem dX4_setRules_0 : decode cX4_setRules 0 = .ok (.iload_n 1, 1) := by decide +kernel
theorem dX4_setRules_1 : decode cX4_setRules 1 = .ok (.iconst 1, 1) := by decide +kernel
theorem dX4_setRules_2 : decode cX4_setRules 2 = .ok (.sipush 9999, 3) := by decide +kernel
theorem dX4_setRules_5 : decode cX4_setRules 5 = .ok (.invokestatic 30, 3) := by decide +kernel
theorem dX4_setRules_8 : decode cX4_setRules 8 = .ok (.ifCond .eq 35, 3) := by decide +kernel
theorem dX4_setRules_11 : decode cX4_setRules 11 = .ok (.iload_n 2, 1) := by decide +kernel
theorem dX4_setRules_12 : decode cX4_setRules 12 = .ok (.iconst 0, 1) := by decide +kernel
theorem dX4_setRules_13 : decode cX4_setRules 13 = .ok (.sipush 200, 3) := by decide +kernel
theorem dX4_setRules_16 : decode cX4_setRules 16 = .ok (.invokestatic 30, 3) := by decide +kernel
theorem dX4_setRules_19 : decode cX4_setRules 19 = .ok (.ifCond .eq 24, 3) := by decide +kernel
theorem dX4_setRules_22 : decode cX4_setRules 22 = .ok (.iload_n 3, 1) := by decide +kernel
theorem dX4_setRules_23 : decode cX4_setRules 23 = .ok (.iconst 0, 1) := by decide +kernel
theorem dX4_setRules_24 : decode cX4_setRules 24 = .ok (.bipush 100, 2) := by decide +kernel
theorem dX4_setRules_26 : decode cX4_setRules 26 = .ok (.invokestatic 30, 3) := by decide +kernel
theorem dX4_setRules_29 : decode cX4_setRules 29 = .ok (.ifCond .eq 14, 3) := by decide +kernel
theorem dX4_setRules_32 : decode cX4_setRules 32 = .ok (.iload 4, 2) := by decide +kernel
theorem dX4_setRules_34 : decode cX4_setRules 34 = .ok (.iconst 0, 1) := by decide +kernel
theorem dX4_setRules_35 : decode cX4_setRules 35 = .ok (.bipush 100, 2) := by decide +kernel
theorem dX4_setRules_37 : decode cX4_setRules 37 = .ok (.invokestatic 30, 3) := by decide +kernel
theorem dX4_setRules_40 : decode cX4_setRules 40 = .ok (.ifCond .ne 5, 3) := by decide +kernel
theorem dX4_setRules_43 : decode cX4_setRules 43 = .ok (.iconst (-1), 1) := by decide +kernel
theorem dX4_setRules_44 : decode cX4_setRules 44 = .ok (.ireturn, 1) := by decide +kernel
theorem dX4_setRules_45 : decode cX4_setRules 45 = .ok (.aload_n 0, 1) := by decide +kernel
theorem dX4_setRules_46 : decode cX4_setRules 46 = .ok (.invokevirtual 34, 3) := by decide +kernel
theorem dX4_setRules_49 : decode cX4_setRules 49 = .ok (.aload_n 0, 1) := by decide +kernel
theorem dX4_setRules_50 : decode cX4_setRules 50 = .ok (.bipush 20, 2) := by decide +kernel
theorem dX4_setRules_52 : decode cX4_setRules 52 = .ok (.iload_n 1, 1) := by decide +kernel
theorem dX4_setRules_53 : decode cX4_setRules 53 = .ok (.invokevirtual 73, 3) := by decide +kernel
theorem dX4_setRules_56 : decode cX4_setRules 56 = .ok (.aload_n 0, 1) := by decide +kernel
theorem dX4_setRules_57 : decode cX4_setRules 57 = .ok (.bipush 21, 2) := by decide +kernel
theorem dX4_setRules_59 : decode cX4_setRules 59 = .ok (.iload_n 2, 1) := by decide +kernel
theorem dX4_setRules_60 : decode cX4_setRules 60 = .ok (.invokevirtual 73, 3) := by decide +kernel
theorem dX4_setRules_63 : decode cX4_setRules 63 = .ok (.iadd, 1) := by decide +kernel
theorem dX4_setRules_64 : decode cX4_setRules 64 = .ok (.aload_n 0, 1) := by decide +kernel
theorem dX4_setRules_65 : decode cX4_setRules 65 = .ok (.bipush 22, 2) := by decide +kernel
theorem dX4_setRules_67 : decode cX4_setRules 67 = .ok (.iload_n 3, 1) := by decide +kernel
theorem dX4_setRules_68 : decode cX4_setRules 68 = .ok (.invokevirtual 73, 3) := by decide +kernel
theorem dX4_setRules_71 : decode cX4_setRules 71 = .ok (.iadd, 1) := by decide +kernel
theorem dX4_setRules_72 : decode cX4_setRules 72 = .ok (.aload_n 0, 1) := by decide +kernel
theorem dX4_setRules_73 : decode cX4_setRules 73 = .ok (.bipush 23, 2) := by decide +kernel
theorem dX4_setRules_75 : decode cX4_setRules 75 = .ok (.iload 4, 2) := by decide +kernel
theorem dX4_setRules_77 : decode cX4_setRules 77 = .ok (.invokevirtual 73, 3) := by decide +kernel
theorem dX4_setRules_80 : decode cX4_setRules 80 = .ok (.iadd, 1) := by decide +kernel
theorem dX4_setRules_81 : decode cX4_setRules 81 = .ok (.istore 5, 2) := by decide +kernel
theorem dX4_setRules_83 : decode cX4_setRules 83 = .ok (.iload 5, 2) := by decide +kernel
theorem dX4_setRules_85 : decode cX4_setRules 85 = .ok (.ifCond .le 7, 3) := by decide +kernel
theorem dX4_setRules_88 : decode cX4_setRules 88 = .ok (.iconst 1, 1) := by decide +kernel
theorem dX4_setRules_89 : decode cX4_setRules 89 = .ok (.goto 4, 3) := by decide +kernel
theorem dX4_setRules_92 : decode cX4_setRules 92 = .ok (.iconst 0, 1) := by decide +kernel
theorem dX4_setRules_93 : decode cX4_setRules 93 = .ok (.ireturn, 1) := by decide +kernel
theorem dX4_setBand_0 : decode cX4_setBand 0 = .ok (.iload_n 1, 1) := by decide +kernel
theorem dX4_setBand_1 : decode cX4_setBand 1 = .ok (.iconst 1, 1) := by decide +kernel
theorem dX4_setBand_2 : decode cX4_setBand 2 = .ok (.bipush 9, 2) := by decide +kernel
theorem dX4_setBand_4 : decode cX4_setBand 4 = .ok (.invokestatic 30, 3) := by decide +kernel
theorem dX4_setBand_7 : decode cX4_setBand 7 = .ok (.ifCond .eq 25, 3) := by decide +kernel
theorem dX4_setBand_10 : decode cX4_setBand 10 = .ok (.iload_n 2, 1) := by decide +kernel
theorem dX4_setBand_11 : decode cX4_setBand 11 = .ok (.iconst 0, 1) := by decide +kernel
theorem dX4_setBand_12 : decode cX4_setBand 12 = .ok (.sipush 1000, 3) := by decide +kernel
theorem dX4_setBand_15 : decode cX4_setBand 15 = .ok (.invokestatic 30, 3) := by decide +kernel
theorem dX4_setBand_18 : decode cX4_setBand 18 = .ok (.ifCond .eq 14, 3) := by decide +kernel
theorem dX4_setBand_21 : decode cX4_setBand 21 = .ok (.iload_n 3, 1) := by decide +kernel
theorem dX4_setBand_22 : decode cX4_setBand 22 = .ok (.iload_n 2, 1) := by decide +kernel
theorem dX4_setBand_23 : decode cX4_setBand 23 = .ok (.sipush 1000, 3) := by decide +kernel
theorem dX4_setBand_26 : decode cX4_setBand 26 = .ok (.invokestatic 30, 3) := by decide +kernel
theorem dX4_setBand_29 : decode cX4_setBand 29 = .ok (.ifCond .ne 5, 3) := by decide +kernel
theorem dX4_setBand_32 : decode cX4_setBand 32 = .ok (.iconst (-1), 1) := by decide +kernel
theorem dX4_setBand_33 : decode cX4_setBand 33 = .ok (.ireturn, 1) := by decide +kernel
theorem dX4_setBand_34 : decode cX4_setBand 34 = .ok (.aload_n 0, 1) := by decide +kernel
theorem dX4_setBand_35 : decode cX4_setBand 35 = .ok (.invokevirtual 34, 3) := by decide +kernel
theorem dX4_setBand_38 : decode cX4_setBand 38 = .ok (.aload_n 0, 1) := by decide +kernel
theorem dX4_setBand_39 : decode cX4_setBand 39 = .ok (.bipush 31, 2) := by decide +kernel
theorem dX4_setBand_41 : decode cX4_setBand 41 = .ok (.iconst 2, 1) := by decide +kernel
theorem dX4_setBand_42 : decode cX4_setBand 42 = .ok (.iload_n 1, 1) := by decide +kernel
theorem dX4_setBand_43 : decode cX4_setBand 43 = .ok (.imul, 1) := by decide +kernel
theorem dX4_setBand_44 : decode cX4_setBand 44 = .ok (.iadd, 1) := by decide +kernel
theorem dX4_setBand_45 : decode cX4_setBand 45 = .ok (.iconst 2, 1) := by decide +kernel
theorem dX4_setBand_46 : decode cX4_setBand 46 = .ok (.isub, 1) := by decide +kernel
theorem dX4_setBand_47 : decode cX4_setBand 47 = .ok (.iload_n 2, 1) := by decide +kernel
theorem dX4_setBand_48 : decode cX4_setBand 48 = .ok (.invokevirtual 73, 3) := by decide +kernel
theorem dX4_setBand_51 : decode cX4_setBand 51 = .ok (.aload_n 0, 1) := by decide +kernel
theorem dX4_setBand_52 : decode cX4_setBand 52 = .ok (.bipush 31, 2) := by decide +kernel
theorem dX4_setBand_54 : decode cX4_setBand 54 = .ok (.iconst 2, 1) := by decide +kernel
theorem dX4_setBand_55 : decode cX4_setBand 55 = .ok (.iload_n 1, 1) := by decide +kernel
theorem dX4_setBand_56 : decode cX4_setBand 56 = .ok (.imul, 1) := by decide +kernel
theorem dX4_setBand_57 : decode cX4_setBand 57 = .ok (.iadd, 1) := by decide +kernel
theorem dX4_setBand_58 : decode cX4_setBand 58 = .ok (.iconst 1, 1) := by decide +kernel
theorem dX4_setBand_59 : decode cX4_setBand 59 = .ok (.isub, 1) := by decide +kernel
theorem dX4_setBand_60 : decode cX4_setBand 60 = .ok (.iload_n 3, 1) := by decide +kernel
theorem dX4_setBand_61 : decode cX4_setBand 61 = .ok (.invokevirtual 73, 3) := by decide +kernel
theorem dX4_setBand_64 : decode cX4_setBand 64 = .ok (.iadd, 1) := by decide +kernel
theorem dX4_setBand_65 : decode cX4_setBand 65 = .ok (.istore 4, 2) := by decide +kernel
theorem dX4_setBand_67 : decode cX4_setBand 67 = .ok (.iload 4, 2) := by decide +kernel
theorem dX4_setBand_69 : decode cX4_setBand 69 = .ok (.ifCond .le 7, 3) := by decide +kernel
theorem dX4_setBand_72 : decode cX4_setBand 72 = .ok (.iconst 1, 1) := by decide +kernel
theorem dX4_setBand_73 : decode cX4_setBand 73 = .ok (.goto 4, 3) := by decide +kernel
theorem dX4_setBand_76 : decode cX4_setBand 76 = .ok (.iconst 0, 1) := by decide +kernel
theorem dX4_setBand_77 : decode cX4_setBand 77 = .ok (.ireturn, 1) := by decide +kernel
theorem dX4_count_0 : decode cX4_count 0 = .ok (.iload_n 1, 1) := by decide +kernel
theorem dX4_count_1 : decode cX4_count 1 = .ok (.tableswitch 109 0 9 #[55, 63, 63, 63, 63, 75, 83, 91, 99, 104], 55) := by decide +kernel
theorem dX4_count_56 : decode cX4_count 56 = .ok (.aload_n 0, 1) := by decide +kernel
theorem dX4_count_57 : decode cX4_count 57 = .ok (.getfield 7, 3) := by decide +kernel
theorem dX4_count_60 : decode cX4_count 60 = .ok (.bipush 24, 2) := by decide +kernel
theorem dX4_count_62 : decode cX4_count 62 = .ok (.iaload, 1) := by decide +kernel
theorem dX4_count_63 : decode cX4_count 63 = .ok (.ireturn, 1) := by decide +kernel
theorem dX4_count_64 : decode cX4_count 64 = .ok (.aload_n 0, 1) := by decide +kernel
theorem dX4_count_65 : decode cX4_count 65 = .ok (.getfield 7, 3) := by decide +kernel
theorem dX4_count_68 : decode cX4_count 68 = .ok (.bipush 20, 2) := by decide +kernel
theorem dX4_count_70 : decode cX4_count 70 = .ok (.iload_n 1, 1) := by decide +kernel
theorem dX4_count_71 : decode cX4_count 71 = .ok (.iadd, 1) := by decide +kernel
theorem dX4_count_72 : decode cX4_count 72 = .ok (.iconst 1, 1) := by decide +kernel
theorem dX4_count_73 : decode cX4_count 73 = .ok (.isub, 1) := by decide +kernel
theorem dX4_count_74 : decode cX4_count 74 = .ok (.iaload, 1) := by decide +kernel
theorem dX4_count_75 : decode cX4_count 75 = .ok (.ireturn, 1) := by decide +kernel
theorem dX4_count_76 : decode cX4_count 76 = .ok (.aload_n 0, 1) := by decide +kernel
theorem dX4_count_77 : decode cX4_count 77 = .ok (.getfield 7, 3) := by decide +kernel
theorem dX4_count_80 : decode cX4_count 80 = .ok (.bipush 49, 2) := by decide +kernel
theorem dX4_count_82 : decode cX4_count 82 = .ok (.iaload, 1) := by decide +kernel
theorem dX4_count_83 : decode cX4_count 83 = .ok (.ireturn, 1) := by decide +kernel
theorem dX4_count_84 : decode cX4_count 84 = .ok (.aload_n 0, 1) := by decide +kernel
theorem dX4_count_85 : decode cX4_count 85 = .ok (.getfield 7, 3) := by decide +kernel
theorem dX4_count_88 : decode cX4_count 88 = .ok (.bipush 51, 2) := by decide +kernel
theorem dX4_count_90 : decode cX4_count 90 = .ok (.iaload, 1) := by decide +kernel
theorem dX4_count_91 : decode cX4_count 91 = .ok (.ireturn, 1) := by decide +kernel
theorem dX4_count_92 : decode cX4_count 92 = .ok (.aload_n 0, 1) := by decide +kernel
theorem dX4_count_93 : decode cX4_count 93 = .ok (.getfield 7, 3) := by decide +kernel
theorem dX4_count_96 : decode cX4_count 96 = .ok (.bipush 52, 2) := by decide +kernel
theorem dX4_count_98 : decode cX4_count 98 = .ok (.iaload, 1) := by decide +kernel
theorem dX4_count_99 : decode cX4_count 99 = .ok (.ireturn, 1) := by decide +kernel
theorem dX4_count_100 : decode cX4_count 100 = .ok (.aload_n 0, 1) := by decide +kernel
theorem dX4_count_101 : decode cX4_count 101 = .ok (.getfield 49, 3) := by decide +kernel
theorem dX4_count_104 : decode cX4_count 104 = .ok (.ireturn, 1) := by decide +kernel
theorem dX4_count_105 : decode cX4_count 105 = .ok (.aload_n 0, 1) := by decide +kernel
theorem dX4_count_106 : decode cX4_count 106 = .ok (.getfield 26, 3) := by decide +kernel
theorem dX4_count_109 : decode cX4_count 109 = .ok (.ireturn, 1) := by decide +kernel
theorem dX4_count_110 : decode cX4_count 110 = .ok (.iconst (-1), 1) := by decide +kernel
theorem dX4_count_111 : decode cX4_count 111 = .ok (.ireturn, 1) := by decide +kernel
theorem dX4_isTray_0 : decode cX4_isTray 0 = .ok (.iload_n 1, 1) := by decide +kernel
theorem dX4_isTray_1 : decode cX4_isTray 1 = .ok (.iconst 0, 1) := by decide +kernel
theorem dX4_isTray_2 : decode cX4_isTray 2 = .ok (.aload_n 0, 1) := by decide +kernel
theorem dX4_isTray_3 : decode cX4_isTray 3 = .ok (.getfield 7, 3) := by decide +kernel
theorem dX4_isTray_6 : decode cX4_isTray 6 = .ok (.bipush 24, 2) := by decide +kernel
theorem dX4_isTray_8 : decode cX4_isTray 8 = .ok (.iaload, 1) := by decide +kernel
theorem dX4_isTray_9 : decode cX4_isTray 9 = .ok (.invokestatic 30, 3) := by decide +kernel
theorem dX4_isTray_12 : decode cX4_isTray 12 = .ok (.ireturn, 1) := by decide +kernel
theorem dX4_isSieve_0 : decode cX4_isSieve 0 = .ok (.iload_n 1, 1) := by decide +kernel
theorem dX4_isSieve_1 : decode cX4_isSieve 1 = .ok (.iconst 0, 1) := by decide +kernel
theorem dX4_isSieve_2 : decode cX4_isSieve 2 = .ok (.aload_n 0, 1) := by decide +kernel
end
section
theorem dX4_isSieve_3 : decode cX4_isSieve 3 = .ok (.getfield 7, 3) := by decide +kernel
theorem dX4_isSieve_6 : decode cX4_isSieve 6 = .ok (.bipush 24, 2) := by decide +kernel
theorem dX4_isSieve_8 : decode cX4_isSieve 8 = .ok (.iaload, 1) := by decide +kernel
theorem dX4_isSieve_9 : decode cX4_isSieve 9 = .ok (.iconst 1, 1) := by decide +kernel
theorem dX4_isSieve_10 : decode cX4_isSieve 10 = .ok (.isub, 1) := by decide +kernel
theorem dX4_isSieve_11 : decode cX4_isSieve 11 = .ok (.invokestatic 30, 3) := by decide +kernel
theorem dX4_isSieve_14 : decode cX4_isSieve 14 = .ok (.ireturn, 1) := by decide +kernel
theorem dX4_openness_0 : decode cX4_openness 0 = .ok (.aload_n 0, 1) := by decide +kernel
theorem dX4_openness_1 : decode cX4_openness 1 = .ok (.iload_n 1, 1) := by decide +kernel
theorem dX4_openness_2 : decode cX4_openness 2 = .ok (.invokevirtual 76, 3) := by decide +kernel
theorem dX4_openness_5 : decode cX4_openness 5 = .ok (.ifCond .ne 7, 3) := by decide +kernel
theorem dX4_openness_8 : decode cX4_openness 8 = .ok (.sipush 1000, 3) := by decide +kernel
theorem dX4_openness_11 : decode cX4_openness 11 = .ok (.ireturn, 1) := by decide +kernel
theorem dX4_openness_12 : decode cX4_openness 12 = .ok (.sipush 1000, 3) := by decide +kernel
theorem dX4_openness_15 : decode cX4_openness 15 = .ok (.aload_n 0, 1) := by decide +kernel
theorem dX4_openness_16 : decode cX4_openness 16 = .ok (.getfield 7, 3) := by decide +kernel
theorem dX4_openness_19 : decode cX4_openness 19 = .ok (.aload_n 0, 1) := by decide +kernel
theorem dX4_openness_20 : decode cX4_openness 20 = .ok (.iload_n 1, 1) := by decide +kernel
theorem dX4_openness_21 : decode cX4_openness 21 = .ok (.invokevirtual 80, 3) := by decide +kernel
theorem dX4_openness_24 : decode cX4_openness 24 = .ok (.bipush 10, 2) := by decide +kernel
theorem dX4_openness_26 : decode cX4_openness 26 = .ok (.iadd, 1) := by decide +kernel
theorem dX4_openness_27 : decode cX4_openness 27 = .ok (.iaload, 1) := by decide +kernel
theorem dX4_openness_28 : decode cX4_openness 28 = .ok (.sipush 1000, 3) := by decide +kernel
theorem dX4_openness_31 : decode cX4_openness 31 = .ok (.imul, 1) := by decide +kernel
theorem dX4_openness_32 : decode cX4_openness 32 = .ok (.aload_n 0, 1) := by decide +kernel
theorem dX4_openness_33 : decode cX4_openness 33 = .ok (.getfield 7, 3) := by decide +kernel
theorem dX4_openness_36 : decode cX4_openness 36 = .ok (.bipush 20, 2) := by decide +kernel
theorem dX4_openness_38 : decode cX4_openness 38 = .ok (.iaload, 1) := by decide +kernel
theorem dX4_openness_39 : decode cX4_openness 39 = .ok (.idiv, 1) := by decide +kernel
theorem dX4_openness_40 : decode cX4_openness 40 = .ok (.isub, 1) := by decide +kernel
theorem dX4_openness_41 : decode cX4_openness 41 = .ok (.istore_n 2, 1) := by decide +kernel
theorem dX4_openness_42 : decode cX4_openness 42 = .ok (.iload_n 2, 1) := by decide +kernel
theorem dX4_openness_43 : decode cX4_openness 43 = .ok (.bipush 100, 2) := by decide +kernel
theorem dX4_openness_45 : decode cX4_openness 45 = .ok (.if_icmp .ge 8, 3) := by decide +kernel
theorem dX4_openness_48 : decode cX4_openness 48 = .ok (.bipush 100, 2) := by decide +kernel
theorem dX4_openness_50 : decode cX4_openness 50 = .ok (.goto 4, 3) := by decide +kernel
theorem dX4_openness_53 : decode cX4_openness 53 = .ok (.iload_n 2, 1) := by decide +kernel
theorem dX4_openness_54 : decode cX4_openness 54 = .ok (.ireturn, 1) := by decide +kernel
theorem dX4_tray_0 : decode cX4_tray 0 = .ok (.aload_n 0, 1) := by decide +kernel
theorem dX4_tray_1 : decode cX4_tray 1 = .ok (.iload_n 1, 1) := by decide +kernel
theorem dX4_tray_2 : decode cX4_tray 2 = .ok (.invokevirtual 83, 3) := by decide +kernel
theorem dX4_tray_5 : decode cX4_tray 5 = .ok (.ifCond .eq 12, 3) := by decide +kernel
theorem dX4_tray_8 : decode cX4_tray 8 = .ok (.iload_n 2, 1) := by decide +kernel
theorem dX4_tray_9 : decode cX4_tray 9 = .ok (.iconst 0, 1) := by decide +kernel
theorem dX4_tray_10 : decode cX4_tray 10 = .ok (.iconst 4, 1) := by decide +kernel
theorem dX4_tray_11 : decode cX4_tray 11 = .ok (.invokestatic 30, 3) := by decide +kernel
theorem dX4_tray_14 : decode cX4_tray 14 = .ok (.ifCond .ne 5, 3) := by decide +kernel
theorem dX4_tray_17 : decode cX4_tray 17 = .ok (.iconst (-1), 1) := by decide +kernel
theorem dX4_tray_18 : decode cX4_tray 18 = .ok (.ireturn, 1) := by decide +kernel
theorem dX4_tray_19 : decode cX4_tray 19 = .ok (.iload_n 2, 1) := by decide +kernel
theorem dX4_tray_20 : decode cX4_tray 20 = .ok (.tableswitch 92 0 3 #[32, 54, 64, 78], 32) := by decide +kernel
theorem dX4_tray_52 : decode cX4_tray 52 = .ok (.aload_n 0, 1) := by decide +kernel
theorem dX4_tray_53 : decode cX4_tray 53 = .ok (.iload_n 1, 1) := by decide +kernel
theorem dX4_tray_54 : decode cX4_tray 54 = .ok (.invokevirtual 76, 3) := by decide +kernel
theorem dX4_tray_57 : decode cX4_tray 57 = .ok (.ifCond .eq 15, 3) := by decide +kernel
theorem dX4_tray_60 : decode cX4_tray 60 = .ok (.aload_n 0, 1) := by decide +kernel
theorem dX4_tray_61 : decode cX4_tray 61 = .ok (.getfield 7, 3) := by decide +kernel
theorem dX4_tray_64 : decode cX4_tray 64 = .ok (.bipush 25, 2) := by decide +kernel
theorem dX4_tray_66 : decode cX4_tray 66 = .ok (.iload_n 1, 1) := by decide +kernel
theorem dX4_tray_67 : decode cX4_tray 67 = .ok (.iadd, 1) := by decide +kernel
theorem dX4_tray_68 : decode cX4_tray 68 = .ok (.iaload, 1) := by decide +kernel
theorem dX4_tray_69 : decode cX4_tray 69 = .ok (.goto 4, 3) := by decide +kernel
theorem dX4_tray_72 : decode cX4_tray 72 = .ok (.iconst 0, 1) := by decide +kernel
theorem dX4_tray_73 : decode cX4_tray 73 = .ok (.ireturn, 1) := by decide +kernel
theorem dX4_tray_74 : decode cX4_tray 74 = .ok (.aload_n 0, 1) := by decide +kernel
theorem dX4_tray_75 : decode cX4_tray 75 = .ok (.aload_n 0, 1) := by decide +kernel
theorem dX4_tray_76 : decode cX4_tray 76 = .ok (.iload_n 1, 1) := by decide +kernel
theorem dX4_tray_77 : decode cX4_tray 77 = .ok (.invokevirtual 80, 3) := by decide +kernel
theorem dX4_tray_80 : decode cX4_tray 80 = .ok (.invokevirtual 37, 3) := by decide +kernel
theorem dX4_tray_83 : decode cX4_tray 83 = .ok (.ireturn, 1) := by decide +kernel
theorem dX4_tray_84 : decode cX4_tray 84 = .ok (.aload_n 0, 1) := by decide +kernel
theorem dX4_tray_85 : decode cX4_tray 85 = .ok (.getfield 7, 3) := by decide +kernel
theorem dX4_tray_88 : decode cX4_tray 88 = .ok (.aload_n 0, 1) := by decide +kernel
theorem dX4_tray_89 : decode cX4_tray 89 = .ok (.iload_n 1, 1) := by decide +kernel
theorem dX4_tray_90 : decode cX4_tray 90 = .ok (.invokevirtual 80, 3) := by decide +kernel
theorem dX4_tray_93 : decode cX4_tray 93 = .ok (.bipush 10, 2) := by decide +kernel
theorem dX4_tray_95 : decode cX4_tray 95 = .ok (.iadd, 1) := by decide +kernel
theorem dX4_tray_96 : decode cX4_tray 96 = .ok (.iaload, 1) := by decide +kernel
theorem dX4_tray_97 : decode cX4_tray 97 = .ok (.ireturn, 1) := by decide +kernel
theorem dX4_tray_98 : decode cX4_tray 98 = .ok (.aload_n 0, 1) := by decide +kernel
theorem dX4_tray_99 : decode cX4_tray 99 = .ok (.getfield 7, 3) := by decide +kernel
theorem dX4_tray_102 : decode cX4_tray 102 = .ok (.aload_n 0, 1) := by decide +kernel
theorem dX4_tray_103 : decode cX4_tray 103 = .ok (.iload_n 1, 1) := by decide +kernel
theorem dX4_tray_104 : decode cX4_tray 104 = .ok (.invokevirtual 80, 3) := by decide +kernel
theorem dX4_tray_107 : decode cX4_tray 107 = .ok (.bipush 11, 2) := by decide +kernel
theorem dX4_tray_109 : decode cX4_tray 109 = .ok (.iadd, 1) := by decide +kernel
theorem dX4_tray_110 : decode cX4_tray 110 = .ok (.iaload, 1) := by decide +kernel
theorem dX4_tray_111 : decode cX4_tray 111 = .ok (.ireturn, 1) := by decide +kernel
theorem dX4_tray_112 : decode cX4_tray 112 = .ok (.aload_n 0, 1) := by decide +kernel
theorem dX4_tray_113 : decode cX4_tray 113 = .ok (.iload_n 1, 1) := by decide +kernel
theorem dX4_tray_114 : decode cX4_tray 114 = .ok (.invokevirtual 86, 3) := by decide +kernel
theorem dX4_tray_117 : decode cX4_tray 117 = .ok (.ireturn, 1) := by decide +kernel
theorem dX4_on_0 : decode cX4_on 0 = .ok (.aload_n 0, 1) := by decide +kernel
theorem dX4_on_1 : decode cX4_on 1 = .ok (.iload_n 1, 1) := by decide +kernel
theorem dX4_on_2 : decode cX4_on 2 = .ok (.invokevirtual 83, 3) := by decide +kernel
theorem dX4_on_5 : decode cX4_on 5 = .ok (.ifCond .eq 13, 3) := by decide +kernel
theorem dX4_on_8 : decode cX4_on 8 = .ok (.iload_n 2, 1) := by decide +kernel
theorem dX4_on_9 : decode cX4_on 9 = .ok (.iconst 0, 1) := by decide +kernel
theorem dX4_on_10 : decode cX4_on 10 = .ok (.bipush 9, 2) := by decide +kernel
theorem dX4_on_12 : decode cX4_on 12 = .ok (.invokestatic 30, 3) := by decide +kernel
theorem dX4_on_15 : decode cX4_on 15 = .ok (.ifCond .ne 7, 3) := by decide +kernel
theorem dX4_on_18 : decode cX4_on 18 = .ok (.iconst (-1), 1) := by decide +kernel
theorem dX4_on_19 : decode cX4_on 19 = .ok (.goto 15, 3) := by decide +kernel
theorem dX4_on_22 : decode cX4_on 22 = .ok (.aload_n 0, 1) := by decide +kernel
theorem dX4_on_23 : decode cX4_on 23 = .ok (.getfield 7, 3) := by decide +kernel
theorem dX4_on_26 : decode cX4_on 26 = .ok (.aload_n 0, 1) := by decide +kernel
theorem dX4_on_27 : decode cX4_on 27 = .ok (.iload_n 1, 1) := by decide +kernel
theorem dX4_on_28 : decode cX4_on 28 = .ok (.invokevirtual 80, 3) := by decide +kernel
theorem dX4_on_31 : decode cX4_on 31 = .ok (.iload_n 2, 1) := by decide +kernel
theorem dX4_on_32 : decode cX4_on 32 = .ok (.iadd, 1) := by decide +kernel
theorem dX4_on_33 : decode cX4_on 33 = .ok (.iaload, 1) := by decide +kernel
theorem dX4_on_34 : decode cX4_on 34 = .ok (.ireturn, 1) := by decide +kernel
theorem dX4_charge_0 : decode cX4_charge 0 = .ok (.aload_n 0, 1) := by decide +kernel
theorem dX4_charge_1 : decode cX4_charge 1 = .ok (.iconst 0, 1) := by decide +kernel
theorem dX4_charge_2 : decode cX4_charge 2 = .ok (.invokevirtual 37, 3) := by decide +kernel
theorem dX4_charge_5 : decode cX4_charge 5 = .ok (.istore_n 1, 1) := by decide +kernel
theorem dX4_charge_6 : decode cX4_charge 6 = .ok (.aload_n 0, 1) := by decide +kernel
theorem dX4_charge_7 : decode cX4_charge 7 = .ok (.getfield 7, 3) := by decide +kernel
theorem dX4_charge_10 : decode cX4_charge 10 = .ok (.bipush 24, 2) := by decide +kernel
theorem dX4_charge_12 : decode cX4_charge 12 = .ok (.iaload, 1) := by decide +kernel
theorem dX4_charge_13 : decode cX4_charge 13 = .ok (.ifCond .eq 7, 3) := by decide +kernel
theorem dX4_charge_16 : decode cX4_charge 16 = .ok (.iload_n 1, 1) := by decide +kernel
theorem dX4_charge_17 : decode cX4_charge 17 = .ok (.ifCond .ne 6, 3) := by decide +kernel
theorem dX4_charge_20 : decode cX4_charge 20 = .ok (.bipush (-2), 2) := by decide +kernel
theorem dX4_charge_22 : decode cX4_charge 22 = .ok (.ireturn, 1) := by decide +kernel
theorem dX4_charge_23 : decode cX4_charge 23 = .ok (.aload_n 0, 1) := by decide +kernel
theorem dX4_charge_24 : decode cX4_charge 24 = .ok (.invokevirtual 34, 3) := by decide +kernel
theorem dX4_charge_27 : decode cX4_charge 27 = .ok (.aload_n 0, 1) := by decide +kernel
theorem dX4_charge_28 : decode cX4_charge 28 = .ok (.invokevirtual 70, 3) := by decide +kernel
theorem dX4_charge_31 : decode cX4_charge 31 = .ok (.iconst 0, 1) := by decide +kernel
theorem dX4_charge_32 : decode cX4_charge 32 = .ok (.istore_n 2, 1) := by decide +kernel
theorem dX4_charge_33 : decode cX4_charge 33 = .ok (.iload_n 2, 1) := by decide +kernel
theorem dX4_charge_34 : decode cX4_charge 34 = .ok (.bipush 10, 2) := by decide +kernel
theorem dX4_charge_36 : decode cX4_charge 36 = .ok (.if_icmp .ge 38, 3) := by decide +kernel
theorem dX4_charge_39 : decode cX4_charge 39 = .ok (.aload_n 0, 1) := by decide +kernel
theorem dX4_charge_40 : decode cX4_charge 40 = .ok (.getfield 7, 3) := by decide +kernel
theorem dX4_charge_43 : decode cX4_charge 43 = .ok (.aload_n 0, 1) := by decide +kernel
theorem dX4_charge_44 : decode cX4_charge 44 = .ok (.iconst 0, 1) := by decide +kernel
theorem dX4_charge_45 : decode cX4_charge 45 = .ok (.invokevirtual 80, 3) := by decide +kernel
theorem dX4_charge_48 : decode cX4_charge 48 = .ok (.iload_n 2, 1) := by decide +kernel
theorem dX4_charge_49 : decode cX4_charge 49 = .ok (.iadd, 1) := by decide +kernel
theorem dX4_charge_50 : decode cX4_charge 50 = .ok (.aload_n 0, 1) := by decide +kernel
theorem dX4_charge_51 : decode cX4_charge 51 = .ok (.getfield 7, 3) := by decide +kernel
theorem dX4_charge_54 : decode cX4_charge 54 = .ok (.iconst 0, 1) := by decide +kernel
theorem dX4_charge_55 : decode cX4_charge 55 = .ok (.iload_n 2, 1) := by decide +kernel
theorem dX4_charge_56 : decode cX4_charge 56 = .ok (.iadd, 1) := by decide +kernel
theorem dX4_charge_57 : decode cX4_charge 57 = .ok (.iaload, 1) := by decide +kernel
theorem dX4_charge_58 : decode cX4_charge 58 = .ok (.iastore, 1) := by decide +kernel
theorem dX4_charge_59 : decode cX4_charge 59 = .ok (.aload_n 0, 1) := by decide +kernel
theorem dX4_charge_60 : decode cX4_charge 60 = .ok (.getfield 7, 3) := by decide +kernel
theorem dX4_charge_63 : decode cX4_charge 63 = .ok (.iconst 0, 1) := by decide +kernel
theorem dX4_charge_64 : decode cX4_charge 64 = .ok (.iload_n 2, 1) := by decide +kernel
theorem dX4_charge_65 : decode cX4_charge 65 = .ok (.iadd, 1) := by decide +kernel
theorem dX4_charge_66 : decode cX4_charge 66 = .ok (.iconst 0, 1) := by decide +kernel
theorem dX4_charge_67 : decode cX4_charge 67 = .ok (.iastore, 1) := by decide +kernel
theorem dX4_charge_68 : decode cX4_charge 68 = .ok (.iinc 2 1, 3) := by decide +kernel
theorem dX4_charge_71 : decode cX4_charge 71 = .ok (.goto (-38), 3) := by decide +kernel
theorem dX4_charge_74 : decode cX4_charge 74 = .ok (.aload_n 0, 1) := by decide +kernel
theorem dX4_charge_75 : decode cX4_charge 75 = .ok (.getfield 7, 3) := by decide +kernel
theorem dX4_charge_78 : decode cX4_charge 78 = .ok (.bipush 49, 2) := by decide +kernel
theorem dX4_charge_80 : decode cX4_charge 80 = .ok (.iconst 1, 1) := by decide +kernel
theorem dX4_charge_81 : decode cX4_charge 81 = .ok (.iastore, 1) := by decide +kernel
theorem dX4_charge_82 : decode cX4_charge 82 = .ok (.aload_n 0, 1) := by decide +kernel
theorem dX4_charge_83 : decode cX4_charge 83 = .ok (.getfield 7, 3) := by decide +kernel
theorem dX4_charge_86 : decode cX4_charge 86 = .ok (.bipush 50, 2) := by decide +kernel
theorem dX4_charge_88 : decode cX4_charge 88 = .ok (.iload_n 1, 1) := by decide +kernel
theorem dX4_charge_89 : decode cX4_charge 89 = .ok (.iastore, 1) := by decide +kernel
theorem dX4_charge_90 : decode cX4_charge 90 = .ok (.iload_n 1, 1) := by decide +kernel
theorem dX4_charge_91 : decode cX4_charge 91 = .ok (.ireturn, 1) := by decide +kernel
theorem dX4_falling_0 : decode cX4_falling 0 = .ok (.iload_n 2, 1) := by decide +kernel
theorem dX4_falling_1 : decode cX4_falling 1 = .ok (.iconst 1, 1) := by decide +kernel
theorem dX4_falling_2 : decode cX4_falling 2 = .ok (.if_icmp .ne 9, 3) := by decide +kernel
theorem dX4_falling_5 : decode cX4_falling 5 = .ok (.ldc2_w 89, 3) := by decide +kernel
theorem dX4_falling_8 : decode cX4_falling 8 = .ok (.goto 17, 3) := by decide +kernel
theorem dX4_falling_11 : decode cX4_falling 11 = .ok (.iload_n 2, 1) := by decide +kernel
theorem dX4_falling_12 : decode cX4_falling 12 = .ok (.iconst 2, 1) := by decide +kernel
theorem dX4_falling_13 : decode cX4_falling 13 = .ok (.if_icmp .ne 9, 3) := by decide +kernel
theorem dX4_falling_16 : decode cX4_falling 16 = .ok (.ldc2_w 91, 3) := by decide +kernel
theorem dX4_falling_19 : decode cX4_falling 19 = .ok (.goto 6, 3) := by decide +kernel
theorem dX4_falling_22 : decode cX4_falling 22 = .ok (.ldc2_w 93, 3) := by decide +kernel
theorem dX4_falling_25 : decode cX4_falling 25 = .ok (.lstore_n 3, 1) := by decide +kernel
theorem dX4_falling_26 : decode cX4_falling 26 = .ok (.iload_n 0, 1) := by decide +kernel
theorem dX4_falling_27 : decode cX4_falling 27 = .ok (.i2l, 1) := by decide +kernel
theorem dX4_falling_28 : decode cX4_falling 28 = .ok (.iload_n 1, 1) := by decide +kernel
theorem dX4_falling_29 : decode cX4_falling 29 = .ok (.i2l, 1) := by decide +kernel
theorem dX4_falling_30 : decode cX4_falling 30 = .ok (.lload_n 3, 1) := by decide +kernel
theorem dX4_falling_31 : decode cX4_falling 31 = .ok (.lmul, 1) := by decide +kernel
theorem dX4_falling_32 : decode cX4_falling 32 = .ok (.lmul, 1) := by decide +kernel
theorem dX4_falling_33 : decode cX4_falling 33 = .ok (.ldc2_w 95, 3) := by decide +kernel
theorem dX4_falling_36 : decode cX4_falling 36 = .ok (.ldiv, 1) := by decide +kernel
theorem dX4_falling_37 : decode cX4_falling 37 = .ok (.l2i, 1) := by decide +kernel
theorem dX4_falling_38 : decode cX4_falling 38 = .ok (.istore 5, 2) := by decide +kernel
theorem dX4_falling_40 : decode cX4_falling 40 = .ok (.iload_n 0, 1) := by decide +kernel
theorem dX4_falling_41 : decode cX4_falling 41 = .ok (.ifCond .le 12, 3) := by decide +kernel
theorem dX4_falling_44 : decode cX4_falling 44 = .ok (.iload 5, 2) := by decide +kernel
theorem dX4_falling_46 : decode cX4_falling 46 = .ok (.ifCond .ne 7, 3) := by decide +kernel
theorem dX4_falling_49 : decode cX4_falling 49 = .ok (.iconst 1, 1) := by decide +kernel
theorem dX4_falling_50 : decode cX4_falling 50 = .ok (.goto 5, 3) := by decide +kernel
theorem dX4_falling_53 : decode cX4_falling 53 = .ok (.iload 5, 2) := by decide +kernel
theorem dX4_falling_55 : decode cX4_falling 55 = .ok (.ireturn, 1) := by decide +kernel
theorem dX4_minute_0 : decode cX4_minute 0 = .ok (.iconst 0, 1) := by decide +kernel
theorem dX4_minute_1 : decode cX4_minute 1 = .ok (.istore_n 1, 1) := by decide +kernel
theorem dX4_minute_2 : decode cX4_minute 2 = .ok (.aload_n 0, 1) := by decide +kernel
theorem dX4_minute_3 : decode cX4_minute 3 = .ok (.getfield 7, 3) := by decide +kernel
theorem dX4_minute_6 : decode cX4_minute 6 = .ok (.bipush 24, 2) := by decide +kernel
theorem dX4_minute_8 : decode cX4_minute 8 = .ok (.iaload, 1) := by decide +kernel
theorem dX4_minute_9 : decode cX4_minute 9 = .ok (.iconst 1, 1) := by decide +kernel
theorem dX4_minute_10 : decode cX4_minute 10 = .ok (.isub, 1) := by decide +kernel
theorem dX4_minute_11 : decode cX4_minute 11 = .ok (.istore_n 2, 1) := by decide +kernel
theorem dX4_minute_12 : decode cX4_minute 12 = .ok (.iload_n 2, 1) := by decide +kernel
theorem dX4_minute_13 : decode cX4_minute 13 = .ok (.ifCond .lt 157, 3) := by decide +kernel
theorem dX4_minute_16 : decode cX4_minute 16 = .ok (.aload_n 0, 1) := by decide +kernel
theorem dX4_minute_17 : decode cX4_minute 17 = .ok (.iload_n 2, 1) := by decide +kernel
theorem dX4_minute_18 : decode cX4_minute 18 = .ok (.invokevirtual 80, 3) := by decide +kernel
theorem dX4_minute_21 : decode cX4_minute 21 = .ok (.istore_n 3, 1) := by decide +kernel
theorem dX4_minute_22 : decode cX4_minute 22 = .ok (.aload_n 0, 1) := by decide +kernel
theorem dX4_minute_23 : decode cX4_minute 23 = .ok (.getfield 7, 3) := by decide +kernel
theorem dX4_minute_26 : decode cX4_minute 26 = .ok (.bipush 25, 2) := by decide +kernel
theorem dX4_minute_28 : decode cX4_minute 28 = .ok (.iload_n 2, 1) := by decide +kernel
theorem dX4_minute_29 : decode cX4_minute 29 = .ok (.iadd, 1) := by decide +kernel
theorem dX4_minute_30 : decode cX4_minute 30 = .ok (.iaload, 1) := by decide +kernel
theorem dX4_minute_31 : decode cX4_minute 31 = .ok (.istore 4, 2) := by decide +kernel
theorem dX4_minute_33 : decode cX4_minute 33 = .ok (.aload_n 0, 1) := by decide +kernel
theorem dX4_minute_34 : decode cX4_minute 34 = .ok (.iload_n 2, 1) := by decide +kernel
theorem dX4_minute_35 : decode cX4_minute 35 = .ok (.invokevirtual 86, 3) := by decide +kernel
theorem dX4_minute_38 : decode cX4_minute 38 = .ok (.istore 5, 2) := by decide +kernel
theorem dX4_minute_40 : decode cX4_minute 40 = .ok (.iconst 0, 1) := by decide +kernel
theorem dX4_minute_41 : decode cX4_minute 41 = .ok (.istore 6, 2) := by decide +kernel
theorem dX4_minute_43 : decode cX4_minute 43 = .ok (.iload 6, 2) := by decide +kernel
theorem dX4_minute_45 : decode cX4_minute 45 = .ok (.iload 4, 2) := by decide +kernel
theorem dX4_minute_47 : decode cX4_minute 47 = .ok (.if_icmp .ge 66, 3) := by decide +kernel
theorem dX4_minute_50 : decode cX4_minute 50 = .ok (.aload_n 0, 1) := by decide +kernel
theorem dX4_minute_51 : decode cX4_minute 51 = .ok (.getfield 7, 3) := by decide +kernel
theorem dX4_minute_54 : decode cX4_minute 54 = .ok (.iload_n 3, 1) := by decide +kernel
theorem dX4_minute_55 : decode cX4_minute 55 = .ok (.iload 6, 2) := by decide +kernel
theorem dX4_minute_57 : decode cX4_minute 57 = .ok (.iadd, 1) := by decide +kernel
theorem dX4_minute_58 : decode cX4_minute 58 = .ok (.iaload, 1) := by decide +kernel
theorem dX4_minute_59 : decode cX4_minute 59 = .ok (.iload 5, 2) := by decide +kernel
theorem dX4_minute_61 : decode cX4_minute 61 = .ok (.iload 4, 2) := by decide +kernel
theorem dX4_minute_63 : decode cX4_minute 63 = .ok (.iload 6, 2) := by decide +kernel
theorem dX4_minute_65 : decode cX4_minute 65 = .ok (.isub, 1) := by decide +kernel
theorem dX4_minute_66 : decode cX4_minute 66 = .ok (.invokestatic 97, 3) := by decide +kernel
theorem dX4_minute_69 : decode cX4_minute 69 = .ok (.istore 7, 2) := by decide +kernel
theorem dX4_minute_71 : decode cX4_minute 71 = .ok (.aload_n 0, 1) := by decide +kernel
theorem dX4_minute_72 : decode cX4_minute 72 = .ok (.getfield 7, 3) := by decide +kernel
theorem dX4_minute_75 : decode cX4_minute 75 = .ok (.iload_n 3, 1) := by decide +kernel
theorem dX4_minute_76 : decode cX4_minute 76 = .ok (.iload 6, 2) := by decide +kernel
theorem dX4_minute_78 : decode cX4_minute 78 = .ok (.iadd, 1) := by decide +kernel
theorem dX4_minute_79 : decode cX4_minute 79 = .ok (.dup2, 1) := by decide +kernel
theorem dX4_minute_80 : decode cX4_minute 80 = .ok (.iaload, 1) := by decide +kernel
theorem dX4_minute_81 : decode cX4_minute 81 = .ok (.iload 7, 2) := by decide +kernel
theorem dX4_minute_83 : decode cX4_minute 83 = .ok (.isub, 1) := by decide +kernel
theorem dX4_minute_84 : decode cX4_minute 84 = .ok (.iastore, 1) := by decide +kernel
theorem dX4_minute_85 : decode cX4_minute 85 = .ok (.aload_n 0, 1) := by decide +kernel
theorem dX4_minute_86 : decode cX4_minute 86 = .ok (.getfield 7, 3) := by decide +kernel
theorem dX4_minute_89 : decode cX4_minute 89 = .ok (.iload_n 3, 1) := by decide +kernel
theorem dX4_minute_90 : decode cX4_minute 90 = .ok (.bipush 12, 2) := by decide +kernel
theorem dX4_minute_92 : decode cX4_minute 92 = .ok (.iadd, 1) := by decide +kernel
theorem dX4_minute_93 : decode cX4_minute 93 = .ok (.iload 6, 2) := by decide +kernel
theorem dX4_minute_95 : decode cX4_minute 95 = .ok (.iadd, 1) := by decide +kernel
theorem dX4_minute_96 : decode cX4_minute 96 = .ok (.dup2, 1) := by decide +kernel
theorem dX4_minute_97 : decode cX4_minute 97 = .ok (.iaload, 1) := by decide +kernel
theorem dX4_minute_98 : decode cX4_minute 98 = .ok (.iload 7, 2) := by decide +kernel
theorem dX4_minute_100 : decode cX4_minute 100 = .ok (.iadd, 1) := by decide +kernel
theorem dX4_minute_101 : decode cX4_minute 101 = .ok (.iastore, 1) := by decide +kernel
theorem dX4_minute_102 : decode cX4_minute 102 = .ok (.iload_n 1, 1) := by decide +kernel
theorem dX4_minute_103 : decode cX4_minute 103 = .ok (.iload 7, 2) := by decide +kernel
theorem dX4_minute_105 : decode cX4_minute 105 = .ok (.iadd, 1) := by decide +kernel
theorem dX4_minute_106 : decode cX4_minute 106 = .ok (.istore_n 1, 1) := by decide +kernel
theorem dX4_minute_107 : decode cX4_minute 107 = .ok (.iinc 6 1, 3) := by decide +kernel
theorem dX4_minute_110 : decode cX4_minute 110 = .ok (.goto (-67), 3) := by decide +kernel
theorem dX4_minute_113 : decode cX4_minute 113 = .ok (.aload_n 0, 1) := by decide +kernel
theorem dX4_minute_114 : decode cX4_minute 114 = .ok (.getfield 7, 3) := by decide +kernel
theorem dX4_minute_117 : decode cX4_minute 117 = .ok (.iload_n 3, 1) := by decide +kernel
theorem dX4_minute_118 : decode cX4_minute 118 = .ok (.iload 4, 2) := by decide +kernel
theorem dX4_minute_120 : decode cX4_minute 120 = .ok (.iadd, 1) := by decide +kernel
theorem dX4_minute_121 : decode cX4_minute 121 = .ok (.iaload, 1) := by decide +kernel
theorem dX4_minute_122 : decode cX4_minute 122 = .ok (.aload_n 0, 1) := by decide +kernel
theorem dX4_minute_123 : decode cX4_minute 123 = .ok (.getfield 7, 3) := by decide +kernel
theorem dX4_minute_126 : decode cX4_minute 126 = .ok (.bipush 21, 2) := by decide +kernel
theorem dX4_minute_128 : decode cX4_minute 128 = .ok (.iaload, 1) := by decide +kernel
theorem dX4_minute_129 : decode cX4_minute 129 = .ok (.imul, 1) := by decide +kernel
theorem dX4_minute_130 : decode cX4_minute 130 = .ok (.sipush 1000, 3) := by decide +kernel
theorem dX4_minute_133 : decode cX4_minute 133 = .ok (.idiv, 1) := by decide +kernel
theorem dX4_minute_134 : decode cX4_minute 134 = .ok (.istore 6, 2) := by decide +kernel
theorem dX4_minute_136 : decode cX4_minute 136 = .ok (.aload_n 0, 1) := by decide +kernel
theorem dX4_minute_137 : decode cX4_minute 137 = .ok (.getfield 7, 3) := by decide +kernel
theorem dX4_minute_140 : decode cX4_minute 140 = .ok (.iload_n 3, 1) := by decide +kernel
theorem dX4_minute_141 : decode cX4_minute 141 = .ok (.iload 4, 2) := by decide +kernel
theorem dX4_minute_143 : decode cX4_minute 143 = .ok (.iadd, 1) := by decide +kernel
theorem dX4_minute_144 : decode cX4_minute 144 = .ok (.dup2, 1) := by decide +kernel
theorem dX4_minute_145 : decode cX4_minute 145 = .ok (.iaload, 1) := by decide +kernel
theorem dX4_minute_146 : decode cX4_minute 146 = .ok (.iload 6, 2) := by decide +kernel
theorem dX4_minute_148 : decode cX4_minute 148 = .ok (.isub, 1) := by decide +kernel
theorem dX4_minute_149 : decode cX4_minute 149 = .ok (.iastore, 1) := by decide +kernel
theorem dX4_minute_150 : decode cX4_minute 150 = .ok (.aload_n 0, 1) := by decide +kernel
theorem dX4_minute_151 : decode cX4_minute 151 = .ok (.getfield 7, 3) := by decide +kernel
theorem dX4_minute_154 : decode cX4_minute 154 = .ok (.iload_n 3, 1) := by decide +kernel
theorem dX4_minute_155 : decode cX4_minute 155 = .ok (.bipush 10, 2) := by decide +kernel
theorem dX4_minute_157 : decode cX4_minute 157 = .ok (.iadd, 1) := by decide +kernel
theorem dX4_minute_158 : decode cX4_minute 158 = .ok (.dup2, 1) := by decide +kernel
theorem dX4_minute_159 : decode cX4_minute 159 = .ok (.iaload, 1) := by decide +kernel
theorem dX4_minute_160 : decode cX4_minute 160 = .ok (.iload 6, 2) := by decide +kernel
theorem dX4_minute_162 : decode cX4_minute 162 = .ok (.iadd, 1) := by decide +kernel
theorem dX4_minute_163 : decode cX4_minute 163 = .ok (.iastore, 1) := by decide +kernel
theorem dX4_minute_164 : decode cX4_minute 164 = .ok (.iinc 2 (-1), 3) := by decide +kernel
theorem dX4_minute_167 : decode cX4_minute 167 = .ok (.goto (-155), 3) := by decide +kernel
theorem dX4_minute_170 : decode cX4_minute 170 = .ok (.aload_n 0, 1) := by decide +kernel
theorem dX4_minute_171 : decode cX4_minute 171 = .ok (.aload_n 0, 1) := by decide +kernel
theorem dX4_minute_172 : decode cX4_minute 172 = .ok (.getfield 7, 3) := by decide +kernel
theorem dX4_minute_175 : decode cX4_minute 175 = .ok (.bipush 24, 2) := by decide +kernel
theorem dX4_minute_177 : decode cX4_minute 177 = .ok (.iaload, 1) := by decide +kernel
theorem dX4_minute_178 : decode cX4_minute 178 = .ok (.invokevirtual 80, 3) := by decide +kernel
theorem dX4_minute_181 : decode cX4_minute 181 = .ok (.istore_n 2, 1) := by decide +kernel
theorem dX4_minute_182 : decode cX4_minute 182 = .ok (.aload_n 0, 1) := by decide +kernel
theorem dX4_minute_183 : decode cX4_minute 183 = .ok (.getfield 7, 3) := by decide +kernel
theorem dX4_minute_186 : decode cX4_minute 186 = .ok (.iload_n 2, 1) := by decide +kernel
theorem dX4_minute_187 : decode cX4_minute 187 = .ok (.dup2, 1) := by decide +kernel
theorem dX4_minute_188 : decode cX4_minute 188 = .ok (.iaload, 1) := by decide +kernel
theorem dX4_minute_189 : decode cX4_minute 189 = .ok (.aload_n 0, 1) := by decide +kernel
theorem dX4_minute_190 : decode cX4_minute 190 = .ok (.getfield 7, 3) := by decide +kernel
theorem dX4_minute_193 : decode cX4_minute 193 = .ok (.iload_n 2, 1) := by decide +kernel
theorem dX4_minute_194 : decode cX4_minute 194 = .ok (.iaload, 1) := by decide +kernel
theorem dX4_minute_195 : decode cX4_minute 195 = .ok (.aload_n 0, 1) := by decide +kernel
theorem dX4_minute_196 : decode cX4_minute 196 = .ok (.getfield 7, 3) := by decide +kernel
theorem dX4_minute_199 : decode cX4_minute 199 = .ok (.bipush 22, 2) := by decide +kernel
theorem dX4_minute_201 : decode cX4_minute 201 = .ok (.iaload, 1) := by decide +kernel
theorem dX4_minute_202 : decode cX4_minute 202 = .ok (.imul, 1) := by decide +kernel
theorem dX4_minute_203 : decode cX4_minute 203 = .ok (.sipush 1000, 3) := by decide +kernel
theorem dX4_minute_206 : decode cX4_minute 206 = .ok (.idiv, 1) := by decide +kernel
theorem dX4_minute_207 : decode cX4_minute 207 = .ok (.isub, 1) := by decide +kernel
theorem dX4_minute_208 : decode cX4_minute 208 = .ok (.iastore, 1) := by decide +kernel
theorem dX4_minute_209 : decode cX4_minute 209 = .ok (.aload_n 0, 1) := by decide +kernel
theorem dX4_minute_210 : decode cX4_minute 210 = .ok (.getfield 7, 3) := by decide +kernel
theorem dX4_minute_213 : decode cX4_minute 213 = .ok (.bipush 51, 2) := by decide +kernel
theorem dX4_minute_215 : decode cX4_minute 215 = .ok (.dup2, 1) := by decide +kernel
theorem dX4_minute_216 : decode cX4_minute 216 = .ok (.iaload, 1) := by decide +kernel
theorem dX4_minute_217 : decode cX4_minute 217 = .ok (.iconst 1, 1) := by decide +kernel
theorem dX4_minute_218 : decode cX4_minute 218 = .ok (.iadd, 1) := by decide +kernel
theorem dX4_minute_219 : decode cX4_minute 219 = .ok (.iastore, 1) := by decide +kernel
theorem dX4_minute_220 : decode cX4_minute 220 = .ok (.aload_n 0, 1) := by decide +kernel
theorem dX4_minute_221 : decode cX4_minute 221 = .ok (.getfield 7, 3) := by decide +kernel
theorem dX4_minute_224 : decode cX4_minute 224 = .ok (.bipush 52, 2) := by decide +kernel
theorem dX4_minute_226 : decode cX4_minute 226 = .ok (.iload_n 1, 1) := by decide +kernel
theorem dX4_minute_227 : decode cX4_minute 227 = .ok (.iastore, 1) := by decide +kernel
theorem dX4_minute_228 : decode cX4_minute 228 = .ok (.iload_n 1, 1) := by decide +kernel
theorem dX4_minute_229 : decode cX4_minute 229 = .ok (.ireturn, 1) := by decide +kernel
theorem dX4_shake_0 : decode cX4_shake 0 = .ok (.iload_n 1, 1) := by decide +kernel
theorem dX4_shake_1 : decode cX4_shake 1 = .ok (.iconst 1, 1) := by decide +kernel
theorem dX4_shake_2 : decode cX4_shake 2 = .ok (.sipush 200, 3) := by decide +kernel
theorem dX4_shake_5 : decode cX4_shake 5 = .ok (.invokestatic 30, 3) := by decide +kernel
theorem dX4_shake_8 : decode cX4_shake 8 = .ok (.ifCond .ne 5, 3) := by decide +kernel
theorem dX4_shake_11 : decode cX4_shake 11 = .ok (.iconst (-1), 1) := by decide +kernel
theorem dX4_shake_12 : decode cX4_shake 12 = .ok (.ireturn, 1) := by decide +kernel
theorem dX4_shake_13 : decode cX4_shake 13 = .ok (.aload_n 0, 1) := by decide +kernel
theorem dX4_shake_14 : decode cX4_shake 14 = .ok (.getfield 7, 3) := by decide +kernel
theorem dX4_shake_17 : decode cX4_shake 17 = .ok (.bipush 49, 2) := by decide +kernel
theorem dX4_shake_19 : decode cX4_shake 19 = .ok (.iaload, 1) := by decide +kernel
theorem dX4_shake_20 : decode cX4_shake 20 = .ok (.ifCond .ne 6, 3) := by decide +kernel
theorem dX4_shake_23 : decode cX4_shake 23 = .ok (.bipush (-2), 2) := by decide +kernel
theorem dX4_shake_25 : decode cX4_shake 25 = .ok (.ireturn, 1) := by decide +kernel
theorem dX4_shake_26 : decode cX4_shake 26 = .ok (.aload_n 0, 1) := by decide +kernel
theorem dX4_shake_27 : decode cX4_shake 27 = .ok (.invokevirtual 34, 3) := by decide +kernel
theorem dX4_shake_30 : decode cX4_shake 30 = .ok (.iconst 0, 1) := by decide +kernel
theorem dX4_shake_31 : decode cX4_shake 31 = .ok (.istore_n 2, 1) := by decide +kernel
theorem dX4_shake_32 : decode cX4_shake 32 = .ok (.iconst 0, 1) := by decide +kernel
theorem dX4_shake_33 : decode cX4_shake 33 = .ok (.istore_n 3, 1) := by decide +kernel
theorem dX4_shake_34 : decode cX4_shake 34 = .ok (.iload_n 3, 1) := by decide +kernel
theorem dX4_shake_35 : decode cX4_shake 35 = .ok (.iload_n 1, 1) := by decide +kernel
theorem dX4_shake_36 : decode cX4_shake 36 = .ok (.if_icmp .ge 16, 3) := by decide +kernel
theorem dX4_shake_39 : decode cX4_shake 39 = .ok (.iload_n 2, 1) := by decide +kernel
theorem dX4_shake_40 : decode cX4_shake 40 = .ok (.aload_n 0, 1) := by decide +kernel
theorem dX4_shake_41 : decode cX4_shake 41 = .ok (.invokevirtual 101, 3) := by decide +kernel
theorem dX4_shake_44 : decode cX4_shake 44 = .ok (.iadd, 1) := by decide +kernel
theorem dX4_shake_45 : decode cX4_shake 45 = .ok (.istore_n 2, 1) := by decide +kernel
theorem dX4_shake_46 : decode cX4_shake 46 = .ok (.iinc 3 1, 3) := by decide +kernel
theorem dX4_shake_49 : decode cX4_shake 49 = .ok (.goto (-15), 3) := by decide +kernel
theorem dX4_shake_52 : decode cX4_shake 52 = .ok (.iload_n 2, 1) := by decide +kernel
theorem dX4_shake_53 : decode cX4_shake 53 = .ok (.ireturn, 1) := by decide +kernel
theorem dX4_collect_0 : decode cX4_collect 0 = .ok (.aload_n 0, 1) := by decide +kernel
theorem dX4_collect_1 : decode cX4_collect 1 = .ok (.iload_n 1, 1) := by decide +kernel
theorem dX4_collect_2 : decode cX4_collect 2 = .ok (.invokevirtual 83, 3) := by decide +kernel
theorem dX4_collect_5 : decode cX4_collect 5 = .ok (.ifCond .ne 5, 3) := by decide +kernel
theorem dX4_collect_8 : decode cX4_collect 8 = .ok (.iconst (-1), 1) := by decide +kernel
theorem dX4_collect_9 : decode cX4_collect 9 = .ok (.ireturn, 1) := by decide +kernel
theorem dX4_collect_10 : decode cX4_collect 10 = .ok (.aload_n 0, 1) := by decide +kernel
theorem dX4_collect_11 : decode cX4_collect 11 = .ok (.getfield 7, 3) := by decide +kernel
theorem dX4_collect_14 : decode cX4_collect 14 = .ok (.bipush 49, 2) := by decide +kernel
theorem dX4_collect_16 : decode cX4_collect 16 = .ok (.iaload, 1) := by decide +kernel
theorem dX4_collect_17 : decode cX4_collect 17 = .ok (.ifCond .ne 6, 3) := by decide +kernel
theorem dX4_collect_20 : decode cX4_collect 20 = .ok (.bipush (-2), 2) := by decide +kernel
theorem dX4_collect_22 : decode cX4_collect 22 = .ok (.ireturn, 1) := by decide +kernel
theorem dX4_collect_23 : decode cX4_collect 23 = .ok (.aload_n 0, 1) := by decide +kernel
theorem dX4_collect_24 : decode cX4_collect 24 = .ok (.invokevirtual 34, 3) := by decide +kernel
theorem dX4_collect_27 : decode cX4_collect 27 = .ok (.aload_n 0, 1) := by decide +kernel
theorem dX4_collect_28 : decode cX4_collect 28 = .ok (.aload_n 0, 1) := by decide +kernel
theorem dX4_collect_29 : decode cX4_collect 29 = .ok (.iload_n 1, 1) := by decide +kernel
theorem dX4_collect_30 : decode cX4_collect 30 = .ok (.invokevirtual 80, 3) := by decide +kernel
theorem dX4_collect_33 : decode cX4_collect 33 = .ok (.invokevirtual 37, 3) := by decide +kernel
theorem dX4_collect_36 : decode cX4_collect 36 = .ok (.istore_n 2, 1) := by decide +kernel
theorem dX4_collect_37 : decode cX4_collect 37 = .ok (.iconst 0, 1) := by decide +kernel
theorem dX4_collect_38 : decode cX4_collect 38 = .ok (.istore_n 3, 1) := by decide +kernel
theorem dX4_collect_39 : decode cX4_collect 39 = .ok (.iload_n 3, 1) := by decide +kernel
theorem dX4_collect_40 : decode cX4_collect 40 = .ok (.bipush 10, 2) := by decide +kernel
theorem dX4_collect_42 : decode cX4_collect 42 = .ok (.if_icmp .ge 22, 3) := by decide +kernel
theorem dX4_collect_45 : decode cX4_collect 45 = .ok (.aload_n 0, 1) := by decide +kernel
theorem dX4_collect_46 : decode cX4_collect 46 = .ok (.getfield 7, 3) := by decide +kernel
theorem dX4_collect_49 : decode cX4_collect 49 = .ok (.aload_n 0, 1) := by decide +kernel
theorem dX4_collect_50 : decode cX4_collect 50 = .ok (.iload_n 1, 1) := by decide +kernel
theorem dX4_collect_51 : decode cX4_collect 51 = .ok (.invokevirtual 80, 3) := by decide +kernel
theorem dX4_collect_54 : decode cX4_collect 54 = .ok (.iload_n 3, 1) := by decide +kernel
theorem dX4_collect_55 : decode cX4_collect 55 = .ok (.iadd, 1) := by decide +kernel
theorem dX4_collect_56 : decode cX4_collect 56 = .ok (.iconst 0, 1) := by decide +kernel
theorem dX4_collect_57 : decode cX4_collect 57 = .ok (.iastore, 1) := by decide +kernel
theorem dX4_collect_58 : decode cX4_collect 58 = .ok (.iinc 3 1, 3) := by decide +kernel
theorem dX4_collect_61 : decode cX4_collect 61 = .ok (.goto (-22), 3) := by decide +kernel
theorem dX4_collect_64 : decode cX4_collect 64 = .ok (.aload_n 0, 1) := by decide +kernel
theorem dX4_collect_65 : decode cX4_collect 65 = .ok (.getfield 7, 3) := by decide +kernel
theorem dX4_collect_68 : decode cX4_collect 68 = .ok (.aload_n 0, 1) := by decide +kernel
theorem dX4_collect_69 : decode cX4_collect 69 = .ok (.iload_n 1, 1) := by decide +kernel
theorem dX4_collect_70 : decode cX4_collect 70 = .ok (.invokevirtual 80, 3) := by decide +kernel
theorem dX4_collect_73 : decode cX4_collect 73 = .ok (.bipush 11, 2) := by decide +kernel
theorem dX4_collect_75 : decode cX4_collect 75 = .ok (.iadd, 1) := by decide +kernel
theorem dX4_collect_76 : decode cX4_collect 76 = .ok (.dup2, 1) := by decide +kernel
theorem dX4_collect_77 : decode cX4_collect 77 = .ok (.iaload, 1) := by decide +kernel
theorem dX4_collect_78 : decode cX4_collect 78 = .ok (.iload_n 2, 1) := by decide +kernel
theorem dX4_collect_79 : decode cX4_collect 79 = .ok (.iadd, 1) := by decide +kernel
theorem dX4_collect_80 : decode cX4_collect 80 = .ok (.iastore, 1) := by decide +kernel
theorem dX4_collect_81 : decode cX4_collect 81 = .ok (.iload_n 2, 1) := by decide +kernel
theorem dX4_collect_82 : decode cX4_collect 82 = .ok (.ireturn, 1) := by decide +kernel
theorem dX4_brush_0 : decode cX4_brush 0 = .ok (.aload_n 0, 1) := by decide +kernel
theorem dX4_brush_1 : decode cX4_brush 1 = .ok (.iload_n 1, 1) := by decide +kernel
theorem dX4_brush_2 : decode cX4_brush 2 = .ok (.invokevirtual 76, 3) := by decide +kernel
theorem dX4_brush_5 : decode cX4_brush 5 = .ok (.ifCond .eq 12, 3) := by decide +kernel
theorem dX4_brush_8 : decode cX4_brush 8 = .ok (.iload_n 2, 1) := by decide +kernel
theorem dX4_brush_9 : decode cX4_brush 9 = .ok (.iconst 0, 1) := by decide +kernel
theorem dX4_brush_10 : decode cX4_brush 10 = .ok (.iconst 1, 1) := by decide +kernel
theorem dX4_brush_11 : decode cX4_brush 11 = .ok (.invokestatic 30, 3) := by decide +kernel
theorem dX4_brush_14 : decode cX4_brush 14 = .ok (.ifCond .ne 5, 3) := by decide +kernel
theorem dX4_brush_17 : decode cX4_brush 17 = .ok (.iconst (-1), 1) := by decide +kernel
theorem dX4_brush_18 : decode cX4_brush 18 = .ok (.ireturn, 1) := by decide +kernel
theorem dX4_brush_19 : decode cX4_brush 19 = .ok (.aload_n 0, 1) := by decide +kernel
theorem dX4_brush_20 : decode cX4_brush 20 = .ok (.getfield 7, 3) := by decide +kernel
theorem dX4_brush_23 : decode cX4_brush 23 = .ok (.bipush 49, 2) := by decide +kernel
theorem dX4_brush_25 : decode cX4_brush 25 = .ok (.iaload, 1) := by decide +kernel
theorem dX4_brush_26 : decode cX4_brush 26 = .ok (.ifCond .ne 6, 3) := by decide +kernel
theorem dX4_brush_29 : decode cX4_brush 29 = .ok (.bipush (-2), 2) := by decide +kernel
theorem dX4_brush_31 : decode cX4_brush 31 = .ok (.ireturn, 1) := by decide +kernel
theorem dX4_brush_32 : decode cX4_brush 32 = .ok (.aload_n 0, 1) := by decide +kernel
theorem dX4_brush_33 : decode cX4_brush 33 = .ok (.invokevirtual 34, 3) := by decide +kernel
theorem dX4_brush_36 : decode cX4_brush 36 = .ok (.aload_n 0, 1) := by decide +kernel
theorem dX4_brush_37 : decode cX4_brush 37 = .ok (.getfield 7, 3) := by decide +kernel
theorem dX4_brush_40 : decode cX4_brush 40 = .ok (.aload_n 0, 1) := by decide +kernel
theorem dX4_brush_41 : decode cX4_brush 41 = .ok (.iload_n 1, 1) := by decide +kernel
theorem dX4_brush_42 : decode cX4_brush 42 = .ok (.invokevirtual 80, 3) := by decide +kernel
theorem dX4_brush_45 : decode cX4_brush 45 = .ok (.bipush 10, 2) := by decide +kernel
theorem dX4_brush_47 : decode cX4_brush 47 = .ok (.iadd, 1) := by decide +kernel
theorem dX4_brush_48 : decode cX4_brush 48 = .ok (.iaload, 1) := by decide +kernel
theorem dX4_brush_49 : decode cX4_brush 49 = .ok (.istore_n 3, 1) := by decide +kernel
theorem dX4_brush_50 : decode cX4_brush 50 = .ok (.aload_n 0, 1) := by decide +kernel
theorem dX4_brush_51 : decode cX4_brush 51 = .ok (.getfield 7, 3) := by decide +kernel
theorem dX4_brush_54 : decode cX4_brush 54 = .ok (.aload_n 0, 1) := by decide +kernel
theorem dX4_brush_55 : decode cX4_brush 55 = .ok (.iload_n 1, 1) := by decide +kernel
theorem dX4_brush_56 : decode cX4_brush 56 = .ok (.invokevirtual 80, 3) := by decide +kernel
theorem dX4_brush_59 : decode cX4_brush 59 = .ok (.bipush 10, 2) := by decide +kernel
theorem dX4_brush_61 : decode cX4_brush 61 = .ok (.iadd, 1) := by decide +kernel
theorem dX4_brush_62 : decode cX4_brush 62 = .ok (.iconst 0, 1) := by decide +kernel
theorem dX4_brush_63 : decode cX4_brush 63 = .ok (.iastore, 1) := by decide +kernel
theorem dX4_brush_64 : decode cX4_brush 64 = .ok (.aload_n 0, 1) := by decide +kernel
theorem dX4_brush_65 : decode cX4_brush 65 = .ok (.getfield 7, 3) := by decide +kernel
theorem dX4_brush_68 : decode cX4_brush 68 = .ok (.aload_n 0, 1) := by decide +kernel
theorem dX4_brush_69 : decode cX4_brush 69 = .ok (.iload_n 1, 1) := by decide +kernel
theorem dX4_brush_70 : decode cX4_brush 70 = .ok (.invokevirtual 80, 3) := by decide +kernel
theorem dX4_brush_73 : decode cX4_brush 73 = .ok (.bipush 11, 2) := by decide +kernel
theorem dX4_brush_75 : decode cX4_brush 75 = .ok (.iadd, 1) := by decide +kernel
theorem dX4_brush_76 : decode cX4_brush 76 = .ok (.dup2, 1) := by decide +kernel
theorem dX4_brush_77 : decode cX4_brush 77 = .ok (.iaload, 1) := by decide +kernel
theorem dX4_brush_78 : decode cX4_brush 78 = .ok (.iload_n 2, 1) := by decide +kernel
theorem dX4_brush_79 : decode cX4_brush 79 = .ok (.iconst 1, 1) := by decide +kernel
theorem dX4_brush_80 : decode cX4_brush 80 = .ok (.if_icmp .ne 7, 3) := by decide +kernel
theorem dX4_brush_83 : decode cX4_brush 83 = .ok (.iload_n 3, 1) := by decide +kernel
theorem dX4_brush_84 : decode cX4_brush 84 = .ok (.goto 4, 3) := by decide +kernel
theorem dX4_brush_87 : decode cX4_brush 87 = .ok (.iconst 0, 1) := by decide +kernel
theorem dX4_brush_88 : decode cX4_brush 88 = .ok (.iadd, 1) := by decide +kernel
theorem dX4_brush_89 : decode cX4_brush 89 = .ok (.iastore, 1) := by decide +kernel
theorem dX4_brush_90 : decode cX4_brush 90 = .ok (.iload_n 3, 1) := by decide +kernel
theorem dX4_brush_91 : decode cX4_brush 91 = .ok (.ireturn, 1) := by decide +kernel
theorem dX4_lost_0 : decode cX4_lost 0 = .ok (.aload_n 0, 1) := by decide +kernel
theorem dX4_lost_1 : decode cX4_lost 1 = .ok (.getfield 7, 3) := by decide +kernel
theorem dX4_lost_4 : decode cX4_lost 4 = .ok (.bipush 50, 2) := by decide +kernel
theorem dX4_lost_6 : decode cX4_lost 6 = .ok (.iaload, 1) := by decide +kernel
theorem dX4_lost_7 : decode cX4_lost 7 = .ok (.istore_n 1, 1) := by decide +kernel
theorem dX4_lost_8 : decode cX4_lost 8 = .ok (.iconst 0, 1) := by decide +kernel
theorem dX4_lost_9 : decode cX4_lost 9 = .ok (.istore_n 2, 1) := by decide +kernel
theorem dX4_lost_10 : decode cX4_lost 10 = .ok (.iload_n 2, 1) := by decide +kernel
theorem dX4_lost_11 : decode cX4_lost 11 = .ok (.aload_n 0, 1) := by decide +kernel
theorem dX4_lost_12 : decode cX4_lost 12 = .ok (.getfield 7, 3) := by decide +kernel
theorem dX4_lost_15 : decode cX4_lost 15 = .ok (.bipush 24, 2) := by decide +kernel
theorem dX4_lost_17 : decode cX4_lost 17 = .ok (.iaload, 1) := by decide +kernel
theorem dX4_lost_18 : decode cX4_lost 18 = .ok (.if_icmp .gt 49, 3) := by decide +kernel
theorem dX4_lost_21 : decode cX4_lost 21 = .ok (.iload_n 1, 1) := by decide +kernel
theorem dX4_lost_22 : decode cX4_lost 22 = .ok (.aload_n 0, 1) := by decide +kernel
theorem dX4_lost_23 : decode cX4_lost 23 = .ok (.aload_n 0, 1) := by decide +kernel
theorem dX4_lost_24 : decode cX4_lost 24 = .ok (.iload_n 2, 1) := by decide +kernel
theorem dX4_lost_25 : decode cX4_lost 25 = .ok (.invokevirtual 80, 3) := by decide +kernel
theorem dX4_lost_28 : decode cX4_lost 28 = .ok (.invokevirtual 37, 3) := by decide +kernel
theorem dX4_lost_31 : decode cX4_lost 31 = .ok (.aload_n 0, 1) := by decide +kernel
theorem dX4_lost_32 : decode cX4_lost 32 = .ok (.getfield 7, 3) := by decide +kernel
theorem dX4_lost_35 : decode cX4_lost 35 = .ok (.aload_n 0, 1) := by decide +kernel
theorem dX4_lost_36 : decode cX4_lost 36 = .ok (.iload_n 2, 1) := by decide +kernel
theorem dX4_lost_37 : decode cX4_lost 37 = .ok (.invokevirtual 80, 3) := by decide +kernel
theorem dX4_lost_40 : decode cX4_lost 40 = .ok (.bipush 10, 2) := by decide +kernel
theorem dX4_lost_42 : decode cX4_lost 42 = .ok (.iadd, 1) := by decide +kernel
theorem dX4_lost_43 : decode cX4_lost 43 = .ok (.iaload, 1) := by decide +kernel
theorem dX4_lost_44 : decode cX4_lost 44 = .ok (.iadd, 1) := by decide +kernel
theorem dX4_lost_45 : decode cX4_lost 45 = .ok (.aload_n 0, 1) := by decide +kernel
theorem dX4_lost_46 : decode cX4_lost 46 = .ok (.getfield 7, 3) := by decide +kernel
theorem dX4_lost_49 : decode cX4_lost 49 = .ok (.aload_n 0, 1) := by decide +kernel
theorem dX4_lost_50 : decode cX4_lost 50 = .ok (.iload_n 2, 1) := by decide +kernel
theorem dX4_lost_51 : decode cX4_lost 51 = .ok (.invokevirtual 80, 3) := by decide +kernel
theorem dX4_lost_54 : decode cX4_lost 54 = .ok (.bipush 11, 2) := by decide +kernel
theorem dX4_lost_56 : decode cX4_lost 56 = .ok (.iadd, 1) := by decide +kernel
theorem dX4_lost_57 : decode cX4_lost 57 = .ok (.iaload, 1) := by decide +kernel
theorem dX4_lost_58 : decode cX4_lost 58 = .ok (.iadd, 1) := by decide +kernel
theorem dX4_lost_59 : decode cX4_lost 59 = .ok (.isub, 1) := by decide +kernel
theorem dX4_lost_60 : decode cX4_lost 60 = .ok (.istore_n 1, 1) := by decide +kernel
theorem dX4_lost_61 : decode cX4_lost 61 = .ok (.iinc 2 1, 3) := by decide +kernel
theorem dX4_lost_64 : decode cX4_lost 64 = .ok (.goto (-54), 3) := by decide +kernel
theorem dX4_lost_67 : decode cX4_lost 67 = .ok (.iload_n 1, 1) := by decide +kernel
theorem dX4_lost_68 : decode cX4_lost 68 = .ok (.ireturn, 1) := by decide +kernel
theorem dX4_loss_0 : decode cX4_loss 0 = .ok (.aload_n 0, 1) := by decide +kernel
theorem dX4_loss_1 : decode cX4_loss 1 = .ok (.getfield 7, 3) := by decide +kernel
theorem dX4_loss_4 : decode cX4_loss 4 = .ok (.bipush 49, 2) := by decide +kernel
theorem dX4_loss_6 : decode cX4_loss 6 = .ok (.iaload, 1) := by decide +kernel
theorem dX4_loss_7 : decode cX4_loss 7 = .ok (.ifCond .ne 8, 3) := by decide +kernel
theorem dX4_loss_10 : decode cX4_loss 10 = .ok (.bipush (-2), 2) := by decide +kernel
theorem dX4_loss_12 : decode cX4_loss 12 = .ok (.goto 7, 3) := by decide +kernel
theorem dX4_loss_15 : decode cX4_loss 15 = .ok (.aload_n 0, 1) := by decide +kernel
theorem dX4_loss_16 : decode cX4_loss 16 = .ok (.invokevirtual 104, 3) := by decide +kernel
theorem dX4_loss_19 : decode cX4_loss 19 = .ok (.ireturn, 1) := by decide +kernel
theorem dX4_isGood_0 : decode cX4_isGood 0 = .ok (.aload_n 0, 1) := by decide +kernel
theorem dX4_isGood_1 : decode cX4_isGood 1 = .ok (.getfield 7, 3) := by decide +kernel
theorem dX4_isGood_4 : decode cX4_isGood 4 = .ok (.bipush 49, 2) := by decide +kernel
theorem dX4_isGood_6 : decode cX4_isGood 6 = .ok (.iaload, 1) := by decide +kernel
theorem dX4_isGood_7 : decode cX4_isGood 7 = .ok (.ifCond .ne 8, 3) := by decide +kernel
theorem dX4_isGood_10 : decode cX4_isGood 10 = .ok (.bipush (-2), 2) := by decide +kernel
theorem dX4_isGood_12 : decode cX4_isGood 12 = .ok (.goto 38, 3) := by decide +kernel
theorem dX4_isGood_15 : decode cX4_isGood 15 = .ok (.aload_n 0, 1) := by decide +kernel
theorem dX4_isGood_16 : decode cX4_isGood 16 = .ok (.invokevirtual 104, 3) := by decide +kernel
theorem dX4_isGood_19 : decode cX4_isGood 19 = .ok (.i2l, 1) := by decide +kernel
theorem dX4_isGood_20 : decode cX4_isGood 20 = .ok (.ldc2_w 107, 3) := by decide +kernel
theorem dX4_isGood_23 : decode cX4_isGood 23 = .ok (.lmul, 1) := by decide +kernel
theorem dX4_isGood_24 : decode cX4_isGood 24 = .ok (.aload_n 0, 1) := by decide +kernel
theorem dX4_isGood_25 : decode cX4_isGood 25 = .ok (.getfield 7, 3) := by decide +kernel
theorem dX4_isGood_28 : decode cX4_isGood 28 = .ok (.bipush 23, 2) := by decide +kernel
theorem dX4_isGood_30 : decode cX4_isGood 30 = .ok (.iaload, 1) := by decide +kernel
theorem dX4_isGood_31 : decode cX4_isGood 31 = .ok (.i2l, 1) := by decide +kernel
theorem dX4_isGood_32 : decode cX4_isGood 32 = .ok (.aload_n 0, 1) := by decide +kernel
theorem dX4_isGood_33 : decode cX4_isGood 33 = .ok (.getfield 7, 3) := by decide +kernel
theorem dX4_isGood_36 : decode cX4_isGood 36 = .ok (.bipush 50, 2) := by decide +kernel
theorem dX4_isGood_38 : decode cX4_isGood 38 = .ok (.iaload, 1) := by decide +kernel
theorem dX4_isGood_39 : decode cX4_isGood 39 = .ok (.i2l, 1) := by decide +kernel
theorem dX4_isGood_40 : decode cX4_isGood 40 = .ok (.lmul, 1) := by decide +kernel
theorem dX4_isGood_41 : decode cX4_isGood 41 = .ok (.lcmp, 1) := by decide +kernel
theorem dX4_isGood_42 : decode cX4_isGood 42 = .ok (.ifCond .gt 7, 3) := by decide +kernel
theorem dX4_isGood_45 : decode cX4_isGood 45 = .ok (.iconst 1, 1) := by decide +kernel
theorem dX4_isGood_46 : decode cX4_isGood 46 = .ok (.goto 4, 3) := by decide +kernel
theorem dX4_isGood_49 : decode cX4_isGood 49 = .ok (.iconst 0, 1) := by decide +kernel
theorem dX4_isGood_50 : decode cX4_isGood 50 = .ok (.ireturn, 1) := by decide +kernel
theorem dX4_collected_0 : decode cX4_collected 0 = .ok (.iconst 0, 1) := by decide +kernel
theorem dX4_collected_1 : decode cX4_collected 1 = .ok (.istore_n 2, 1) := by decide +kernel
theorem dX4_collected_2 : decode cX4_collected 2 = .ok (.iload_n 1, 1) := by decide +kernel
theorem dX4_collected_3 : decode cX4_collected 3 = .ok (.istore_n 3, 1) := by decide +kernel
theorem dX4_collected_4 : decode cX4_collected 4 = .ok (.iload_n 3, 1) := by decide +kernel
theorem dX4_collected_5 : decode cX4_collected 5 = .ok (.aload_n 0, 1) := by decide +kernel
theorem dX4_collected_6 : decode cX4_collected 6 = .ok (.getfield 7, 3) := by decide +kernel
theorem dX4_collected_9 : decode cX4_collected 9 = .ok (.bipush 24, 2) := by decide +kernel
theorem dX4_collected_11 : decode cX4_collected 11 = .ok (.iaload, 1) := by decide +kernel
theorem dX4_collected_12 : decode cX4_collected 12 = .ok (.if_icmp .gt 25, 3) := by decide +kernel
theorem dX4_collected_15 : decode cX4_collected 15 = .ok (.iload_n 2, 1) := by decide +kernel
theorem dX4_collected_16 : decode cX4_collected 16 = .ok (.aload_n 0, 1) := by decide +kernel
theorem dX4_collected_17 : decode cX4_collected 17 = .ok (.getfield 7, 3) := by decide +kernel
theorem dX4_collected_20 : decode cX4_collected 20 = .ok (.aload_n 0, 1) := by decide +kernel
theorem dX4_collected_21 : decode cX4_collected 21 = .ok (.iload_n 3, 1) := by decide +kernel
theorem dX4_collected_22 : decode cX4_collected 22 = .ok (.invokevirtual 80, 3) := by decide +kernel
theorem dX4_collected_25 : decode cX4_collected 25 = .ok (.bipush 11, 2) := by decide +kernel
theorem dX4_collected_27 : decode cX4_collected 27 = .ok (.iadd, 1) := by decide +kernel
theorem dX4_collected_28 : decode cX4_collected 28 = .ok (.iaload, 1) := by decide +kernel
theorem dX4_collected_29 : decode cX4_collected 29 = .ok (.iadd, 1) := by decide +kernel
theorem dX4_collected_30 : decode cX4_collected 30 = .ok (.istore_n 2, 1) := by decide +kernel
theorem dX4_collected_31 : decode cX4_collected 31 = .ok (.iinc 3 1, 3) := by decide +kernel
theorem dX4_collected_34 : decode cX4_collected 34 = .ok (.goto (-30), 3) := by decide +kernel
theorem dX4_collected_37 : decode cX4_collected 37 = .ok (.iload_n 2, 1) := by decide +kernel
theorem dX4_collected_38 : decode cX4_collected 38 = .ok (.ireturn, 1) := by decide +kernel
theorem dX4_isTold_0 : decode cX4_isTold 0 = .ok (.aload_n 0, 1) := by decide +kernel
theorem dX4_isTold_1 : decode cX4_isTold 1 = .ok (.getfield 7, 3) := by decide +kernel
theorem dX4_isTold_4 : decode cX4_isTold 4 = .ok (.bipush 49, 2) := by decide +kernel
theorem dX4_isTold_6 : decode cX4_isTold 6 = .ok (.iaload, 1) := by decide +kernel
theorem dX4_isTold_7 : decode cX4_isTold 7 = .ok (.iconst 1, 1) := by decide +kernel
theorem dX4_isTold_8 : decode cX4_isTold 8 = .ok (.if_icmp .ne 15, 3) := by decide +kernel
theorem dX4_isTold_11 : decode cX4_isTold 11 = .ok (.aload_n 0, 1) := by decide +kernel
theorem dX4_isTold_12 : decode cX4_isTold 12 = .ok (.iconst 0, 1) := by decide +kernel
theorem dX4_isTold_13 : decode cX4_isTold 13 = .ok (.invokevirtual 109, 3) := by decide +kernel
theorem dX4_isTold_16 : decode cX4_isTold 16 = .ok (.ifCond .le 7, 3) := by decide +kernel
theorem dX4_isTold_19 : decode cX4_isTold 19 = .ok (.iconst 1, 1) := by decide +kernel
theorem dX4_isTold_20 : decode cX4_isTold 20 = .ok (.goto 4, 3) := by decide +kernel
theorem dX4_isTold_23 : decode cX4_isTold 23 = .ok (.iconst 0, 1) := by decide +kernel
theorem dX4_isTold_24 : decode cX4_isTold 24 = .ok (.ireturn, 1) := by decide +kernel
theorem dX4_passes_0 : decode cX4_passes 0 = .ok (.aload_n 0, 1) := by decide +kernel
theorem dX4_passes_1 : decode cX4_passes 1 = .ok (.iload_n 1, 1) := by decide +kernel
theorem dX4_passes_2 : decode cX4_passes 2 = .ok (.iconst 1, 1) := by decide +kernel
theorem dX4_passes_3 : decode cX4_passes 3 = .ok (.iadd, 1) := by decide +kernel
theorem dX4_passes_4 : decode cX4_passes 4 = .ok (.invokevirtual 109, 3) := by decide +kernel
theorem dX4_passes_7 : decode cX4_passes 7 = .ok (.i2l, 1) := by decide +kernel
theorem dX4_passes_8 : decode cX4_passes 8 = .ok (.ldc2_w 107, 3) := by decide +kernel
theorem dX4_passes_11 : decode cX4_passes 11 = .ok (.lmul, 1) := by decide +kernel
theorem dX4_passes_12 : decode cX4_passes 12 = .ok (.aload_n 0, 1) := by decide +kernel
theorem dX4_passes_13 : decode cX4_passes 13 = .ok (.iconst 0, 1) := by decide +kernel
theorem dX4_passes_14 : decode cX4_passes 14 = .ok (.invokevirtual 109, 3) := by decide +kernel
theorem dX4_passes_17 : decode cX4_passes 17 = .ok (.i2l, 1) := by decide +kernel
theorem dX4_passes_18 : decode cX4_passes 18 = .ok (.ldiv, 1) := by decide +kernel
theorem dX4_passes_19 : decode cX4_passes 19 = .ok (.l2i, 1) := by decide +kernel
theorem dX4_passes_20 : decode cX4_passes 20 = .ok (.ireturn, 1) := by decide +kernel
theorem dX4_passing_0 : decode cX4_passing 0 = .ok (.aload_n 0, 1) := by decide +kernel
theorem dX4_passing_1 : decode cX4_passing 1 = .ok (.iload_n 1, 1) := by decide +kernel
theorem dX4_passing_2 : decode cX4_passing 2 = .ok (.invokevirtual 76, 3) := by decide +kernel
theorem dX4_passing_5 : decode cX4_passing 5 = .ok (.ifCond .ne 7, 3) := by decide +kernel
theorem dX4_passing_8 : decode cX4_passing 8 = .ok (.iconst (-1), 1) := by decide +kernel
theorem dX4_passing_9 : decode cX4_passing 9 = .ok (.goto 20, 3) := by decide +kernel
theorem dX4_passing_12 : decode cX4_passing 12 = .ok (.aload_n 0, 1) := by decide +kernel
theorem dX4_passing_13 : decode cX4_passing 13 = .ok (.invokevirtual 112, 3) := by decide +kernel
theorem dX4_passing_16 : decode cX4_passing 16 = .ok (.ifCond .eq 11, 3) := by decide +kernel
theorem dX4_passing_19 : decode cX4_passing 19 = .ok (.aload_n 0, 1) := by decide +kernel
theorem dX4_passing_20 : decode cX4_passing 20 = .ok (.iload_n 1, 1) := by decide +kernel
theorem dX4_passing_21 : decode cX4_passing 21 = .ok (.invokevirtual 115, 3) := by decide +kernel
theorem dX4_passing_24 : decode cX4_passing 24 = .ok (.goto 5, 3) := by decide +kernel
theorem dX4_passing_27 : decode cX4_passing 27 = .ok (.bipush (-2), 2) := by decide +kernel
theorem dX4_passing_29 : decode cX4_passing 29 = .ok (.ireturn, 1) := by decide +kernel
theorem dX4_misses_0 : decode cX4_misses 0 = .ok (.aload_n 0, 1) := by decide +kernel
theorem dX4_misses_1 : decode cX4_misses 1 = .ok (.invokevirtual 112, 3) := by decide +kernel
theorem dX4_misses_4 : decode cX4_misses 4 = .ok (.ifCond .ne 6, 3) := by decide +kernel
theorem dX4_misses_7 : decode cX4_misses 7 = .ok (.bipush (-2), 2) := by decide +kernel
theorem dX4_misses_9 : decode cX4_misses 9 = .ok (.ireturn, 1) := by decide +kernel
theorem dX4_misses_10 : decode cX4_misses 10 = .ok (.iconst 0, 1) := by decide +kernel
theorem dX4_misses_11 : decode cX4_misses 11 = .ok (.istore_n 1, 1) := by decide +kernel
theorem dX4_misses_12 : decode cX4_misses 12 = .ok (.iconst 0, 1) := by decide +kernel
theorem dX4_misses_13 : decode cX4_misses 13 = .ok (.istore_n 2, 1) := by decide +kernel
theorem dX4_misses_14 : decode cX4_misses 14 = .ok (.iload_n 2, 1) := by decide +kernel
theorem dX4_misses_15 : decode cX4_misses 15 = .ok (.aload_n 0, 1) := by decide +kernel
theorem dX4_misses_16 : decode cX4_misses 16 = .ok (.getfield 7, 3) := by decide +kernel
theorem dX4_misses_19 : decode cX4_misses 19 = .ok (.bipush 24, 2) := by decide +kernel
theorem dX4_misses_21 : decode cX4_misses 21 = .ok (.iaload, 1) := by decide +kernel
theorem dX4_misses_22 : decode cX4_misses 22 = .ok (.if_icmp .ge 59, 3) := by decide +kernel
theorem dX4_misses_25 : decode cX4_misses 25 = .ok (.bipush 31, 2) := by decide +kernel
theorem dX4_misses_27 : decode cX4_misses 27 = .ok (.iconst 2, 1) := by decide +kernel
theorem dX4_misses_28 : decode cX4_misses 28 = .ok (.aload_n 0, 1) := by decide +kernel
theorem dX4_misses_29 : decode cX4_misses 29 = .ok (.getfield 7, 3) := by decide +kernel
theorem dX4_misses_32 : decode cX4_misses 32 = .ok (.bipush 25, 2) := by decide +kernel
theorem dX4_misses_34 : decode cX4_misses 34 = .ok (.iload_n 2, 1) := by decide +kernel
theorem dX4_misses_35 : decode cX4_misses 35 = .ok (.iadd, 1) := by decide +kernel
theorem dX4_misses_36 : decode cX4_misses 36 = .ok (.iaload, 1) := by decide +kernel
theorem dX4_misses_37 : decode cX4_misses 37 = .ok (.imul, 1) := by decide +kernel
theorem dX4_misses_38 : decode cX4_misses 38 = .ok (.iadd, 1) := by decide +kernel
theorem dX4_misses_39 : decode cX4_misses 39 = .ok (.iconst 2, 1) := by decide +kernel
theorem dX4_misses_40 : decode cX4_misses 40 = .ok (.isub, 1) := by decide +kernel
theorem dX4_misses_41 : decode cX4_misses 41 = .ok (.istore_n 3, 1) := by decide +kernel
theorem dX4_misses_42 : decode cX4_misses 42 = .ok (.iload_n 1, 1) := by decide +kernel
theorem dX4_misses_43 : decode cX4_misses 43 = .ok (.aload_n 0, 1) := by decide +kernel
theorem dX4_misses_44 : decode cX4_misses 44 = .ok (.iload_n 2, 1) := by decide +kernel
theorem dX4_misses_45 : decode cX4_misses 45 = .ok (.invokevirtual 115, 3) := by decide +kernel
theorem dX4_misses_48 : decode cX4_misses 48 = .ok (.aload_n 0, 1) := by decide +kernel
theorem dX4_misses_49 : decode cX4_misses 49 = .ok (.getfield 7, 3) := by decide +kernel
theorem dX4_misses_52 : decode cX4_misses 52 = .ok (.iload_n 3, 1) := by decide +kernel
theorem dX4_misses_53 : decode cX4_misses 53 = .ok (.iaload, 1) := by decide +kernel
theorem dX4_misses_54 : decode cX4_misses 54 = .ok (.aload_n 0, 1) := by decide +kernel
theorem dX4_misses_55 : decode cX4_misses 55 = .ok (.getfield 7, 3) := by decide +kernel
theorem dX4_misses_58 : decode cX4_misses 58 = .ok (.iload_n 3, 1) := by decide +kernel
theorem dX4_misses_59 : decode cX4_misses 59 = .ok (.iconst 1, 1) := by decide +kernel
theorem dX4_misses_60 : decode cX4_misses 60 = .ok (.iadd, 1) := by decide +kernel
theorem dX4_misses_61 : decode cX4_misses 61 = .ok (.iaload, 1) := by decide +kernel
theorem dX4_misses_62 : decode cX4_misses 62 = .ok (.invokestatic 30, 3) := by decide +kernel
theorem dX4_misses_65 : decode cX4_misses 65 = .ok (.ifCond .eq 7, 3) := by decide +kernel
theorem dX4_misses_68 : decode cX4_misses 68 = .ok (.iconst 0, 1) := by decide +kernel
theorem dX4_misses_69 : decode cX4_misses 69 = .ok (.goto 4, 3) := by decide +kernel
theorem dX4_misses_72 : decode cX4_misses 72 = .ok (.iconst 1, 1) := by decide +kernel
theorem dX4_misses_73 : decode cX4_misses 73 = .ok (.iadd, 1) := by decide +kernel
theorem dX4_misses_74 : decode cX4_misses 74 = .ok (.istore_n 1, 1) := by decide +kernel
theorem dX4_misses_75 : decode cX4_misses 75 = .ok (.iinc 2 1, 3) := by decide +kernel
theorem dX4_misses_78 : decode cX4_misses 78 = .ok (.goto (-64), 3) := by decide +kernel
theorem dX4_misses_81 : decode cX4_misses 81 = .ok (.iload_n 1, 1) := by decide +kernel
theorem dX4_misses_82 : decode cX4_misses 82 = .ok (.ireturn, 1) := by decide +kernel
theorem dX4_modulus_0 : decode cX4_modulus 0 = .ok (.aload_n 0, 1) := by decide +kernel
theorem dX4_modulus_1 : decode cX4_modulus 1 = .ok (.invokevirtual 112, 3) := by decide +kernel
theorem dX4_modulus_4 : decode cX4_modulus 4 = .ok (.ifCond .ne 6, 3) := by decide +kernel
theorem dX4_modulus_7 : decode cX4_modulus 7 = .ok (.bipush (-2), 2) := by decide +kernel
theorem dX4_modulus_9 : decode cX4_modulus 9 = .ok (.ireturn, 1) := by decide +kernel
theorem dX4_modulus_10 : decode cX4_modulus 10 = .ok (.iconst 0, 1) := by decide +kernel
theorem dX4_modulus_11 : decode cX4_modulus 11 = .ok (.istore_n 1, 1) := by decide +kernel
theorem dX4_modulus_12 : decode cX4_modulus 12 = .ok (.iconst 0, 1) := by decide +kernel
theorem dX4_modulus_13 : decode cX4_modulus 13 = .ok (.istore_n 2, 1) := by decide +kernel
theorem dX4_modulus_14 : decode cX4_modulus 14 = .ok (.iload_n 2, 1) := by decide +kernel
theorem dX4_modulus_15 : decode cX4_modulus 15 = .ok (.aload_n 0, 1) := by decide +kernel
theorem dX4_modulus_16 : decode cX4_modulus 16 = .ok (.getfield 7, 3) := by decide +kernel
theorem dX4_modulus_19 : decode cX4_modulus 19 = .ok (.bipush 24, 2) := by decide +kernel
theorem dX4_modulus_21 : decode cX4_modulus 21 = .ok (.iaload, 1) := by decide +kernel
theorem dX4_modulus_22 : decode cX4_modulus 22 = .ok (.if_icmp .ge 21, 3) := by decide +kernel
theorem dX4_modulus_25 : decode cX4_modulus 25 = .ok (.iload_n 1, 1) := by decide +kernel
theorem dX4_modulus_26 : decode cX4_modulus 26 = .ok (.sipush 1000, 3) := by decide +kernel
theorem dX4_modulus_29 : decode cX4_modulus 29 = .ok (.aload_n 0, 1) := by decide +kernel
theorem dX4_modulus_30 : decode cX4_modulus 30 = .ok (.iload_n 2, 1) := by decide +kernel
theorem dX4_modulus_31 : decode cX4_modulus 31 = .ok (.invokevirtual 115, 3) := by decide +kernel
theorem dX4_modulus_34 : decode cX4_modulus 34 = .ok (.isub, 1) := by decide +kernel
theorem dX4_modulus_35 : decode cX4_modulus 35 = .ok (.iadd, 1) := by decide +kernel
theorem dX4_modulus_36 : decode cX4_modulus 36 = .ok (.istore_n 1, 1) := by decide +kernel
theorem dX4_modulus_37 : decode cX4_modulus 37 = .ok (.iinc 2 1, 3) := by decide +kernel
theorem dX4_modulus_40 : decode cX4_modulus 40 = .ok (.goto (-26), 3) := by decide +kernel
theorem dX4_modulus_43 : decode cX4_modulus 43 = .ok (.iload_n 1, 1) := by decide +kernel
theorem dX4_modulus_44 : decode cX4_modulus 44 = .ok (.bipush 10, 2) := by decide +kernel
theorem dX4_modulus_46 : decode cX4_modulus 46 = .ok (.idiv, 1) := by decide +kernel
theorem dX4_modulus_47 : decode cX4_modulus 47 = .ok (.ireturn, 1) := by decide +kernel
theorem dX4_truePassing_0 : decode cX4_truePassing 0 = .ok (.iload_n 1, 1) := by decide +kernel
theorem dX4_truePassing_1 : decode cX4_truePassing 1 = .ok (.iconst 1, 1) := by decide +kernel
theorem dX4_truePassing_2 : decode cX4_truePassing 2 = .ok (.bipush 9, 2) := by decide +kernel
theorem dX4_truePassing_4 : decode cX4_truePassing 4 = .ok (.invokestatic 30, 3) := by decide +kernel
theorem dX4_truePassing_7 : decode cX4_truePassing 7 = .ok (.ifCond .ne 5, 3) := by decide +kernel
theorem dX4_truePassing_10 : decode cX4_truePassing 10 = .ok (.iconst (-1), 1) := by decide +kernel
theorem dX4_truePassing_11 : decode cX4_truePassing 11 = .ok (.ireturn, 1) := by decide +kernel
theorem dX4_truePassing_12 : decode cX4_truePassing 12 = .ok (.aload_n 0, 1) := by decide +kernel
theorem dX4_truePassing_13 : decode cX4_truePassing 13 = .ok (.iconst 0, 1) := by decide +kernel
theorem dX4_truePassing_14 : decode cX4_truePassing 14 = .ok (.invokevirtual 37, 3) := by decide +kernel
theorem dX4_truePassing_17 : decode cX4_truePassing 17 = .ok (.istore_n 2, 1) := by decide +kernel
theorem dX4_truePassing_18 : decode cX4_truePassing 18 = .ok (.iload_n 2, 1) := by decide +kernel
theorem dX4_truePassing_19 : decode cX4_truePassing 19 = .ok (.ifCond .ne 6, 3) := by decide +kernel
theorem dX4_truePassing_22 : decode cX4_truePassing 22 = .ok (.bipush (-2), 2) := by decide +kernel
theorem dX4_truePassing_24 : decode cX4_truePassing 24 = .ok (.ireturn, 1) := by decide +kernel
theorem dX4_truePassing_25 : decode cX4_truePassing 25 = .ok (.lconst 0, 1) := by decide +kernel
theorem dX4_truePassing_26 : decode cX4_truePassing 26 = .ok (.lstore_n 3, 1) := by decide +kernel
theorem dX4_truePassing_27 : decode cX4_truePassing 27 = .ok (.iconst 0, 1) := by decide +kernel
theorem dX4_truePassing_28 : decode cX4_truePassing 28 = .ok (.istore 5, 2) := by decide +kernel
theorem dX4_truePassing_30 : decode cX4_truePassing 30 = .ok (.iload 5, 2) := by decide +kernel
theorem dX4_truePassing_32 : decode cX4_truePassing 32 = .ok (.iload_n 1, 1) := by decide +kernel
theorem dX4_truePassing_33 : decode cX4_truePassing 33 = .ok (.if_icmp .ge 22, 3) := by decide +kernel
theorem dX4_truePassing_36 : decode cX4_truePassing 36 = .ok (.lload_n 3, 1) := by decide +kernel
theorem dX4_truePassing_37 : decode cX4_truePassing 37 = .ok (.aload_n 0, 1) := by decide +kernel
theorem dX4_truePassing_38 : decode cX4_truePassing 38 = .ok (.getfield 7, 3) := by decide +kernel
theorem dX4_truePassing_41 : decode cX4_truePassing 41 = .ok (.iconst 0, 1) := by decide +kernel
theorem dX4_truePassing_42 : decode cX4_truePassing 42 = .ok (.iload 5, 2) := by decide +kernel
theorem dX4_truePassing_44 : decode cX4_truePassing 44 = .ok (.iadd, 1) := by decide +kernel
theorem dX4_truePassing_45 : decode cX4_truePassing 45 = .ok (.iaload, 1) := by decide +kernel
theorem dX4_truePassing_46 : decode cX4_truePassing 46 = .ok (.i2l, 1) := by decide +kernel
theorem dX4_truePassing_47 : decode cX4_truePassing 47 = .ok (.ladd, 1) := by decide +kernel
theorem dX4_truePassing_48 : decode cX4_truePassing 48 = .ok (.lstore_n 3, 1) := by decide +kernel
theorem dX4_truePassing_49 : decode cX4_truePassing 49 = .ok (.iinc 5 1, 3) := by decide +kernel
theorem dX4_truePassing_52 : decode cX4_truePassing 52 = .ok (.goto (-22), 3) := by decide +kernel
theorem dX4_truePassing_55 : decode cX4_truePassing 55 = .ok (.lload_n 3, 1) := by decide +kernel
theorem dX4_truePassing_56 : decode cX4_truePassing 56 = .ok (.ldc2_w 107, 3) := by decide +kernel
theorem dX4_truePassing_59 : decode cX4_truePassing 59 = .ok (.lmul, 1) := by decide +kernel
theorem dX4_truePassing_60 : decode cX4_truePassing 60 = .ok (.iload_n 2, 1) := by decide +kernel
theorem dX4_truePassing_61 : decode cX4_truePassing 61 = .ok (.i2l, 1) := by decide +kernel
theorem dX4_truePassing_62 : decode cX4_truePassing 62 = .ok (.ldiv, 1) := by decide +kernel
theorem dX4_truePassing_63 : decode cX4_truePassing 63 = .ok (.l2i, 1) := by decide +kernel
theorem dX4_truePassing_64 : decode cX4_truePassing 64 = .ok (.ireturn, 1) := by decide +kernel
theorem dX4_keeps_0 : decode cX4_keeps 0 = .ok (.iconst 0, 1) := by decide +kernel
theorem dX4_keeps_1 : decode cX4_keeps 1 = .ok (.istore_n 1, 1) := by decide +kernel
theorem dX4_keeps_2 : decode cX4_keeps 2 = .ok (.iload_n 1, 1) := by decide +kernel
theorem dX4_keeps_3 : decode cX4_keeps 3 = .ok (.sipush 137, 3) := by decide +kernel
theorem dX4_keeps_6 : decode cX4_keeps 6 = .ok (.if_icmp .ge 21, 3) := by decide +kernel
theorem dX4_keeps_9 : decode cX4_keeps 9 = .ok (.aload_n 0, 1) := by decide +kernel
theorem dX4_keeps_10 : decode cX4_keeps 10 = .ok (.getfield 20, 3) := by decide +kernel
theorem dX4_keeps_13 : decode cX4_keeps 13 = .ok (.iload_n 1, 1) := by decide +kernel
theorem dX4_keeps_14 : decode cX4_keeps 14 = .ok (.aload_n 0, 1) := by decide +kernel
theorem dX4_keeps_15 : decode cX4_keeps 15 = .ok (.getfield 7, 3) := by decide +kernel
theorem dX4_keeps_18 : decode cX4_keeps 18 = .ok (.iload_n 1, 1) := by decide +kernel
theorem dX4_keeps_19 : decode cX4_keeps 19 = .ok (.iaload, 1) := by decide +kernel
theorem dX4_keeps_20 : decode cX4_keeps 20 = .ok (.iastore, 1) := by decide +kernel
theorem dX4_keeps_21 : decode cX4_keeps 21 = .ok (.iinc 1 1, 3) := by decide +kernel
theorem dX4_keeps_24 : decode cX4_keeps 24 = .ok (.goto (-22), 3) := by decide +kernel
theorem dX4_keeps_27 : decode cX4_keeps 27 = .ok (.return_, 1) := by decide +kernel
theorem dX4_restores_0 : decode cX4_restores 0 = .ok (.iconst 0, 1) := by decide +kernel
theorem dX4_restores_1 : decode cX4_restores 1 = .ok (.istore_n 1, 1) := by decide +kernel
theorem dX4_restores_2 : decode cX4_restores 2 = .ok (.iload_n 1, 1) := by decide +kernel
theorem dX4_restores_3 : decode cX4_restores 3 = .ok (.sipush 137, 3) := by decide +kernel
theorem dX4_restores_6 : decode cX4_restores 6 = .ok (.if_icmp .ge 21, 3) := by decide +kernel
theorem dX4_restores_9 : decode cX4_restores 9 = .ok (.aload_n 0, 1) := by decide +kernel
theorem dX4_restores_10 : decode cX4_restores 10 = .ok (.getfield 7, 3) := by decide +kernel
theorem dX4_restores_13 : decode cX4_restores 13 = .ok (.iload_n 1, 1) := by decide +kernel
theorem dX4_restores_14 : decode cX4_restores 14 = .ok (.aload_n 0, 1) := by decide +kernel
theorem dX4_restores_15 : decode cX4_restores 15 = .ok (.getfield 20, 3) := by decide +kernel
theorem dX4_restores_18 : decode cX4_restores 18 = .ok (.iload_n 1, 1) := by decide +kernel
theorem dX4_restores_19 : decode cX4_restores 19 = .ok (.iaload, 1) := by decide +kernel
theorem dX4_restores_20 : decode cX4_restores 20 = .ok (.iastore, 1) := by decide +kernel
theorem dX4_restores_21 : decode cX4_restores 21 = .ok (.iinc 1 1, 3) := by decide +kernel
theorem dX4_restores_24 : decode cX4_restores 24 = .ok (.goto (-22), 3) := by decide +kernel
theorem dX4_restores_27 : decode cX4_restores 27 = .ok (.return_, 1) := by decide +kernel
theorem dX4_minutesTo_0 : decode cX4_minutesTo 0 = .ok (.iload_n 1, 1) := by decide +kernel
theorem dX4_minutesTo_1 : decode cX4_minutesTo 1 = .ok (.iconst 1, 1) := by decide +kernel
theorem dX4_minutesTo_2 : decode cX4_minutesTo 2 = .ok (.sipush 9999, 3) := by decide +kernel
theorem dX4_minutesTo_5 : decode cX4_minutesTo 5 = .ok (.invokestatic 30, 3) := by decide +kernel
theorem dX4_minutesTo_8 : decode cX4_minutesTo 8 = .ok (.ifCond .ne 5, 3) := by decide +kernel
theorem dX4_minutesTo_11 : decode cX4_minutesTo 11 = .ok (.iconst (-1), 1) := by decide +kernel
theorem dX4_minutesTo_12 : decode cX4_minutesTo 12 = .ok (.ireturn, 1) := by decide +kernel
theorem dX4_minutesTo_13 : decode cX4_minutesTo 13 = .ok (.aload_n 0, 1) := by decide +kernel
theorem dX4_minutesTo_14 : decode cX4_minutesTo 14 = .ok (.getfield 7, 3) := by decide +kernel
theorem dX4_minutesTo_17 : decode cX4_minutesTo 17 = .ok (.bipush 49, 2) := by decide +kernel
theorem dX4_minutesTo_19 : decode cX4_minutesTo 19 = .ok (.iaload, 1) := by decide +kernel
theorem dX4_minutesTo_20 : decode cX4_minutesTo 20 = .ok (.ifCond .ne 6, 3) := by decide +kernel
theorem dX4_minutesTo_23 : decode cX4_minutesTo 23 = .ok (.bipush (-2), 2) := by decide +kernel
theorem dX4_minutesTo_25 : decode cX4_minutesTo 25 = .ok (.ireturn, 1) := by decide +kernel
theorem dX4_minutesTo_26 : decode cX4_minutesTo 26 = .ok (.aload_n 0, 1) := by decide +kernel
theorem dX4_minutesTo_27 : decode cX4_minutesTo 27 = .ok (.invokevirtual 118, 3) := by decide +kernel
theorem dX4_minutesTo_30 : decode cX4_minutesTo 30 = .ok (.bipush (-9), 2) := by decide +kernel
theorem dX4_minutesTo_32 : decode cX4_minutesTo 32 = .ok (.istore_n 2, 1) := by decide +kernel
theorem dX4_minutesTo_33 : decode cX4_minutesTo 33 = .ok (.iconst 1, 1) := by decide +kernel
theorem dX4_minutesTo_34 : decode cX4_minutesTo 34 = .ok (.istore_n 3, 1) := by decide +kernel
theorem dX4_minutesTo_35 : decode cX4_minutesTo 35 = .ok (.iload_n 3, 1) := by decide +kernel
theorem dX4_minutesTo_36 : decode cX4_minutesTo 36 = .ok (.sipush 500, 3) := by decide +kernel
theorem dX4_minutesTo_39 : decode cX4_minutesTo 39 = .ok (.if_icmp .gt 30, 3) := by decide +kernel
theorem dX4_minutesTo_42 : decode cX4_minutesTo 42 = .ok (.iload_n 2, 1) := by decide +kernel
theorem dX4_minutesTo_43 : decode cX4_minutesTo 43 = .ok (.bipush (-9), 2) := by decide +kernel
theorem dX4_minutesTo_45 : decode cX4_minutesTo 45 = .ok (.if_icmp .ne 24, 3) := by decide +kernel
theorem dX4_minutesTo_48 : decode cX4_minutesTo 48 = .ok (.aload_n 0, 1) := by decide +kernel
theorem dX4_minutesTo_49 : decode cX4_minutesTo 49 = .ok (.invokevirtual 101, 3) := by decide +kernel
theorem dX4_minutesTo_52 : decode cX4_minutesTo 52 = .ok (.iload_n 1, 1) := by decide +kernel
theorem dX4_minutesTo_53 : decode cX4_minutesTo 53 = .ok (.if_icmp .ge 7, 3) := by decide +kernel
theorem dX4_minutesTo_56 : decode cX4_minutesTo 56 = .ok (.iload_n 3, 1) := by decide +kernel
theorem dX4_minutesTo_57 : decode cX4_minutesTo 57 = .ok (.goto 5, 3) := by decide +kernel
theorem dX4_minutesTo_60 : decode cX4_minutesTo 60 = .ok (.bipush (-9), 2) := by decide +kernel
theorem dX4_minutesTo_62 : decode cX4_minutesTo 62 = .ok (.istore_n 2, 1) := by decide +kernel
theorem dX4_minutesTo_63 : decode cX4_minutesTo 63 = .ok (.iinc 3 1, 3) := by decide +kernel
theorem dX4_minutesTo_66 : decode cX4_minutesTo 66 = .ok (.goto (-31), 3) := by decide +kernel
theorem dX4_minutesTo_69 : decode cX4_minutesTo 69 = .ok (.aload_n 0, 1) := by decide +kernel
theorem dX4_minutesTo_70 : decode cX4_minutesTo 70 = .ok (.invokevirtual 121, 3) := by decide +kernel
theorem dX4_minutesTo_73 : decode cX4_minutesTo 73 = .ok (.iload_n 2, 1) := by decide +kernel
theorem dX4_minutesTo_74 : decode cX4_minutesTo 74 = .ok (.ireturn, 1) := by decide +kernel
theorem dX4_dustIn_0 : decode cX4_dustIn 0 = .ok (.iload_n 1, 1) := by decide +kernel
theorem dX4_dustIn_1 : decode cX4_dustIn 1 = .ok (.iconst 1, 1) := by decide +kernel
theorem dX4_dustIn_2 : decode cX4_dustIn 2 = .ok (.sipush 500, 3) := by decide +kernel
theorem dX4_dustIn_5 : decode cX4_dustIn 5 = .ok (.invokestatic 30, 3) := by decide +kernel
theorem dX4_dustIn_8 : decode cX4_dustIn 8 = .ok (.ifCond .ne 5, 3) := by decide +kernel
theorem dX4_dustIn_11 : decode cX4_dustIn 11 = .ok (.iconst (-1), 1) := by decide +kernel
theorem dX4_dustIn_12 : decode cX4_dustIn 12 = .ok (.ireturn, 1) := by decide +kernel
theorem dX4_dustIn_13 : decode cX4_dustIn 13 = .ok (.aload_n 0, 1) := by decide +kernel
theorem dX4_dustIn_14 : decode cX4_dustIn 14 = .ok (.getfield 7, 3) := by decide +kernel
theorem dX4_dustIn_17 : decode cX4_dustIn 17 = .ok (.bipush 49, 2) := by decide +kernel
theorem dX4_dustIn_19 : decode cX4_dustIn 19 = .ok (.iaload, 1) := by decide +kernel
theorem dX4_dustIn_20 : decode cX4_dustIn 20 = .ok (.ifCond .ne 6, 3) := by decide +kernel
theorem dX4_dustIn_23 : decode cX4_dustIn 23 = .ok (.bipush (-2), 2) := by decide +kernel
theorem dX4_dustIn_25 : decode cX4_dustIn 25 = .ok (.ireturn, 1) := by decide +kernel
theorem dX4_dustIn_26 : decode cX4_dustIn 26 = .ok (.aload_n 0, 1) := by decide +kernel
theorem dX4_dustIn_27 : decode cX4_dustIn 27 = .ok (.invokevirtual 118, 3) := by decide +kernel
theorem dX4_dustIn_30 : decode cX4_dustIn 30 = .ok (.aload_n 0, 1) := by decide +kernel
theorem dX4_dustIn_31 : decode cX4_dustIn 31 = .ok (.invokevirtual 104, 3) := by decide +kernel
theorem dX4_dustIn_34 : decode cX4_dustIn 34 = .ok (.istore_n 2, 1) := by decide +kernel
theorem dX4_dustIn_35 : decode cX4_dustIn 35 = .ok (.iconst 0, 1) := by decide +kernel
theorem dX4_dustIn_36 : decode cX4_dustIn 36 = .ok (.istore_n 3, 1) := by decide +kernel
theorem dX4_dustIn_37 : decode cX4_dustIn 37 = .ok (.iconst 0, 1) := by decide +kernel
theorem dX4_dustIn_38 : decode cX4_dustIn 38 = .ok (.istore 4, 2) := by decide +kernel
theorem dX4_dustIn_40 : decode cX4_dustIn 40 = .ok (.iload 4, 2) := by decide +kernel
theorem dX4_dustIn_42 : decode cX4_dustIn 42 = .ok (.iload_n 1, 1) := by decide +kernel
theorem dX4_dustIn_43 : decode cX4_dustIn 43 = .ok (.if_icmp .ge 16, 3) := by decide +kernel
theorem dX4_dustIn_46 : decode cX4_dustIn 46 = .ok (.iload_n 3, 1) := by decide +kernel
theorem dX4_dustIn_47 : decode cX4_dustIn 47 = .ok (.aload_n 0, 1) := by decide +kernel
theorem dX4_dustIn_48 : decode cX4_dustIn 48 = .ok (.invokevirtual 101, 3) := by decide +kernel
theorem dX4_dustIn_51 : decode cX4_dustIn 51 = .ok (.iadd, 1) := by decide +kernel
theorem dX4_dustIn_52 : decode cX4_dustIn 52 = .ok (.istore_n 3, 1) := by decide +kernel
theorem dX4_dustIn_53 : decode cX4_dustIn 53 = .ok (.iinc 4 1, 3) := by decide +kernel
theorem dX4_dustIn_56 : decode cX4_dustIn 56 = .ok (.goto (-16), 3) := by decide +kernel
theorem dX4_dustIn_59 : decode cX4_dustIn 59 = .ok (.aload_n 0, 1) := by decide +kernel
theorem dX4_dustIn_60 : decode cX4_dustIn 60 = .ok (.invokevirtual 104, 3) := by decide +kernel
theorem dX4_dustIn_63 : decode cX4_dustIn 63 = .ok (.iload_n 2, 1) := by decide +kernel
theorem dX4_dustIn_64 : decode cX4_dustIn 64 = .ok (.isub, 1) := by decide +kernel
theorem dX4_dustIn_65 : decode cX4_dustIn 65 = .ok (.istore 4, 2) := by decide +kernel
theorem dX4_dustIn_67 : decode cX4_dustIn 67 = .ok (.aload_n 0, 1) := by decide +kernel
theorem dX4_dustIn_68 : decode cX4_dustIn 68 = .ok (.invokevirtual 121, 3) := by decide +kernel
theorem dX4_dustIn_71 : decode cX4_dustIn 71 = .ok (.iload_n 3, 1) := by decide +kernel
theorem dX4_dustIn_72 : decode cX4_dustIn 72 = .ok (.ifCond .ge 7, 3) := by decide +kernel
theorem dX4_dustIn_75 : decode cX4_dustIn 75 = .ok (.iload_n 3, 1) := by decide +kernel
theorem dX4_dustIn_76 : decode cX4_dustIn 76 = .ok (.goto 5, 3) := by decide +kernel
theorem dX4_dustIn_79 : decode cX4_dustIn 79 = .ok (.iload 4, 2) := by decide +kernel
theorem dX4_dustIn_81 : decode cX4_dustIn 81 = .ok (.ireturn, 1) := by decide +kernel
theorem dL_law_0 : decode cL_law 0 = .ok (.new 7, 3) := by decide +kernel
theorem dL_law_3 : decode cL_law 3 = .ok (.dup, 1) := by decide +kernel
theorem dL_law_4 : decode cL_law 4 = .ok (.invokespecial 9, 3) := by decide +kernel
theorem dL_law_7 : decode cL_law 7 = .ok (.astore_n 1, 1) := by decide +kernel
theorem dL_law_8 : decode cL_law 8 = .ok (.new 10, 3) := by decide +kernel
theorem dL_law_11 : decode cL_law 11 = .ok (.dup, 1) := by decide +kernel
theorem dL_law_12 : decode cL_law 12 = .ok (.invokespecial 12, 3) := by decide +kernel
theorem dL_law_15 : decode cL_law 15 = .ok (.astore_n 2, 1) := by decide +kernel
theorem dL_law_16 : decode cL_law 16 = .ok (.iconst 0, 1) := by decide +kernel
theorem dL_law_17 : decode cL_law 17 = .ok (.istore_n 3, 1) := by decide +kernel
theorem dL_law_18 : decode cL_law 18 = .ok (.iload_n 3, 1) := by decide +kernel
theorem dL_law_19 : decode cL_law 19 = .ok (.aload_n 0, 1) := by decide +kernel
theorem dL_law_20 : decode cL_law 20 = .ok (.arraylength, 1) := by decide +kernel
theorem dL_law_21 : decode cL_law 21 = .ok (.iconst 5, 1) := by decide +kernel
theorem dL_law_22 : decode cL_law 22 = .ok (.isub, 1) := by decide +kernel
theorem dL_law_23 : decode cL_law 23 = .ok (.if_icmp .gt 814, 3) := by decide +kernel
theorem dL_law_26 : decode cL_law 26 = .ok (.aload_n 0, 1) := by decide +kernel
theorem dL_law_27 : decode cL_law 27 = .ok (.iload_n 3, 1) := by decide +kernel
theorem dL_law_28 : decode cL_law 28 = .ok (.iaload, 1) := by decide +kernel
theorem dL_law_29 : decode cL_law 29 = .ok (.bipush 31, 2) := by decide +kernel
theorem dL_law_31 : decode cL_law 31 = .ok (.iand, 1) := by decide +kernel
theorem dL_law_32 : decode cL_law 32 = .ok (.tableswitch 799 0 28 #[132, 165, 188, 211, 234, 257, 270, 293, 306, 319, 342, 365, 418, 461, 484, 517, 550, 563, 586, 609, 642, 655, 668, 691, 704, 717, 740, 763, 786], 132) := by decide +kernel
theorem dL_law_164 : decode cL_law 164 = .ok (.aload_n 1, 1) := by decide +kernel
theorem dL_law_165 : decode cL_law 165 = .ok (.aload_n 0, 1) := by decide +kernel
theorem dL_law_166 : decode cL_law 166 = .ok (.iload_n 3, 1) := by decide +kernel
theorem dL_law_167 : decode cL_law 167 = .ok (.iconst 1, 1) := by decide +kernel
theorem dL_law_168 : decode cL_law 168 = .ok (.iadd, 1) := by decide +kernel
theorem dL_law_169 : decode cL_law 169 = .ok (.iaload, 1) := by decide +kernel
theorem dL_law_170 : decode cL_law 170 = .ok (.aload_n 0, 1) := by decide +kernel
theorem dL_law_171 : decode cL_law 171 = .ok (.iload_n 3, 1) := by decide +kernel
theorem dL_law_172 : decode cL_law 172 = .ok (.iconst 2, 1) := by decide +kernel
theorem dL_law_173 : decode cL_law 173 = .ok (.iadd, 1) := by decide +kernel
theorem dL_law_174 : decode cL_law 174 = .ok (.iaload, 1) := by decide +kernel
theorem dL_law_175 : decode cL_law 175 = .ok (.invokevirtual 13, 3) := by decide +kernel
theorem dL_law_178 : decode cL_law 178 = .ok (.aload_n 2, 1) := by decide +kernel
theorem dL_law_179 : decode cL_law 179 = .ok (.aload_n 0, 1) := by decide +kernel
theorem dL_law_180 : decode cL_law 180 = .ok (.iload_n 3, 1) := by decide +kernel
theorem dL_law_181 : decode cL_law 181 = .ok (.iconst 1, 1) := by decide +kernel
theorem dL_law_182 : decode cL_law 182 = .ok (.iadd, 1) := by decide +kernel
theorem dL_law_183 : decode cL_law 183 = .ok (.iaload, 1) := by decide +kernel
theorem dL_law_184 : decode cL_law 184 = .ok (.aload_n 0, 1) := by decide +kernel
theorem dL_law_185 : decode cL_law 185 = .ok (.iload_n 3, 1) := by decide +kernel
theorem dL_law_186 : decode cL_law 186 = .ok (.iconst 2, 1) := by decide +kernel
theorem dL_law_187 : decode cL_law 187 = .ok (.iadd, 1) := by decide +kernel
theorem dL_law_188 : decode cL_law 188 = .ok (.iaload, 1) := by decide +kernel
theorem dL_law_189 : decode cL_law 189 = .ok (.invokevirtual 17, 3) := by decide +kernel
theorem dL_law_192 : decode cL_law 192 = .ok (.if_icmp .eq 639, 3) := by decide +kernel
theorem dL_law_195 : decode cL_law 195 = .ok (.iconst 0, 1) := by decide +kernel
theorem dL_law_196 : decode cL_law 196 = .ok (.ireturn, 1) := by decide +kernel
theorem dL_law_197 : decode cL_law 197 = .ok (.aload_n 1, 1) := by decide +kernel
theorem dL_law_198 : decode cL_law 198 = .ok (.aload_n 0, 1) := by decide +kernel
theorem dL_law_199 : decode cL_law 199 = .ok (.iload_n 3, 1) := by decide +kernel
theorem dL_law_200 : decode cL_law 200 = .ok (.iconst 1, 1) := by decide +kernel
theorem dL_law_201 : decode cL_law 201 = .ok (.iadd, 1) := by decide +kernel
theorem dL_law_202 : decode cL_law 202 = .ok (.iaload, 1) := by decide +kernel
theorem dL_law_203 : decode cL_law 203 = .ok (.invokevirtual 18, 3) := by decide +kernel
theorem dL_law_206 : decode cL_law 206 = .ok (.aload_n 2, 1) := by decide +kernel
theorem dL_law_207 : decode cL_law 207 = .ok (.aload_n 0, 1) := by decide +kernel
theorem dL_law_208 : decode cL_law 208 = .ok (.iload_n 3, 1) := by decide +kernel
theorem dL_law_209 : decode cL_law 209 = .ok (.iconst 1, 1) := by decide +kernel
theorem dL_law_210 : decode cL_law 210 = .ok (.iadd, 1) := by decide +kernel
theorem dL_law_211 : decode cL_law 211 = .ok (.iaload, 1) := by decide +kernel
theorem dL_law_212 : decode cL_law 212 = .ok (.invokevirtual 22, 3) := by decide +kernel
theorem dL_law_215 : decode cL_law 215 = .ok (.if_icmp .eq 616, 3) := by decide +kernel
theorem dL_law_218 : decode cL_law 218 = .ok (.iconst 0, 1) := by decide +kernel
theorem dL_law_219 : decode cL_law 219 = .ok (.ireturn, 1) := by decide +kernel
theorem dL_law_220 : decode cL_law 220 = .ok (.aload_n 1, 1) := by decide +kernel
theorem dL_law_221 : decode cL_law 221 = .ok (.aload_n 0, 1) := by decide +kernel
theorem dL_law_222 : decode cL_law 222 = .ok (.iload_n 3, 1) := by decide +kernel
theorem dL_law_223 : decode cL_law 223 = .ok (.iconst 1, 1) := by decide +kernel
theorem dL_law_224 : decode cL_law 224 = .ok (.iadd, 1) := by decide +kernel
theorem dL_law_225 : decode cL_law 225 = .ok (.iaload, 1) := by decide +kernel
theorem dL_law_226 : decode cL_law 226 = .ok (.invokevirtual 23, 3) := by decide +kernel
theorem dL_law_229 : decode cL_law 229 = .ok (.aload_n 2, 1) := by decide +kernel
theorem dL_law_230 : decode cL_law 230 = .ok (.aload_n 0, 1) := by decide +kernel
theorem dL_law_231 : decode cL_law 231 = .ok (.iload_n 3, 1) := by decide +kernel
theorem dL_law_232 : decode cL_law 232 = .ok (.iconst 1, 1) := by decide +kernel
theorem dL_law_233 : decode cL_law 233 = .ok (.iadd, 1) := by decide +kernel
theorem dL_law_234 : decode cL_law 234 = .ok (.iaload, 1) := by decide +kernel
theorem dL_law_235 : decode cL_law 235 = .ok (.invokevirtual 26, 3) := by decide +kernel
theorem dL_law_238 : decode cL_law 238 = .ok (.if_icmp .eq 593, 3) := by decide +kernel
theorem dL_law_241 : decode cL_law 241 = .ok (.iconst 0, 1) := by decide +kernel
theorem dL_law_242 : decode cL_law 242 = .ok (.ireturn, 1) := by decide +kernel
theorem dL_law_243 : decode cL_law 243 = .ok (.aload_n 1, 1) := by decide +kernel
theorem dL_law_244 : decode cL_law 244 = .ok (.aload_n 0, 1) := by decide +kernel
theorem dL_law_245 : decode cL_law 245 = .ok (.iload_n 3, 1) := by decide +kernel
theorem dL_law_246 : decode cL_law 246 = .ok (.iconst 1, 1) := by decide +kernel
theorem dL_law_247 : decode cL_law 247 = .ok (.iadd, 1) := by decide +kernel
theorem dL_law_248 : decode cL_law 248 = .ok (.iaload, 1) := by decide +kernel
theorem dL_law_249 : decode cL_law 249 = .ok (.invokevirtual 27, 3) := by decide +kernel
theorem dL_law_252 : decode cL_law 252 = .ok (.aload_n 2, 1) := by decide +kernel
theorem dL_law_253 : decode cL_law 253 = .ok (.aload_n 0, 1) := by decide +kernel
theorem dL_law_254 : decode cL_law 254 = .ok (.iload_n 3, 1) := by decide +kernel
theorem dL_law_255 : decode cL_law 255 = .ok (.iconst 1, 1) := by decide +kernel
theorem dL_law_256 : decode cL_law 256 = .ok (.iadd, 1) := by decide +kernel
theorem dL_law_257 : decode cL_law 257 = .ok (.iaload, 1) := by decide +kernel
theorem dL_law_258 : decode cL_law 258 = .ok (.invokevirtual 30, 3) := by decide +kernel
theorem dL_law_261 : decode cL_law 261 = .ok (.if_icmp .eq 570, 3) := by decide +kernel
theorem dL_law_264 : decode cL_law 264 = .ok (.iconst 0, 1) := by decide +kernel
theorem dL_law_265 : decode cL_law 265 = .ok (.ireturn, 1) := by decide +kernel
theorem dL_law_266 : decode cL_law 266 = .ok (.aload_n 1, 1) := by decide +kernel
theorem dL_law_267 : decode cL_law 267 = .ok (.aload_n 0, 1) := by decide +kernel
theorem dL_law_268 : decode cL_law 268 = .ok (.iload_n 3, 1) := by decide +kernel
theorem dL_law_269 : decode cL_law 269 = .ok (.iconst 1, 1) := by decide +kernel
theorem dL_law_270 : decode cL_law 270 = .ok (.iadd, 1) := by decide +kernel
theorem dL_law_271 : decode cL_law 271 = .ok (.iaload, 1) := by decide +kernel
theorem dL_law_272 : decode cL_law 272 = .ok (.invokevirtual 31, 3) := by decide +kernel
theorem dL_law_275 : decode cL_law 275 = .ok (.aload_n 2, 1) := by decide +kernel
theorem dL_law_276 : decode cL_law 276 = .ok (.aload_n 0, 1) := by decide +kernel
theorem dL_law_277 : decode cL_law 277 = .ok (.iload_n 3, 1) := by decide +kernel
theorem dL_law_278 : decode cL_law 278 = .ok (.iconst 1, 1) := by decide +kernel
theorem dL_law_279 : decode cL_law 279 = .ok (.iadd, 1) := by decide +kernel
theorem dL_law_280 : decode cL_law 280 = .ok (.iaload, 1) := by decide +kernel
theorem dL_law_281 : decode cL_law 281 = .ok (.invokevirtual 34, 3) := by decide +kernel
theorem dL_law_284 : decode cL_law 284 = .ok (.if_icmp .eq 547, 3) := by decide +kernel
theorem dL_law_287 : decode cL_law 287 = .ok (.iconst 0, 1) := by decide +kernel
theorem dL_law_288 : decode cL_law 288 = .ok (.ireturn, 1) := by decide +kernel
theorem dL_law_289 : decode cL_law 289 = .ok (.aload_n 1, 1) := by decide +kernel
theorem dL_law_290 : decode cL_law 290 = .ok (.invokevirtual 35, 3) := by decide +kernel
theorem dL_law_293 : decode cL_law 293 = .ok (.aload_n 2, 1) := by decide +kernel
theorem dL_law_294 : decode cL_law 294 = .ok (.invokevirtual 39, 3) := by decide +kernel
theorem dL_law_297 : decode cL_law 297 = .ok (.if_icmp .eq 534, 3) := by decide +kernel
theorem dL_law_300 : decode cL_law 300 = .ok (.iconst 0, 1) := by decide +kernel
theorem dL_law_301 : decode cL_law 301 = .ok (.ireturn, 1) := by decide +kernel
theorem dL_law_302 : decode cL_law 302 = .ok (.aload_n 1, 1) := by decide +kernel
theorem dL_law_303 : decode cL_law 303 = .ok (.aload_n 0, 1) := by decide +kernel
theorem dL_law_304 : decode cL_law 304 = .ok (.iload_n 3, 1) := by decide +kernel
theorem dL_law_305 : decode cL_law 305 = .ok (.iconst 1, 1) := by decide +kernel
theorem dL_law_306 : decode cL_law 306 = .ok (.iadd, 1) := by decide +kernel
theorem dL_law_307 : decode cL_law 307 = .ok (.iaload, 1) := by decide +kernel
theorem dL_law_308 : decode cL_law 308 = .ok (.invokevirtual 40, 3) := by decide +kernel
theorem dL_law_311 : decode cL_law 311 = .ok (.aload_n 2, 1) := by decide +kernel
theorem dL_law_312 : decode cL_law 312 = .ok (.aload_n 0, 1) := by decide +kernel
theorem dL_law_313 : decode cL_law 313 = .ok (.iload_n 3, 1) := by decide +kernel
theorem dL_law_314 : decode cL_law 314 = .ok (.iconst 1, 1) := by decide +kernel
theorem dL_law_315 : decode cL_law 315 = .ok (.iadd, 1) := by decide +kernel
theorem dL_law_316 : decode cL_law 316 = .ok (.iaload, 1) := by decide +kernel
theorem dL_law_317 : decode cL_law 317 = .ok (.invokevirtual 43, 3) := by decide +kernel
theorem dL_law_320 : decode cL_law 320 = .ok (.if_icmp .eq 511, 3) := by decide +kernel
theorem dL_law_323 : decode cL_law 323 = .ok (.iconst 0, 1) := by decide +kernel
theorem dL_law_324 : decode cL_law 324 = .ok (.ireturn, 1) := by decide +kernel
theorem dL_law_325 : decode cL_law 325 = .ok (.aload_n 1, 1) := by decide +kernel
theorem dL_law_326 : decode cL_law 326 = .ok (.invokevirtual 44, 3) := by decide +kernel
theorem dL_law_329 : decode cL_law 329 = .ok (.aload_n 2, 1) := by decide +kernel
theorem dL_law_330 : decode cL_law 330 = .ok (.invokevirtual 47, 3) := by decide +kernel
theorem dL_law_333 : decode cL_law 333 = .ok (.if_icmp .eq 498, 3) := by decide +kernel
theorem dL_law_336 : decode cL_law 336 = .ok (.iconst 0, 1) := by decide +kernel
theorem dL_law_337 : decode cL_law 337 = .ok (.ireturn, 1) := by decide +kernel
theorem dL_law_338 : decode cL_law 338 = .ok (.aload_n 1, 1) := by decide +kernel
theorem dL_law_339 : decode cL_law 339 = .ok (.invokevirtual 48, 3) := by decide +kernel
theorem dL_law_342 : decode cL_law 342 = .ok (.aload_n 2, 1) := by decide +kernel
theorem dL_law_343 : decode cL_law 343 = .ok (.invokevirtual 51, 3) := by decide +kernel
theorem dL_law_346 : decode cL_law 346 = .ok (.if_icmp .eq 485, 3) := by decide +kernel
theorem dL_law_349 : decode cL_law 349 = .ok (.iconst 0, 1) := by decide +kernel
theorem dL_law_350 : decode cL_law 350 = .ok (.ireturn, 1) := by decide +kernel
theorem dL_law_351 : decode cL_law 351 = .ok (.aload_n 1, 1) := by decide +kernel
theorem dL_law_352 : decode cL_law 352 = .ok (.aload_n 0, 1) := by decide +kernel
theorem dL_law_353 : decode cL_law 353 = .ok (.iload_n 3, 1) := by decide +kernel
theorem dL_law_354 : decode cL_law 354 = .ok (.iconst 1, 1) := by decide +kernel
theorem dL_law_355 : decode cL_law 355 = .ok (.iadd, 1) := by decide +kernel
theorem dL_law_356 : decode cL_law 356 = .ok (.iaload, 1) := by decide +kernel
theorem dL_law_357 : decode cL_law 357 = .ok (.invokevirtual 52, 3) := by decide +kernel
theorem dL_law_360 : decode cL_law 360 = .ok (.aload_n 2, 1) := by decide +kernel
theorem dL_law_361 : decode cL_law 361 = .ok (.aload_n 0, 1) := by decide +kernel
theorem dL_law_362 : decode cL_law 362 = .ok (.iload_n 3, 1) := by decide +kernel
theorem dL_law_363 : decode cL_law 363 = .ok (.iconst 1, 1) := by decide +kernel
theorem dL_law_364 : decode cL_law 364 = .ok (.iadd, 1) := by decide +kernel
theorem dL_law_365 : decode cL_law 365 = .ok (.iaload, 1) := by decide +kernel
theorem dL_law_366 : decode cL_law 366 = .ok (.invokevirtual 55, 3) := by decide +kernel
theorem dL_law_369 : decode cL_law 369 = .ok (.if_icmp .eq 462, 3) := by decide +kernel
theorem dL_law_372 : decode cL_law 372 = .ok (.iconst 0, 1) := by decide +kernel
theorem dL_law_373 : decode cL_law 373 = .ok (.ireturn, 1) := by decide +kernel
theorem dL_law_374 : decode cL_law 374 = .ok (.aload_n 1, 1) := by decide +kernel
theorem dL_law_375 : decode cL_law 375 = .ok (.aload_n 0, 1) := by decide +kernel
theorem dL_law_376 : decode cL_law 376 = .ok (.iload_n 3, 1) := by decide +kernel
theorem dL_law_377 : decode cL_law 377 = .ok (.iconst 1, 1) := by decide +kernel
theorem dL_law_378 : decode cL_law 378 = .ok (.iadd, 1) := by decide +kernel
theorem dL_law_379 : decode cL_law 379 = .ok (.iaload, 1) := by decide +kernel
theorem dL_law_380 : decode cL_law 380 = .ok (.invokevirtual 56, 3) := by decide +kernel
theorem dL_law_383 : decode cL_law 383 = .ok (.aload_n 2, 1) := by decide +kernel
theorem dL_law_384 : decode cL_law 384 = .ok (.aload_n 0, 1) := by decide +kernel
theorem dL_law_385 : decode cL_law 385 = .ok (.iload_n 3, 1) := by decide +kernel
theorem dL_law_386 : decode cL_law 386 = .ok (.iconst 1, 1) := by decide +kernel
theorem dL_law_387 : decode cL_law 387 = .ok (.iadd, 1) := by decide +kernel
theorem dL_law_388 : decode cL_law 388 = .ok (.iaload, 1) := by decide +kernel
theorem dL_law_389 : decode cL_law 389 = .ok (.invokevirtual 59, 3) := by decide +kernel
theorem dL_law_392 : decode cL_law 392 = .ok (.if_icmp .eq 439, 3) := by decide +kernel
theorem dL_law_395 : decode cL_law 395 = .ok (.iconst 0, 1) := by decide +kernel
theorem dL_law_396 : decode cL_law 396 = .ok (.ireturn, 1) := by decide +kernel
theorem dL_law_397 : decode cL_law 397 = .ok (.aload_n 1, 1) := by decide +kernel
theorem dL_law_398 : decode cL_law 398 = .ok (.aload_n 0, 1) := by decide +kernel
theorem dL_law_399 : decode cL_law 399 = .ok (.iload_n 3, 1) := by decide +kernel
theorem dL_law_400 : decode cL_law 400 = .ok (.iconst 1, 1) := by decide +kernel
theorem dL_law_401 : decode cL_law 401 = .ok (.iadd, 1) := by decide +kernel
theorem dL_law_402 : decode cL_law 402 = .ok (.iaload, 1) := by decide +kernel
theorem dL_law_403 : decode cL_law 403 = .ok (.aload_n 0, 1) := by decide +kernel
theorem dL_law_404 : decode cL_law 404 = .ok (.iload_n 3, 1) := by decide +kernel
theorem dL_law_405 : decode cL_law 405 = .ok (.iconst 2, 1) := by decide +kernel
theorem dL_law_406 : decode cL_law 406 = .ok (.iadd, 1) := by decide +kernel
theorem dL_law_407 : decode cL_law 407 = .ok (.iaload, 1) := by decide +kernel
theorem dL_law_408 : decode cL_law 408 = .ok (.aload_n 0, 1) := by decide +kernel
theorem dL_law_409 : decode cL_law 409 = .ok (.iload_n 3, 1) := by decide +kernel
theorem dL_law_410 : decode cL_law 410 = .ok (.iconst 3, 1) := by decide +kernel
theorem dL_law_411 : decode cL_law 411 = .ok (.iadd, 1) := by decide +kernel
theorem dL_law_412 : decode cL_law 412 = .ok (.iaload, 1) := by decide +kernel
theorem dL_law_413 : decode cL_law 413 = .ok (.aload_n 0, 1) := by decide +kernel
theorem dL_law_414 : decode cL_law 414 = .ok (.iload_n 3, 1) := by decide +kernel
theorem dL_law_415 : decode cL_law 415 = .ok (.iconst 4, 1) := by decide +kernel
theorem dL_law_416 : decode cL_law 416 = .ok (.iadd, 1) := by decide +kernel
theorem dL_law_417 : decode cL_law 417 = .ok (.iaload, 1) := by decide +kernel
theorem dL_law_418 : decode cL_law 418 = .ok (.invokevirtual 60, 3) := by decide +kernel
theorem dL_law_421 : decode cL_law 421 = .ok (.aload_n 2, 1) := by decide +kernel
theorem dL_law_422 : decode cL_law 422 = .ok (.aload_n 0, 1) := by decide +kernel
theorem dL_law_423 : decode cL_law 423 = .ok (.iload_n 3, 1) := by decide +kernel
theorem dL_law_424 : decode cL_law 424 = .ok (.iconst 1, 1) := by decide +kernel
theorem dL_law_425 : decode cL_law 425 = .ok (.iadd, 1) := by decide +kernel
theorem dL_law_426 : decode cL_law 426 = .ok (.iaload, 1) := by decide +kernel
theorem dL_law_427 : decode cL_law 427 = .ok (.aload_n 0, 1) := by decide +kernel
theorem dL_law_428 : decode cL_law 428 = .ok (.iload_n 3, 1) := by decide +kernel
theorem dL_law_429 : decode cL_law 429 = .ok (.iconst 2, 1) := by decide +kernel
theorem dL_law_430 : decode cL_law 430 = .ok (.iadd, 1) := by decide +kernel
theorem dL_law_431 : decode cL_law 431 = .ok (.iaload, 1) := by decide +kernel
theorem dL_law_432 : decode cL_law 432 = .ok (.aload_n 0, 1) := by decide +kernel
theorem dL_law_433 : decode cL_law 433 = .ok (.iload_n 3, 1) := by decide +kernel
theorem dL_law_434 : decode cL_law 434 = .ok (.iconst 3, 1) := by decide +kernel
theorem dL_law_435 : decode cL_law 435 = .ok (.iadd, 1) := by decide +kernel
theorem dL_law_436 : decode cL_law 436 = .ok (.iaload, 1) := by decide +kernel
theorem dL_law_437 : decode cL_law 437 = .ok (.aload_n 0, 1) := by decide +kernel
theorem dL_law_438 : decode cL_law 438 = .ok (.iload_n 3, 1) := by decide +kernel
theorem dL_law_439 : decode cL_law 439 = .ok (.iconst 4, 1) := by decide +kernel
theorem dL_law_440 : decode cL_law 440 = .ok (.iadd, 1) := by decide +kernel
theorem dL_law_441 : decode cL_law 441 = .ok (.iaload, 1) := by decide +kernel
theorem dL_law_442 : decode cL_law 442 = .ok (.invokevirtual 64, 3) := by decide +kernel
theorem dL_law_445 : decode cL_law 445 = .ok (.if_icmp .eq 386, 3) := by decide +kernel
theorem dL_law_448 : decode cL_law 448 = .ok (.iconst 0, 1) := by decide +kernel
theorem dL_law_449 : decode cL_law 449 = .ok (.ireturn, 1) := by decide +kernel
theorem dL_law_450 : decode cL_law 450 = .ok (.aload_n 1, 1) := by decide +kernel
theorem dL_law_451 : decode cL_law 451 = .ok (.aload_n 0, 1) := by decide +kernel
theorem dL_law_452 : decode cL_law 452 = .ok (.iload_n 3, 1) := by decide +kernel
theorem dL_law_453 : decode cL_law 453 = .ok (.iconst 1, 1) := by decide +kernel
theorem dL_law_454 : decode cL_law 454 = .ok (.iadd, 1) := by decide +kernel
theorem dL_law_455 : decode cL_law 455 = .ok (.iaload, 1) := by decide +kernel
theorem dL_law_456 : decode cL_law 456 = .ok (.aload_n 0, 1) := by decide +kernel
theorem dL_law_457 : decode cL_law 457 = .ok (.iload_n 3, 1) := by decide +kernel
theorem dL_law_458 : decode cL_law 458 = .ok (.iconst 2, 1) := by decide +kernel
theorem dL_law_459 : decode cL_law 459 = .ok (.iadd, 1) := by decide +kernel
theorem dL_law_460 : decode cL_law 460 = .ok (.iaload, 1) := by decide +kernel
theorem dL_law_461 : decode cL_law 461 = .ok (.aload_n 0, 1) := by decide +kernel
theorem dL_law_462 : decode cL_law 462 = .ok (.iload_n 3, 1) := by decide +kernel
theorem dL_law_463 : decode cL_law 463 = .ok (.iconst 3, 1) := by decide +kernel
theorem dL_law_464 : decode cL_law 464 = .ok (.iadd, 1) := by decide +kernel
theorem dL_law_465 : decode cL_law 465 = .ok (.iaload, 1) := by decide +kernel
theorem dL_law_466 : decode cL_law 466 = .ok (.invokevirtual 65, 3) := by decide +kernel
theorem dL_law_469 : decode cL_law 469 = .ok (.aload_n 2, 1) := by decide +kernel
theorem dL_law_470 : decode cL_law 470 = .ok (.aload_n 0, 1) := by decide +kernel
theorem dL_law_471 : decode cL_law 471 = .ok (.iload_n 3, 1) := by decide +kernel
theorem dL_law_472 : decode cL_law 472 = .ok (.iconst 1, 1) := by decide +kernel
theorem dL_law_473 : decode cL_law 473 = .ok (.iadd, 1) := by decide +kernel
theorem dL_law_474 : decode cL_law 474 = .ok (.iaload, 1) := by decide +kernel
theorem dL_law_475 : decode cL_law 475 = .ok (.aload_n 0, 1) := by decide +kernel
theorem dL_law_476 : decode cL_law 476 = .ok (.iload_n 3, 1) := by decide +kernel
theorem dL_law_477 : decode cL_law 477 = .ok (.iconst 2, 1) := by decide +kernel
theorem dL_law_478 : decode cL_law 478 = .ok (.iadd, 1) := by decide +kernel
theorem dL_law_479 : decode cL_law 479 = .ok (.iaload, 1) := by decide +kernel
theorem dL_law_480 : decode cL_law 480 = .ok (.aload_n 0, 1) := by decide +kernel
theorem dL_law_481 : decode cL_law 481 = .ok (.iload_n 3, 1) := by decide +kernel
theorem dL_law_482 : decode cL_law 482 = .ok (.iconst 3, 1) := by decide +kernel
theorem dL_law_483 : decode cL_law 483 = .ok (.iadd, 1) := by decide +kernel
theorem dL_law_484 : decode cL_law 484 = .ok (.iaload, 1) := by decide +kernel
theorem dL_law_485 : decode cL_law 485 = .ok (.invokevirtual 69, 3) := by decide +kernel
theorem dL_law_488 : decode cL_law 488 = .ok (.if_icmp .eq 343, 3) := by decide +kernel
theorem dL_law_491 : decode cL_law 491 = .ok (.iconst 0, 1) := by decide +kernel
theorem dL_law_492 : decode cL_law 492 = .ok (.ireturn, 1) := by decide +kernel
theorem dL_law_493 : decode cL_law 493 = .ok (.aload_n 1, 1) := by decide +kernel
theorem dL_law_494 : decode cL_law 494 = .ok (.aload_n 0, 1) := by decide +kernel
theorem dL_law_495 : decode cL_law 495 = .ok (.iload_n 3, 1) := by decide +kernel
theorem dL_law_496 : decode cL_law 496 = .ok (.iconst 1, 1) := by decide +kernel
theorem dL_law_497 : decode cL_law 497 = .ok (.iadd, 1) := by decide +kernel
theorem dL_law_498 : decode cL_law 498 = .ok (.iaload, 1) := by decide +kernel
theorem dL_law_499 : decode cL_law 499 = .ok (.invokevirtual 70, 3) := by decide +kernel
theorem dL_law_502 : decode cL_law 502 = .ok (.aload_n 2, 1) := by decide +kernel
theorem dL_law_503 : decode cL_law 503 = .ok (.aload_n 0, 1) := by decide +kernel
theorem dL_law_504 : decode cL_law 504 = .ok (.iload_n 3, 1) := by decide +kernel
theorem dL_law_505 : decode cL_law 505 = .ok (.iconst 1, 1) := by decide +kernel
theorem dL_law_506 : decode cL_law 506 = .ok (.iadd, 1) := by decide +kernel
theorem dL_law_507 : decode cL_law 507 = .ok (.iaload, 1) := by decide +kernel
theorem dL_law_508 : decode cL_law 508 = .ok (.invokevirtual 73, 3) := by decide +kernel
theorem dL_law_511 : decode cL_law 511 = .ok (.if_icmp .eq 320, 3) := by decide +kernel
theorem dL_law_514 : decode cL_law 514 = .ok (.iconst 0, 1) := by decide +kernel
theorem dL_law_515 : decode cL_law 515 = .ok (.ireturn, 1) := by decide +kernel
theorem dL_law_516 : decode cL_law 516 = .ok (.aload_n 1, 1) := by decide +kernel
theorem dL_law_517 : decode cL_law 517 = .ok (.aload_n 0, 1) := by decide +kernel
theorem dL_law_518 : decode cL_law 518 = .ok (.iload_n 3, 1) := by decide +kernel
theorem dL_law_519 : decode cL_law 519 = .ok (.iconst 1, 1) := by decide +kernel
theorem dL_law_520 : decode cL_law 520 = .ok (.iadd, 1) := by decide +kernel
theorem dL_law_521 : decode cL_law 521 = .ok (.iaload, 1) := by decide +kernel
theorem dL_law_522 : decode cL_law 522 = .ok (.aload_n 0, 1) := by decide +kernel
theorem dL_law_523 : decode cL_law 523 = .ok (.iload_n 3, 1) := by decide +kernel
theorem dL_law_524 : decode cL_law 524 = .ok (.iconst 2, 1) := by decide +kernel
theorem dL_law_525 : decode cL_law 525 = .ok (.iadd, 1) := by decide +kernel
theorem dL_law_526 : decode cL_law 526 = .ok (.iaload, 1) := by decide +kernel
theorem dL_law_527 : decode cL_law 527 = .ok (.invokevirtual 74, 3) := by decide +kernel
theorem dL_law_530 : decode cL_law 530 = .ok (.aload_n 2, 1) := by decide +kernel
theorem dL_law_531 : decode cL_law 531 = .ok (.aload_n 0, 1) := by decide +kernel
theorem dL_law_532 : decode cL_law 532 = .ok (.iload_n 3, 1) := by decide +kernel
theorem dL_law_533 : decode cL_law 533 = .ok (.iconst 1, 1) := by decide +kernel
theorem dL_law_534 : decode cL_law 534 = .ok (.iadd, 1) := by decide +kernel
theorem dL_law_535 : decode cL_law 535 = .ok (.iaload, 1) := by decide +kernel
theorem dL_law_536 : decode cL_law 536 = .ok (.aload_n 0, 1) := by decide +kernel
theorem dL_law_537 : decode cL_law 537 = .ok (.iload_n 3, 1) := by decide +kernel
theorem dL_law_538 : decode cL_law 538 = .ok (.iconst 2, 1) := by decide +kernel
theorem dL_law_539 : decode cL_law 539 = .ok (.iadd, 1) := by decide +kernel
theorem dL_law_540 : decode cL_law 540 = .ok (.iaload, 1) := by decide +kernel
theorem dL_law_541 : decode cL_law 541 = .ok (.invokevirtual 77, 3) := by decide +kernel
theorem dL_law_544 : decode cL_law 544 = .ok (.if_icmp .eq 287, 3) := by decide +kernel
theorem dL_law_547 : decode cL_law 547 = .ok (.iconst 0, 1) := by decide +kernel
theorem dL_law_548 : decode cL_law 548 = .ok (.ireturn, 1) := by decide +kernel
theorem dL_law_549 : decode cL_law 549 = .ok (.aload_n 1, 1) := by decide +kernel
theorem dL_law_550 : decode cL_law 550 = .ok (.aload_n 0, 1) := by decide +kernel
theorem dL_law_551 : decode cL_law 551 = .ok (.iload_n 3, 1) := by decide +kernel
theorem dL_law_552 : decode cL_law 552 = .ok (.iconst 1, 1) := by decide +kernel
theorem dL_law_553 : decode cL_law 553 = .ok (.iadd, 1) := by decide +kernel
theorem dL_law_554 : decode cL_law 554 = .ok (.iaload, 1) := by decide +kernel
theorem dL_law_555 : decode cL_law 555 = .ok (.aload_n 0, 1) := by decide +kernel
theorem dL_law_556 : decode cL_law 556 = .ok (.iload_n 3, 1) := by decide +kernel
theorem dL_law_557 : decode cL_law 557 = .ok (.iconst 2, 1) := by decide +kernel
theorem dL_law_558 : decode cL_law 558 = .ok (.iadd, 1) := by decide +kernel
theorem dL_law_559 : decode cL_law 559 = .ok (.iaload, 1) := by decide +kernel
theorem dL_law_560 : decode cL_law 560 = .ok (.invokevirtual 78, 3) := by decide +kernel
theorem dL_law_563 : decode cL_law 563 = .ok (.aload_n 2, 1) := by decide +kernel
theorem dL_law_564 : decode cL_law 564 = .ok (.aload_n 0, 1) := by decide +kernel
theorem dL_law_565 : decode cL_law 565 = .ok (.iload_n 3, 1) := by decide +kernel
theorem dL_law_566 : decode cL_law 566 = .ok (.iconst 1, 1) := by decide +kernel
theorem dL_law_567 : decode cL_law 567 = .ok (.iadd, 1) := by decide +kernel
theorem dL_law_568 : decode cL_law 568 = .ok (.iaload, 1) := by decide +kernel
theorem dL_law_569 : decode cL_law 569 = .ok (.aload_n 0, 1) := by decide +kernel
theorem dL_law_570 : decode cL_law 570 = .ok (.iload_n 3, 1) := by decide +kernel
theorem dL_law_571 : decode cL_law 571 = .ok (.iconst 2, 1) := by decide +kernel
theorem dL_law_572 : decode cL_law 572 = .ok (.iadd, 1) := by decide +kernel
theorem dL_law_573 : decode cL_law 573 = .ok (.iaload, 1) := by decide +kernel
theorem dL_law_574 : decode cL_law 574 = .ok (.invokevirtual 81, 3) := by decide +kernel
theorem dL_law_577 : decode cL_law 577 = .ok (.if_icmp .eq 254, 3) := by decide +kernel
theorem dL_law_580 : decode cL_law 580 = .ok (.iconst 0, 1) := by decide +kernel
theorem dL_law_581 : decode cL_law 581 = .ok (.ireturn, 1) := by decide +kernel
theorem dL_law_582 : decode cL_law 582 = .ok (.aload_n 1, 1) := by decide +kernel
theorem dL_law_583 : decode cL_law 583 = .ok (.invokevirtual 82, 3) := by decide +kernel
theorem dL_law_586 : decode cL_law 586 = .ok (.aload_n 2, 1) := by decide +kernel
theorem dL_law_587 : decode cL_law 587 = .ok (.invokevirtual 85, 3) := by decide +kernel
theorem dL_law_590 : decode cL_law 590 = .ok (.if_icmp .eq 241, 3) := by decide +kernel
theorem dL_law_593 : decode cL_law 593 = .ok (.iconst 0, 1) := by decide +kernel
theorem dL_law_594 : decode cL_law 594 = .ok (.ireturn, 1) := by decide +kernel
theorem dL_law_595 : decode cL_law 595 = .ok (.aload_n 1, 1) := by decide +kernel
theorem dL_law_596 : decode cL_law 596 = .ok (.aload_n 0, 1) := by decide +kernel
theorem dL_law_597 : decode cL_law 597 = .ok (.iload_n 3, 1) := by decide +kernel
theorem dL_law_598 : decode cL_law 598 = .ok (.iconst 1, 1) := by decide +kernel
theorem dL_law_599 : decode cL_law 599 = .ok (.iadd, 1) := by decide +kernel
theorem dL_law_600 : decode cL_law 600 = .ok (.iaload, 1) := by decide +kernel
theorem dL_law_601 : decode cL_law 601 = .ok (.invokevirtual 86, 3) := by decide +kernel
theorem dL_law_604 : decode cL_law 604 = .ok (.aload_n 2, 1) := by decide +kernel
theorem dL_law_605 : decode cL_law 605 = .ok (.aload_n 0, 1) := by decide +kernel
theorem dL_law_606 : decode cL_law 606 = .ok (.iload_n 3, 1) := by decide +kernel
theorem dL_law_607 : decode cL_law 607 = .ok (.iconst 1, 1) := by decide +kernel
theorem dL_law_608 : decode cL_law 608 = .ok (.iadd, 1) := by decide +kernel
theorem dL_law_609 : decode cL_law 609 = .ok (.iaload, 1) := by decide +kernel
theorem dL_law_610 : decode cL_law 610 = .ok (.invokevirtual 89, 3) := by decide +kernel
theorem dL_law_613 : decode cL_law 613 = .ok (.if_icmp .eq 218, 3) := by decide +kernel
theorem dL_law_616 : decode cL_law 616 = .ok (.iconst 0, 1) := by decide +kernel
theorem dL_law_617 : decode cL_law 617 = .ok (.ireturn, 1) := by decide +kernel
theorem dL_law_618 : decode cL_law 618 = .ok (.aload_n 1, 1) := by decide +kernel
theorem dL_law_619 : decode cL_law 619 = .ok (.aload_n 0, 1) := by decide +kernel
theorem dL_law_620 : decode cL_law 620 = .ok (.iload_n 3, 1) := by decide +kernel
theorem dL_law_621 : decode cL_law 621 = .ok (.iconst 1, 1) := by decide +kernel
theorem dL_law_622 : decode cL_law 622 = .ok (.iadd, 1) := by decide +kernel
theorem dL_law_623 : decode cL_law 623 = .ok (.iaload, 1) := by decide +kernel
theorem dL_law_624 : decode cL_law 624 = .ok (.invokevirtual 90, 3) := by decide +kernel
theorem dL_law_627 : decode cL_law 627 = .ok (.aload_n 2, 1) := by decide +kernel
theorem dL_law_628 : decode cL_law 628 = .ok (.aload_n 0, 1) := by decide +kernel
theorem dL_law_629 : decode cL_law 629 = .ok (.iload_n 3, 1) := by decide +kernel
theorem dL_law_630 : decode cL_law 630 = .ok (.iconst 1, 1) := by decide +kernel
theorem dL_law_631 : decode cL_law 631 = .ok (.iadd, 1) := by decide +kernel
theorem dL_law_632 : decode cL_law 632 = .ok (.iaload, 1) := by decide +kernel
theorem dL_law_633 : decode cL_law 633 = .ok (.invokevirtual 93, 3) := by decide +kernel
theorem dL_law_636 : decode cL_law 636 = .ok (.if_icmp .eq 195, 3) := by decide +kernel
theorem dL_law_639 : decode cL_law 639 = .ok (.iconst 0, 1) := by decide +kernel
theorem dL_law_640 : decode cL_law 640 = .ok (.ireturn, 1) := by decide +kernel
theorem dL_law_641 : decode cL_law 641 = .ok (.aload_n 1, 1) := by decide +kernel
theorem dL_law_642 : decode cL_law 642 = .ok (.aload_n 0, 1) := by decide +kernel
theorem dL_law_643 : decode cL_law 643 = .ok (.iload_n 3, 1) := by decide +kernel
theorem dL_law_644 : decode cL_law 644 = .ok (.iconst 1, 1) := by decide +kernel
theorem dL_law_645 : decode cL_law 645 = .ok (.iadd, 1) := by decide +kernel
theorem dL_law_646 : decode cL_law 646 = .ok (.iaload, 1) := by decide +kernel
theorem dL_law_647 : decode cL_law 647 = .ok (.aload_n 0, 1) := by decide +kernel
theorem dL_law_648 : decode cL_law 648 = .ok (.iload_n 3, 1) := by decide +kernel
theorem dL_law_649 : decode cL_law 649 = .ok (.iconst 2, 1) := by decide +kernel
theorem dL_law_650 : decode cL_law 650 = .ok (.iadd, 1) := by decide +kernel
theorem dL_law_651 : decode cL_law 651 = .ok (.iaload, 1) := by decide +kernel
theorem dL_law_652 : decode cL_law 652 = .ok (.invokevirtual 94, 3) := by decide +kernel
theorem dL_law_655 : decode cL_law 655 = .ok (.aload_n 2, 1) := by decide +kernel
theorem dL_law_656 : decode cL_law 656 = .ok (.aload_n 0, 1) := by decide +kernel
theorem dL_law_657 : decode cL_law 657 = .ok (.iload_n 3, 1) := by decide +kernel
theorem dL_law_658 : decode cL_law 658 = .ok (.iconst 1, 1) := by decide +kernel
theorem dL_law_659 : decode cL_law 659 = .ok (.iadd, 1) := by decide +kernel
theorem dL_law_660 : decode cL_law 660 = .ok (.iaload, 1) := by decide +kernel
theorem dL_law_661 : decode cL_law 661 = .ok (.aload_n 0, 1) := by decide +kernel
theorem dL_law_662 : decode cL_law 662 = .ok (.iload_n 3, 1) := by decide +kernel
theorem dL_law_663 : decode cL_law 663 = .ok (.iconst 2, 1) := by decide +kernel
theorem dL_law_664 : decode cL_law 664 = .ok (.iadd, 1) := by decide +kernel
theorem dL_law_665 : decode cL_law 665 = .ok (.iaload, 1) := by decide +kernel
theorem dL_law_666 : decode cL_law 666 = .ok (.invokevirtual 97, 3) := by decide +kernel
theorem dL_law_669 : decode cL_law 669 = .ok (.if_icmp .eq 162, 3) := by decide +kernel
theorem dL_law_672 : decode cL_law 672 = .ok (.iconst 0, 1) := by decide +kernel
theorem dL_law_673 : decode cL_law 673 = .ok (.ireturn, 1) := by decide +kernel
theorem dL_law_674 : decode cL_law 674 = .ok (.aload_n 1, 1) := by decide +kernel
theorem dL_law_675 : decode cL_law 675 = .ok (.invokevirtual 98, 3) := by decide +kernel
theorem dL_law_678 : decode cL_law 678 = .ok (.aload_n 2, 1) := by decide +kernel
theorem dL_law_679 : decode cL_law 679 = .ok (.invokevirtual 101, 3) := by decide +kernel
theorem dL_law_682 : decode cL_law 682 = .ok (.if_icmp .eq 149, 3) := by decide +kernel
theorem dL_law_685 : decode cL_law 685 = .ok (.iconst 0, 1) := by decide +kernel
theorem dL_law_686 : decode cL_law 686 = .ok (.ireturn, 1) := by decide +kernel
theorem dL_law_687 : decode cL_law 687 = .ok (.aload_n 1, 1) := by decide +kernel
theorem dL_law_688 : decode cL_law 688 = .ok (.invokevirtual 102, 3) := by decide +kernel
theorem dL_law_691 : decode cL_law 691 = .ok (.aload_n 2, 1) := by decide +kernel
theorem dL_law_692 : decode cL_law 692 = .ok (.invokevirtual 105, 3) := by decide +kernel
theorem dL_law_695 : decode cL_law 695 = .ok (.if_icmp .eq 136, 3) := by decide +kernel
theorem dL_law_698 : decode cL_law 698 = .ok (.iconst 0, 1) := by decide +kernel
theorem dL_law_699 : decode cL_law 699 = .ok (.ireturn, 1) := by decide +kernel
theorem dL_law_700 : decode cL_law 700 = .ok (.aload_n 1, 1) := by decide +kernel
theorem dL_law_701 : decode cL_law 701 = .ok (.aload_n 0, 1) := by decide +kernel
theorem dL_law_702 : decode cL_law 702 = .ok (.iload_n 3, 1) := by decide +kernel
theorem dL_law_703 : decode cL_law 703 = .ok (.iconst 1, 1) := by decide +kernel
theorem dL_law_704 : decode cL_law 704 = .ok (.iadd, 1) := by decide +kernel
theorem dL_law_705 : decode cL_law 705 = .ok (.iaload, 1) := by decide +kernel
theorem dL_law_706 : decode cL_law 706 = .ok (.invokevirtual 106, 3) := by decide +kernel
theorem dL_law_709 : decode cL_law 709 = .ok (.aload_n 2, 1) := by decide +kernel
theorem dL_law_710 : decode cL_law 710 = .ok (.aload_n 0, 1) := by decide +kernel
theorem dL_law_711 : decode cL_law 711 = .ok (.iload_n 3, 1) := by decide +kernel
theorem dL_law_712 : decode cL_law 712 = .ok (.iconst 1, 1) := by decide +kernel
theorem dL_law_713 : decode cL_law 713 = .ok (.iadd, 1) := by decide +kernel
theorem dL_law_714 : decode cL_law 714 = .ok (.iaload, 1) := by decide +kernel
theorem dL_law_715 : decode cL_law 715 = .ok (.invokevirtual 109, 3) := by decide +kernel
theorem dL_law_718 : decode cL_law 718 = .ok (.if_icmp .eq 113, 3) := by decide +kernel
theorem dL_law_721 : decode cL_law 721 = .ok (.iconst 0, 1) := by decide +kernel
theorem dL_law_722 : decode cL_law 722 = .ok (.ireturn, 1) := by decide +kernel
theorem dL_law_723 : decode cL_law 723 = .ok (.aload_n 1, 1) := by decide +kernel
theorem dL_law_724 : decode cL_law 724 = .ok (.invokevirtual 110, 3) := by decide +kernel
theorem dL_law_727 : decode cL_law 727 = .ok (.aload_n 2, 1) := by decide +kernel
theorem dL_law_728 : decode cL_law 728 = .ok (.invokevirtual 113, 3) := by decide +kernel
theorem dL_law_731 : decode cL_law 731 = .ok (.if_icmp .eq 100, 3) := by decide +kernel
theorem dL_law_734 : decode cL_law 734 = .ok (.iconst 0, 1) := by decide +kernel
theorem dL_law_735 : decode cL_law 735 = .ok (.ireturn, 1) := by decide +kernel
theorem dL_law_736 : decode cL_law 736 = .ok (.aload_n 1, 1) := by decide +kernel
theorem dL_law_737 : decode cL_law 737 = .ok (.invokevirtual 114, 3) := by decide +kernel
theorem dL_law_740 : decode cL_law 740 = .ok (.aload_n 2, 1) := by decide +kernel
theorem dL_law_741 : decode cL_law 741 = .ok (.invokevirtual 117, 3) := by decide +kernel
theorem dL_law_744 : decode cL_law 744 = .ok (.if_icmp .eq 87, 3) := by decide +kernel
theorem dL_law_747 : decode cL_law 747 = .ok (.iconst 0, 1) := by decide +kernel
theorem dL_law_748 : decode cL_law 748 = .ok (.ireturn, 1) := by decide +kernel
theorem dL_law_749 : decode cL_law 749 = .ok (.aload_n 1, 1) := by decide +kernel
theorem dL_law_750 : decode cL_law 750 = .ok (.aload_n 0, 1) := by decide +kernel
theorem dL_law_751 : decode cL_law 751 = .ok (.iload_n 3, 1) := by decide +kernel
theorem dL_law_752 : decode cL_law 752 = .ok (.iconst 1, 1) := by decide +kernel
theorem dL_law_753 : decode cL_law 753 = .ok (.iadd, 1) := by decide +kernel
theorem dL_law_754 : decode cL_law 754 = .ok (.iaload, 1) := by decide +kernel
theorem dL_law_755 : decode cL_law 755 = .ok (.invokevirtual 118, 3) := by decide +kernel
theorem dL_law_758 : decode cL_law 758 = .ok (.aload_n 2, 1) := by decide +kernel
theorem dL_law_759 : decode cL_law 759 = .ok (.aload_n 0, 1) := by decide +kernel
theorem dL_law_760 : decode cL_law 760 = .ok (.iload_n 3, 1) := by decide +kernel
theorem dL_law_761 : decode cL_law 761 = .ok (.iconst 1, 1) := by decide +kernel
theorem dL_law_762 : decode cL_law 762 = .ok (.iadd, 1) := by decide +kernel
theorem dL_law_763 : decode cL_law 763 = .ok (.iaload, 1) := by decide +kernel
theorem dL_law_764 : decode cL_law 764 = .ok (.invokevirtual 121, 3) := by decide +kernel
theorem dL_law_767 : decode cL_law 767 = .ok (.if_icmp .eq 64, 3) := by decide +kernel
theorem dL_law_770 : decode cL_law 770 = .ok (.iconst 0, 1) := by decide +kernel
theorem dL_law_771 : decode cL_law 771 = .ok (.ireturn, 1) := by decide +kernel
theorem dL_law_772 : decode cL_law 772 = .ok (.aload_n 1, 1) := by decide +kernel
theorem dL_law_773 : decode cL_law 773 = .ok (.aload_n 0, 1) := by decide +kernel
theorem dL_law_774 : decode cL_law 774 = .ok (.iload_n 3, 1) := by decide +kernel
theorem dL_law_775 : decode cL_law 775 = .ok (.iconst 1, 1) := by decide +kernel
theorem dL_law_776 : decode cL_law 776 = .ok (.iadd, 1) := by decide +kernel
theorem dL_law_777 : decode cL_law 777 = .ok (.iaload, 1) := by decide +kernel
theorem dL_law_778 : decode cL_law 778 = .ok (.invokevirtual 122, 3) := by decide +kernel
theorem dL_law_781 : decode cL_law 781 = .ok (.aload_n 2, 1) := by decide +kernel
theorem dL_law_782 : decode cL_law 782 = .ok (.aload_n 0, 1) := by decide +kernel
theorem dL_law_783 : decode cL_law 783 = .ok (.iload_n 3, 1) := by decide +kernel
theorem dL_law_784 : decode cL_law 784 = .ok (.iconst 1, 1) := by decide +kernel
theorem dL_law_785 : decode cL_law 785 = .ok (.iadd, 1) := by decide +kernel
theorem dL_law_786 : decode cL_law 786 = .ok (.iaload, 1) := by decide +kernel
theorem dL_law_787 : decode cL_law 787 = .ok (.invokevirtual 125, 3) := by decide +kernel
theorem dL_law_790 : decode cL_law 790 = .ok (.if_icmp .eq 41, 3) := by decide +kernel
theorem dL_law_793 : decode cL_law 793 = .ok (.iconst 0, 1) := by decide +kernel
theorem dL_law_794 : decode cL_law 794 = .ok (.ireturn, 1) := by decide +kernel
theorem dL_law_795 : decode cL_law 795 = .ok (.aload_n 1, 1) := by decide +kernel
theorem dL_law_796 : decode cL_law 796 = .ok (.aload_n 0, 1) := by decide +kernel
theorem dL_law_797 : decode cL_law 797 = .ok (.iload_n 3, 1) := by decide +kernel
theorem dL_law_798 : decode cL_law 798 = .ok (.iconst 1, 1) := by decide +kernel
theorem dL_law_799 : decode cL_law 799 = .ok (.iadd, 1) := by decide +kernel
theorem dL_law_800 : decode cL_law 800 = .ok (.iaload, 1) := by decide +kernel
theorem dL_law_801 : decode cL_law 801 = .ok (.invokevirtual 126, 3) := by decide +kernel
theorem dL_law_804 : decode cL_law 804 = .ok (.aload_n 2, 1) := by decide +kernel
theorem dL_law_805 : decode cL_law 805 = .ok (.aload_n 0, 1) := by decide +kernel
theorem dL_law_806 : decode cL_law 806 = .ok (.iload_n 3, 1) := by decide +kernel
theorem dL_law_807 : decode cL_law 807 = .ok (.iconst 1, 1) := by decide +kernel
theorem dL_law_808 : decode cL_law 808 = .ok (.iadd, 1) := by decide +kernel
theorem dL_law_809 : decode cL_law 809 = .ok (.iaload, 1) := by decide +kernel
theorem dL_law_810 : decode cL_law 810 = .ok (.invokevirtual 129, 3) := by decide +kernel
theorem dL_law_813 : decode cL_law 813 = .ok (.if_icmp .eq 18, 3) := by decide +kernel
theorem dL_law_816 : decode cL_law 816 = .ok (.iconst 0, 1) := by decide +kernel
theorem dL_law_817 : decode cL_law 817 = .ok (.ireturn, 1) := by decide +kernel
theorem dL_law_818 : decode cL_law 818 = .ok (.aload_n 1, 1) := by decide +kernel
theorem dL_law_819 : decode cL_law 819 = .ok (.invokevirtual 130, 3) := by decide +kernel
theorem dL_law_822 : decode cL_law 822 = .ok (.aload_n 2, 1) := by decide +kernel
theorem dL_law_823 : decode cL_law 823 = .ok (.invokevirtual 133, 3) := by decide +kernel
theorem dL_law_826 : decode cL_law 826 = .ok (.if_icmp .eq 5, 3) := by decide +kernel
theorem dL_law_829 : decode cL_law 829 = .ok (.iconst 0, 1) := by decide +kernel
theorem dL_law_830 : decode cL_law 830 = .ok (.ireturn, 1) := by decide +kernel
theorem dL_law_831 : decode cL_law 831 = .ok (.iinc 3 5, 3) := by decide +kernel
theorem dL_law_834 : decode cL_law 834 = .ok (.goto (-816), 3) := by decide +kernel
theorem dL_law_837 : decode cL_law 837 = .ok (.iconst 1, 1) := by decide +kernel
theorem dL_law_838 : decode cL_law 838 = .ok (.ireturn, 1) := by decide +kernel
end
section
/-! THE SMALL MACHINE: a walk of a method over a memory of ints with a fixed layout of 172 cells (all of the bench's and of the reference's cells, as they stand after the two constructors).
Its steps are functions; part 06 shows that the machine itself does what they do. -/
abbrev KMem : Type := Nat → Nat → Int32
abbrev KC : Type := Nat × List Value × List Value × KMem
abbrev KF : Type := List Value → List Value → KMem → Option KC
abbrev KOp : Type := KF ⊕ (Nat × Nat × Nat) ⊕ Nat
def mset (M : KMem) (k j : Nat) (v : Int32) : KMem := fun a => if a = k then upd (M k) j v else M a
theorem mset_row (M : KMem) (k j : Nat) (v : Int32) : mset M k j v k = upd (M k) j v := if_pos rfl
theorem mset_off {M : KMem} {k j : Nat} {v : Int32} {a : Nat} (h : a ≠ k) : mset M k j v a = M a := if_neg h
theorem mset_eq (M : KMem) (k j : Nat) (v : Int32) : mset M k j v k j = v := by rw [mset_row]; exact if_pos rfl
theorem mset_ne {M : KMem} {k j : Nat} {v : Int32} {a b : Nat} (h : ¬ (a = k ∧ b = j)) : mset M k j v a b = M a b := by
  by_cases ha : a = k
  · subst ha
    rw [mset_row]
    exact if_neg (fun q => h ⟨rfl, q⟩)
  · rw [mset_off ha]
theorem mset_apply (M : KMem) (k j : Nat) (v : Int32) (a b : Nat) : mset M k j v a b = if a = k ∧ b = j then v else M a b := by
  by_cases h : a = k ∧ b = j
  · rw [if_pos h, h.1, h.2, mset_eq]
  · rw [if_neg h, mset_ne h]
/-- what kind of cell: 0 to 4 an object of that class, 5 int[], 6 char[], 7 boolean[], 8 byte[], 9 Tray[], 10 State[] -/
def kd (k : Nat) : Nat :=
  if k = 0 then 3
  else if k < 161 then
    if (k - 1) % 20 = 0 then 1
    else if (k - 1) % 20 < 6 then (if (k - 1) % 20 = 3 then 9 else 5)
    else if (k - 1) % 20 % 2 = 0 then 2 else 5
  else if k = 161 then 10
  else if k = 162 then 0
  else if k = 163 then 6
  else if k = 164 then 5
  else if k = 165 then 7
  else if k = 166 then 4
  else if k = 169 then 8
  else if k < 172 then 5 else 99
def ln (k : Nat) : Nat :=
  if k < 161 then (if (k - 1) % 20 = 3 then 7 else 10)
  else if k = 161 then 6
  else if k = 163 then 80
  else if k = 167 then 137
  else if k = 168 then 822
  else if k = 169 then 80
  else if k = 170 then 137 else 10
def rf (k j : Nat) : Nat :=
  if k = 0 then (if j = 0 then 1 else if j = 1 then 21 else if j = 2 then 161 else 162)
  else if k < 161 then
    if (k - 1) % 20 = 0 then k + 1 + j
    else if (k - 1) % 20 = 3 then k + 3 + 2 * j else k + 1
  else if k = 161 then 41 + 20 * j
  else if k = 162 then 163 + j
  else if j = 0 then 167 else if j = 1 then 168 else if j = 3 then 169 else if j = 5 then 170 else 171
def kisR (c j : Nat) : Bool := match c with
  | 0 => j < 3
  | 1 => j < 5
  | 2 => j == 0
  | 3 => j < 4
  | _ => j == 0 || j == 1 || j == 3 || j == 5 || j == 6
def knF (c : Nat) : Nat := match c with
  | 0 => 5
  | 1 => 14
  | 2 => 4
  | 3 => 6
  | _ => 8
def kin (i : Int32) (n : Nat) : Bool := decide (¬ i < 0) && decide (i.toNatClampNeg < n)
def kNL (v : Value) : Bool := match v with
  | .long _ => false
  | .double _ => false
  | _ => true
def knl (ls : List Value) (i : Nat) : Bool := match i with
  | 0 => true
  | i + 1 => kNL (ls.getD i .null)
def kcat (st : List Value) : Nat := (st.map fun v => v.category).sum
def kcpy (M : KMem) (a sp b dp n : Nat) : KMem := fun c => if c = b then va_cpy (M a) (M b) sp dp n else M c
def knar (ty : Nat) (x : Int32) : Int32 := match ty with
  | 6 => vp_nar .char x
  | 7 => vp_nar .boolean x
  | 8 => vp_nar .byte x
  | _ => x
def g_push (v : Int32) (nx : Nat) : KF := fun ls st M => some (nx, ls, .int v :: st, M)
def g_pushl (v : Int64) (nx : Nat) : KF := fun ls st M => some (nx, ls, .long v :: st, M)
def g_ild (i nx : Nat) : KF := fun ls st M => match ls[i]? with
  | some (.int x) => some (nx, ls, .int x :: st, M)
  | _ => none
def g_ald (i nx : Nat) : KF := fun ls st M => match ls[i]? with
  | some (.ref x) => some (nx, ls, .ref x :: st, M)
  | _ => none
def g_lld (i nx : Nat) : KF := fun ls st M => match ls[i]? with
  | some (.long x) => some (nx, ls, .long x :: st, M)
  | _ => none
def g_ist (i nx : Nat) : KF := fun ls st M => match st with
  | .int x :: r => if decide (i < ls.length) && knl ls i then some (nx, ls.set i (.int x), r, M) else none
  | _ => none
def g_ast (i nx : Nat) : KF := fun ls st M => match st with
  | .ref x :: r => if decide (i < ls.length) && knl ls i then some (nx, ls.set i (.ref x), r, M) else none
  | _ => none
def g_lst (i nx : Nat) : KF := fun ls st M => match st with
  | .long x :: r => if decide (i + 1 < ls.length) && knl ls i then some (nx, (ls.set i (.long x)).set (i + 1) .null, r, M) else none
  | _ => none
def g_iinc (i : Nat) (n : Int32) (nx : Nat) : KF := fun ls st M => match ls[i]? with
  | some (.int x) => if knl ls i then some (nx, ls.set i (.int (x + n)), st, M) else none
  | _ => none
def g_iop (f : Int32 → Int32 → Int32) (nx : Nat) : KF := fun ls st M => match st with
  | .int y :: .int x :: r => some (nx, ls, .int (f x y) :: r, M)
  | _ => none
def g_idiv (f : Int32 → Int32 → Int32) (nx : Nat) : KF := fun ls st M => match st with
  | .int y :: .int x :: r => if y = 0 then none else some (nx, ls, .int (f x y) :: r, M)
  | _ => none
def g_lop (f : Int64 → Int64 → Int64) (nx : Nat) : KF := fun ls st M => match st with
  | .long y :: .long x :: r => some (nx, ls, .long (f x y) :: r, M)
  | _ => none
def g_ldiv (nx : Nat) : KF := fun ls st M => match st with
  | .long y :: .long x :: r => if y = 0 then none else some (nx, ls, .long (x / y) :: r, M)
  | _ => none
def g_lcmp (nx : Nat) : KF := fun ls st M => match st with
  | .long y :: .long x :: r => some (nx, ls, .int (lg_cmp x y) :: r, M)
  | _ => none
def g_i2l (nx : Nat) : KF := fun ls st M => match st with
  | .int x :: r => some (nx, ls, .long x.toInt64 :: r, M)
  | _ => none
def g_l2i (nx : Nat) : KF := fun ls st M => match st with
  | .long x :: r => some (nx, ls, .int x.toInt32 :: r, M)
  | _ => none
def g_i2i (f : Int32 → Int32) (nx : Nat) : KF := fun ls st M => match st with
  | .int x :: r => some (nx, ls, .int (f x) :: r, M)
  | _ => none
def k_i2b (x : Int32) : Int32 := x.toInt8.toInt32
def k_i2c (x : Int32) : Int32 := (x.toUInt32 % 65536).toInt32
def k_irem (x y : Int32) : Int32 := x - x / y * y
def g_dup (nx : Nat) : KF := fun ls st M => match st with
  | v :: r => if kNL v then some (nx, ls, v :: v :: r, M) else none
  | _ => none
def g_dup2 (nx : Nat) : KF := fun ls st M => match st with
  | v :: w :: r => if kNL v && kNL w then some (nx, ls, v :: w :: v :: w :: r, M) else none
  | _ => none
def g_pop (nx : Nat) : KF := fun ls st M => match st with
  | v :: r => if kNL v then some (nx, ls, r, M) else none
  | _ => none
def g_goto (nx : Nat) : KF := fun ls st M => some (nx, ls, st, M)
def g_br2 (b : Int32 → Int32 → Bool) (tgt nx : Nat) : KF := fun ls st M => match st with
  | .int y :: .int x :: r => some (if b x y then tgt else nx, ls, r, M)
  | _ => none
def g_br1 (b : Int32 → Bool) (tgt nx : Nat) : KF := fun ls st M => match st with
  | .int x :: r => some (if b x then tgt else nx, ls, r, M)
  | _ => none
def g_tsw (hi : Int) (tg : List Nat) (df : Nat) : KF := fun ls st M => match st with
  | .int x :: r => some (if x.toInt < 0 ∨ hi < x.toInt then df else tg.getD x.toInt.toNat df, ls, r, M)
  | _ => none
def g_lsw2 (a b : Int32) (ta tb df : Nat) : KF := fun ls st M => match st with
  | .int x :: r => some (if x = a then ta else if x = b then tb else df, ls, r, M)
  | _ => none
def g_gfi (c j nx : Nat) : KF := fun ls st M => match st with
  | .ref k :: r => if kd k = c then some (nx, ls, .int (M k j) :: r, M) else none
  | _ => none
def g_gfr (c j nx : Nat) : KF := fun ls st M => match st with
  | .ref k :: r => if kd k = c then some (nx, ls, .ref (rf k j) :: r, M) else none
  | _ => none
def g_pfi (c j nx : Nat) : KF := fun ls st M => match st with
  | .int v :: .ref k :: r => if kd k = c then some (nx, ls, r, mset M k j v) else none
  | _ => none
def g_pfz (c j nx : Nat) : KF := fun ls st M => match st with
  | .int v :: .ref k :: r => if kd k = c ∧ (v = 0 ∨ v = 1) then some (nx, ls, r, mset M k j v) else none
  | _ => none
def g_pald (ty nx : Nat) : KF := fun ls st M => match st with
  | .int i :: .ref k :: r => if kd k = ty ∧ kin i (ln k) = true then some (nx, ls, .int (M k i.toNatClampNeg) :: r, M) else none
  | _ => none
def g_past (ty nx : Nat) : KF := fun ls st M => match st with
  | .int x :: .int i :: .ref k :: r => if kd k = ty ∧ kin i (ln k) = true then some (nx, ls, r, mset M k i.toNatClampNeg (knar ty x)) else none
  | _ => none
def g_aald (ty nx : Nat) : KF := fun ls st M => match st with
  | .int i :: .ref k :: r => if kd k = ty ∧ kin i (ln k) = true then some (nx, ls, .ref (rf k i.toNatClampNeg) :: r, M) else none
  | _ => none
def g_alen (nx : Nat) : KF := fun ls st M => match st with
  | .ref k :: r => if kd k = 5 then some (nx, ls, .int (nI (ln k)) :: r, M) else none
  | _ => none
def g_imax (nx : Nat) : KF := fun ls st M => match st with
  | .int y :: .int x :: r => if kcat r ≤ 8 then some (nx, ls, .int (if x < y then y else x) :: r, M) else none
  | _ => none
def g_imin (nx : Nat) : KF := fun ls st M => match st with
  | .int y :: .int x :: r => if kcat r ≤ 8 then some (nx, ls, .int (if y < x then y else x) :: r, M) else none
  | _ => none
def g_lmax (nx : Nat) : KF := fun ls st M => match st with
  | .long y :: .long x :: r => if kcat r ≤ 8 then some (nx, ls, .long (if y < x then x else y) :: r, M) else none
  | _ => none
def g_acp (nx : Nat) : KF := fun ls st M => match st with
  | .int n :: .int dp :: .ref b :: .int sp :: .ref a :: r =>
    if kd a = 5 ∧ kd b = 5 ∧ ¬ sp < 0 ∧ ¬ dp < 0 ∧ ¬ n < 0 ∧ sp.toNatClampNeg + n.toNatClampNeg ≤ ln a ∧ dp.toNatClampNeg + n.toNatClampNeg ≤ ln b ∧ kcat r ≤ 8 then
      some (nx, ls, r, kcpy M a sp.toNatClampNeg b dp.toNatClampNeg n.toNatClampNeg) else none
  | _ => none
end
section
/-! the methods, by number: 0 X0_readPairs, 1 X0_forget, 2 X0_readPair, 3 X0_readMass, 4 X0_skipSpaces, 5 X0_isSign, 6 X0_isDigit, 7 X0_digit, 8 X1_copyFrom, 9 X1_isTray, 10 X1_isSieve, 11 X1_halveSample, 12 X1_findSieve, 13 X1_insertSieve, 14 X1_takeSieve, 15 X1_endAnalysis, 16 X1_beginAnalysis, 17 X1_shakeOneMinute, 18 X1_lostMass, 19 X1_hasCollected, 20 X1_passingOf, 21 X1_collectedFrom, 22 X2_copyFrom, 23 X2_throwAway, 24 X2_openness, 25 X2_dropOnto, 26 X2_blind, 27 X2_fallingOf, 28 X2_easeOf, 29 X3_setMass, 30 X3_mass, 31 X3_reserve, 32 X3_split, 33 X3_splitTo, 34 X3_combine, 35 X3_appendCharacter, 36 X3_clearText, 37 X3_load, 38 X3_addSieve, 39 X3_removeSieve, 40 X3_setRules, 41 X3_setBand, 42 X3_count, 43 X3_tray, 44 X3_on, 45 X3_charge, 46 X3_shake, 47 X3_collect, 48 X3_brush, 49 X3_loss, 50 X3_isGood, 51 X3_passing, 52 X3_misses, 53 X3_modulus, 54 X3_truePassing, 55 X3_minutesTo, 56 X3_dustIn, 57 X3_undo, 58 X3_saveState, 59 X3_isIn, 60 X3_isClass, 61 X3_massIn, 62 X3_sumOf, 63 X3_clearRow, 64 X3_copyRow, 65 X3_perThousand, 66 X4_in, 67 X4_notes, 68 X4_undo, 69 X4_sum, 70 X4_setMass, 71 X4_massAt, 72 X4_mass, 73 X4_reserve, 74 X4_divides, 75 X4_split, 76 X4_splitTo, 77 X4_combine, 78 X4_appendCharacter, 79 X4_clearText, 80 X4_here, 81 X4_readsPair, 82 X4_reads, 83 X4_load, 84 X4_at, 85 X4_trayWith, 86 X4_ends, 87 X4_addSieve, 88 X4_removeSieve, 89 X4_changes, 90 X4_setRules, 91 X4_setBand, 92 X4_count, 93 X4_isTray, 94 X4_isSieve, 95 X4_openness, 96 X4_tray, 97 X4_on, 98 X4_charge, 99 X4_falling, 100 X4_minute, 101 X4_shake, 102 X4_collect, 103 X4_brush, 104 X4_lost, 105 X4_loss, 106 X4_isGood, 107 X4_collected, 108 X4_isTold, 109 X4_passes, 110 X4_passing, 111 X4_misses, 112 X4_modulus, 113 X4_truePassing, 114 X4_keeps, 115 X4_restores, 116 X4_minutesTo, 117 X4_dustIn -/
def kml (m : Nat) : Nat := ([3, 2, 2, 6, 1, 2, 1, 1, 3, 2, 2, 6, 3, 3, 3, 2, 2, 2, 4, 1, 2, 4, 2, 1, 2, 7, 3, 3, 1, 4, 2, 2, 2, 3, 2, 2, 2, 2, 2, 3, 6, 5, 2, 4, 3, 2, 4, 4, 5, 1, 1, 2, 4, 3, 5, 3, 3, 1, 1, 3, 1, 2, 6, 2, 2, 2, 3, 2, 2, 4, 4, 3, 2, 2, 6, 2, 3, 2, 2, 2, 1, 6, 2, 2, 2, 3, 2, 3, 4, 4, 6, 5, 2, 2, 2, 3, 3, 3, 3, 6, 8, 4, 4, 4, 3, 1, 1, 4, 1, 2, 2, 4, 3, 6, 2, 2, 4, 5] : List Nat).getD m 0
def kcls (m : Nat) : Nat := ([0, 0, 0, 0, 0, 0, 0, 0, 1, 1, 1, 1, 1, 1, 1, 1, 1, 1, 1, 1, 1, 1, 2, 2, 2, 2, 2, 2, 2, 3, 3, 3, 3, 3, 3, 3, 3, 3, 3, 3, 3, 3, 3, 3, 3, 3, 3, 3, 3, 3, 3, 3, 3, 3, 3, 3, 3, 3, 3, 3, 3, 3, 3, 3, 3, 3, 4, 4, 4, 4, 4, 4, 4, 4, 4, 4, 4, 4, 4, 4, 4, 4, 4, 4, 4, 4, 4, 4, 4, 4, 4, 4, 4, 4, 4, 4, 4, 4, 4, 4, 4, 4, 4, 4, 4, 4, 4, 4, 4, 4, 4, 4, 4, 4, 4, 4, 4, 4] : List Nat).getD m 99
def kstat (m : Nat) : Bool := ([false, false, false, false, false, false, false, false, false, false, false, false, false, false, false, false, false, false, false, false, false, false, false, false, false, false, false, true, true, false, false, false, false, false, false, false, false, false, false, false, false, false, false, false, false, false, false, false, false, false, false, false, false, false, false, false, false, false, false, true, true, true, true, true, true, true, true, false, false, false, false, false, false, false, false, false, false, false, false, false, false, false, false, false, false, false, false, false, false, false, false, false, false, false, false, false, false, false, false, true, false, false, false, false, false, false, false, false, false, false, false, false, false, false, false, false, false, false] : List Bool).getD m false
def krc (m : Nat) : Nat := ([1, 0, 1, 1, 0, 2, 2, 1, 0, 2, 2, 0, 1, 1, 0, 0, 0, 1, 1, 2, 1, 1, 0, 0, 1, 1, 0, 1, 1, 1, 1, 1, 1, 1, 1, 1, 1, 1, 1, 1, 1, 1, 1, 1, 1, 1, 1, 1, 1, 1, 1, 1, 1, 1, 1, 1, 1, 1, 0, 2, 2, 1, 1, 0, 0, 1, 2, 0, 1, 1, 1, 1, 1, 1, 0, 1, 1, 1, 1, 1, 1, 2, 2, 1, 1, 1, 0, 1, 1, 1, 1, 1, 1, 2, 2, 1, 1, 1, 1, 1, 1, 1, 1, 1, 1, 1, 1, 1, 2, 1, 1, 1, 1, 1, 0, 0, 1, 1] : List Nat).getD m 0
def knar_ (m : Nat) : Nat := ([0, 0, 0, 1, 0, 1, 0, 0, 1, 1, 1, 1, 1, 1, 1, 0, 1, 0, 0, 0, 1, 1, 1, 0, 1, 2, 1, 3, 1, 2, 1, 1, 1, 1, 0, 1, 0, 0, 1, 1, 4, 3, 1, 2, 2, 0, 1, 1, 2, 0, 0, 1, 0, 0, 1, 1, 1, 0, 0, 3, 1, 2, 1, 1, 2, 2, 3, 0, 0, 1, 2, 2, 1, 1, 1, 1, 1, 0, 1, 0, 0, 0, 0, 0, 1, 1, 0, 1, 1, 2, 4, 3, 1, 1, 1, 1, 2, 2, 0, 3, 0, 1, 1, 2, 0, 0, 0, 1, 0, 1, 1, 0, 0, 1, 0, 0, 1, 1] : List Nat).getD m 0
def kna (m : Nat) : Nat := ([1, 1, 1, 2, 1, 2, 1, 1, 2, 2, 2, 2, 2, 2, 2, 1, 2, 1, 1, 1, 2, 2, 2, 1, 2, 3, 2, 3, 1, 3, 2, 2, 2, 2, 1, 2, 1, 1, 2, 2, 5, 4, 2, 3, 3, 1, 2, 2, 3, 1, 1, 2, 1, 1, 2, 2, 2, 1, 1, 3, 1, 2, 1, 1, 2, 2, 3, 1, 1, 2, 3, 3, 2, 2, 2, 2, 2, 1, 2, 1, 1, 1, 1, 1, 2, 2, 1, 2, 2, 3, 5, 4, 2, 2, 2, 2, 3, 3, 1, 3, 1, 2, 2, 3, 1, 1, 1, 2, 1, 2, 2, 1, 1, 2, 1, 1, 2, 2] : List Nat).getD m 0
def kn : Nat := 118
def krf (m : Nat) : Nat := ([4, 0, 3, 2, 1, 0, 1, 0, 3, 1, 1, 0, 0, 0, 0, 2, 2, 3, 1, 1, 1, 0, 2, 1, 1, 2, 0, 1, 0, 5, 3, 3, 5, 5, 5, 1, 0, 5, 5, 5, 5, 5, 0, 2, 2, 5, 5, 5, 5, 2, 2, 2, 2, 2, 1, 4, 4, 4, 4, 0, 1, 2, 0, 0, 1, 0, 0, 0, 0, 0, 1, 1, 2, 2, 0, 1, 1, 1, 1, 0, 0, 1, 2, 3, 0, 0, 0, 1, 1, 0, 1, 1, 0, 1, 1, 2, 3, 2, 1, 0, 3, 4, 2, 2, 1, 2, 2, 1, 2, 2, 3, 3, 3, 1, 0, 0, 4, 4] : List Nat).getD m 0
def krl (m : Nat) : Nat := ([88, 0, 67, 42, 21, 0, 22, 0, 68, 22, 22, 0, 0, 0, 0, 41, 47, 71, 25, 23, 23, 0, 47, 21, 23, 45, 0, 23, 0, 110, 63, 63, 110, 110, 110, 22, 0, 110, 110, 110, 110, 110, 0, 44, 43, 110, 110, 110, 110, 48, 48, 44, 44, 44, 25, 92, 92, 90, 90, 0, 22, 42, 0, 0, 26, 0, 0, 0, 0, 0, 22, 23, 45, 45, 0, 25, 25, 23, 22, 0, 0, 22, 47, 68, 0, 0, 0, 22, 22, 0, 23, 23, 0, 22, 22, 43, 65, 43, 23, 0, 65, 92, 43, 43, 23, 45, 45, 21, 44, 44, 65, 65, 65, 23, 0, 0, 92, 92] : List Nat).getD m 0
def ky (m : Nat) : MethodName := ([yX0_readPairs, yX0_forget, yX0_readPair, yX0_readMass, yX0_skipSpaces, yX0_isSign, yX0_isDigit, yX0_digit, yX1_copyFrom, yX1_isTray, yX1_isSieve, yX1_halveSample, yX1_findSieve, yX1_insertSieve, yX1_takeSieve, yX1_endAnalysis, yX1_beginAnalysis, yX1_shakeOneMinute, yX1_lostMass, yX1_hasCollected, yX1_passingOf, yX1_collectedFrom, yX2_copyFrom, yX2_throwAway, yX2_openness, yX2_dropOnto, yX2_blind, yX2_fallingOf, yX2_easeOf, yX3_setMass, yX3_mass, yX3_reserve, yX3_split, yX3_splitTo, yX3_combine, yX3_appendCharacter, yX3_clearText, yX3_load, yX3_addSieve, yX3_removeSieve, yX3_setRules, yX3_setBand, yX3_count, yX3_tray, yX3_on, yX3_charge, yX3_shake, yX3_collect, yX3_brush, yX3_loss, yX3_isGood, yX3_passing, yX3_misses, yX3_modulus, yX3_truePassing, yX3_minutesTo, yX3_dustIn, yX3_undo, yX3_saveState, yX3_isIn, yX3_isClass, yX3_massIn, yX3_sumOf, yX3_clearRow, yX3_copyRow, yX3_perThousand, yX4_in, yX4_notes, yX4_undo, yX4_sum, yX4_setMass, yX4_massAt, yX4_mass, yX4_reserve, yX4_divides, yX4_split, yX4_splitTo, yX4_combine, yX4_appendCharacter, yX4_clearText, yX4_here, yX4_readsPair, yX4_reads, yX4_load, yX4_at, yX4_trayWith, yX4_ends, yX4_addSieve, yX4_removeSieve, yX4_changes, yX4_setRules, yX4_setBand, yX4_count, yX4_isTray, yX4_isSieve, yX4_openness, yX4_tray, yX4_on, yX4_charge, yX4_falling, yX4_minute, yX4_shake, yX4_collect, yX4_brush, yX4_lost, yX4_loss, yX4_isGood, yX4_collected, yX4_isTold, yX4_passes, yX4_passing, yX4_misses, yX4_modulus, yX4_truePassing, yX4_keeps, yX4_restores, yX4_minutesTo, yX4_dustIn] : List MethodName).getD m yX0_init
def kcode (m : Nat) : ByteArray := ([cX0_readPairs, cX0_forget, cX0_readPair, cX0_readMass, cX0_skipSpaces, cX0_isSign, cX0_isDigit, cX0_digit, cX1_copyFrom, cX1_isTray, cX1_isSieve, cX1_halveSample, cX1_findSieve, cX1_insertSieve, cX1_takeSieve, cX1_endAnalysis, cX1_beginAnalysis, cX1_shakeOneMinute, cX1_lostMass, cX1_hasCollected, cX1_passingOf, cX1_collectedFrom, cX2_copyFrom, cX2_throwAway, cX2_openness, cX2_dropOnto, cX2_blind, cX2_fallingOf, cX2_easeOf, cX3_setMass, cX3_mass, cX3_reserve, cX3_split, cX3_splitTo, cX3_combine, cX3_appendCharacter, cX3_clearText, cX3_load, cX3_addSieve, cX3_removeSieve, cX3_setRules, cX3_setBand, cX3_count, cX3_tray, cX3_on, cX3_charge, cX3_shake, cX3_collect, cX3_brush, cX3_loss, cX3_isGood, cX3_passing, cX3_misses, cX3_modulus, cX3_truePassing, cX3_minutesTo, cX3_dustIn, cX3_undo, cX3_saveState, cX3_isIn, cX3_isClass, cX3_massIn, cX3_sumOf, cX3_clearRow, cX3_copyRow, cX3_perThousand, cX4_in, cX4_notes, cX4_undo, cX4_sum, cX4_setMass, cX4_massAt, cX4_mass, cX4_reserve, cX4_divides, cX4_split, cX4_splitTo, cX4_combine, cX4_appendCharacter, cX4_clearText, cX4_here, cX4_readsPair, cX4_reads, cX4_load, cX4_at, cX4_trayWith, cX4_ends, cX4_addSieve, cX4_removeSieve, cX4_changes, cX4_setRules, cX4_setBand, cX4_count, cX4_isTray, cX4_isSieve, cX4_openness, cX4_tray, cX4_on, cX4_charge, cX4_falling, cX4_minute, cX4_shake, cX4_collect, cX4_brush, cX4_lost, cX4_loss, cX4_isGood, cX4_collected, cX4_isTold, cX4_passes, cX4_passing, cX4_misses, cX4_modulus, cX4_truePassing, cX4_keeps, cX4_restores, cX4_minutesTo, cX4_dustIn] : List ByteArray).getD m cX0_init
def kown (m : Nat) : String := ([RX0, RX0, RX0, RX0, RX0, RX0, RX0, RX0, RX1, RX1, RX1, RX1, RX1, RX1, RX1, RX1, RX1, RX1, RX1, RX1, RX1, RX1, RX2, RX2, RX2, RX2, RX2, RX2, RX2, RX3, RX3, RX3, RX3, RX3, RX3, RX3, RX3, RX3, RX3, RX3, RX3, RX3, RX3, RX3, RX3, RX3, RX3, RX3, RX3, RX3, RX3, RX3, RX3, RX3, RX3, RX3, RX3, RX3, RX3, RX3, RX3, RX3, RX3, RX3, RX3, RX3, RX4, RX4, RX4, RX4, RX4, RX4, RX4, RX4, RX4, RX4, RX4, RX4, RX4, RX4, RX4, RX4, RX4, RX4, RX4, RX4, RX4, RX4, RX4, RX4, RX4, RX4, RX4, RX4, RX4, RX4, RX4, RX4, RX4, RX4, RX4, RX4, RX4, RX4, RX4, RX4, RX4, RX4, RX4, RX4, RX4, RX4, RX4, RX4, RX4, RX4, RX4, RX4] : List String).getD m RX0
def kretT (m : Nat) : Option FieldType := ([some .int, none, some .int, some .int, none, some .boolean, some .boolean, some .int, none, some .boolean, some .boolean, none, some .int, some .int, none, none, none, some .int, some .int, some .boolean, some .int, some .int, none, none, some .int, some .int, none, some .int, some .int, some .int, some .int, some .int, some .int, some .int, some .int, some .int, some .int, some .int, some .int, some .int, some .int, some .int, some .int, some .int, some .int, some .int, some .int, some .int, some .int, some .int, some .int, some .int, some .int, some .int, some .int, some .int, some .int, some .int, none, some .boolean, some .boolean, some .int, some .int, none, none, some .int, some .boolean, none, some .int, some .int, some .int, some .int, some .int, some .int, none, some .int, some .int, some .int, some .int, some .int, some .int, some .boolean, some .boolean, some .int, some .int, some .int, none, some .int, some .int, some .int, some .int, some .int, some .int, some .boolean, some .boolean, some .int, some .int, some .int, some .int, some .int, some .int, some .int, some .int, some .int, some .int, some .int, some .int, some .int, some .boolean, some .int, some .int, some .int, some .int, some .int, none, none, some .int, some .int] : List (Option FieldType)).getD m none
def knestD : List (String × Nat × MethodName × String) := [(RX0, 55, yX3_isIn, RX3), (RX1, 44, yX3_copyRow, RX3), (RX1, 68, yX3_isIn, RX3), (RX1, 81, yX3_clearRow, RX3), (RX1, 93, yX3_sumOf, RX3), (RX1, 107, yX3_perThousand, RX3), (RX2, 15, yX3_copyRow, RX3), (RX2, 29, yX3_clearRow, RX3), (RX2, 33, yX3_perThousand, RX3)]
def kp_0 (pc : Nat) : Option KOp := cond (Nat.ble pc 41) (cond (Nat.ble pc 21) (cond (Nat.ble pc 9) (cond (Nat.ble pc 4) (cond (Nat.ble pc 0) (cond (Nat.beq pc 0) (some (.inl (g_ald 0 1))) none) (cond (Nat.ble pc 1) (cond (Nat.beq pc 1) (some (.inr (.inl (1, 1, 4)))) none) (cond (Nat.beq pc 4) (some (.inl (g_ald 0 5))) none))) (cond (Nat.ble pc 5) (cond (Nat.beq pc 5) (some (.inr (.inl (4, 1, 8)))) none) (cond (Nat.ble pc 8) (cond (Nat.beq pc 8) (some (.inl (g_ald 0 9))) none) (cond (Nat.beq pc 9) (some (.inl (g_gfi 0 4 12))) none)))) (cond (Nat.ble pc 16) (cond (Nat.ble pc 12) (cond (Nat.beq pc 12) (some (.inl (g_ald 0 13))) none) (cond (Nat.ble pc 13) (cond (Nat.beq pc 13) (some (.inl (g_gfi 0 3 16))) none) (cond (Nat.beq pc 16) (some (.inl (g_br2 (fun x y => decide (x < y)) 21 19))) none))) (cond (Nat.ble pc 19) (cond (Nat.beq pc 19) (some (.inl (g_push (-1) 20))) none) (cond (Nat.ble pc 20) (cond (Nat.beq pc 20) (some (.inr (.inr 1))) none) (cond (Nat.beq pc 21) (some (.inl (g_push 0 22))) none))))) (cond (Nat.ble pc 30) (cond (Nat.ble pc 24) (cond (Nat.ble pc 22) (cond (Nat.beq pc 22) (some (.inl (g_ist 1 23))) none) (cond (Nat.ble pc 23) (cond (Nat.beq pc 23) (some (.inl (g_ild 1 24))) none) (cond (Nat.beq pc 24) (some (.inl (g_push 10 26))) none))) (cond (Nat.ble pc 26) (cond (Nat.beq pc 26) (some (.inl (g_br2 (fun x y => decide (y < x)) 88 29))) none) (cond (Nat.ble pc 29) (cond (Nat.beq pc 29) (some (.inl (g_ald 0 30))) none) (cond (Nat.beq pc 30) (some (.inr (.inl (2, 1, 33)))) none)))) (cond (Nat.ble pc 35) (cond (Nat.ble pc 33) (cond (Nat.beq pc 33) (some (.inl (g_ist 2 34))) none) (cond (Nat.ble pc 34) (cond (Nat.beq pc 34) (some (.inl (g_ild 2 35))) none) (cond (Nat.beq pc 35) (some (.inl (g_push (-1) 36))) none))) (cond (Nat.ble pc 39) (cond (Nat.ble pc 36) (cond (Nat.beq pc 36) (some (.inl (g_br2 (fun x y => decide (x = y)) 41 39))) none) (cond (Nat.beq pc 39) (some (.inl (g_ild 2 40))) none)) (cond (Nat.ble pc 40) (cond (Nat.beq pc 40) (some (.inr (.inr 1))) none) (cond (Nat.beq pc 41) (some (.inl (g_ald 0 42))) none)))))) (cond (Nat.ble pc 67) (cond (Nat.ble pc 53) (cond (Nat.ble pc 46) (cond (Nat.ble pc 42) (cond (Nat.beq pc 42) (some (.inr (.inl (4, 1, 45)))) none) (cond (Nat.ble pc 45) (cond (Nat.beq pc 45) (some (.inl (g_ald 0 46))) none) (cond (Nat.beq pc 46) (some (.inl (g_gfi 0 4 49))) none))) (cond (Nat.ble pc 49) (cond (Nat.beq pc 49) (some (.inl (g_ald 0 50))) none) (cond (Nat.ble pc 50) (cond (Nat.beq pc 50) (some (.inl (g_gfi 0 3 53))) none) (cond (Nat.beq pc 53) (some (.inl (g_br2 (fun x y => decide (x < y)) 58 56))) none)))) (cond (Nat.ble pc 58) (cond (Nat.ble pc 56) (cond (Nat.beq pc 56) (some (.inl (g_push (-1) 57))) none) (cond (Nat.ble pc 57) (cond (Nat.beq pc 57) (some (.inr (.inr 1))) none) (cond (Nat.beq pc 58) (some (.inl (g_ald 0 59))) none))) (cond (Nat.ble pc 61) (cond (Nat.ble pc 59) (cond (Nat.beq pc 59) (some (.inl (g_push 44 61))) none) (cond (Nat.beq pc 61) (some (.inr (.inl (5, 2, 64)))) none)) (cond (Nat.ble pc 64) (cond (Nat.beq pc 64) (some (.inl (g_br1 (fun x => decide (¬ x = 0)) 72 67))) none) (cond (Nat.beq pc 67) (some (.inl (g_ald 0 68))) none))))) (cond (Nat.ble pc 77) (cond (Nat.ble pc 72) (cond (Nat.ble pc 68) (cond (Nat.beq pc 68) (some (.inl (g_gfi 0 4 71))) none) (cond (Nat.ble pc 71) (cond (Nat.beq pc 71) (some (.inr (.inr 1))) none) (cond (Nat.beq pc 72) (some (.inl (g_ald 0 73))) none))) (cond (Nat.ble pc 73) (cond (Nat.beq pc 73) (some (.inl (g_dup 74))) none) (cond (Nat.ble pc 74) (cond (Nat.beq pc 74) (some (.inl (g_gfi 0 4 77))) none) (cond (Nat.beq pc 77) (some (.inl (g_push 1 78))) none)))) (cond (Nat.ble pc 82) (cond (Nat.ble pc 78) (cond (Nat.beq pc 78) (some (.inl (g_iop (fun x y => x + y) 79))) none) (cond (Nat.ble pc 79) (cond (Nat.beq pc 79) (some (.inl (g_pfi 0 4 82))) none) (cond (Nat.beq pc 82) (some (.inl (g_iinc 1 1 85))) none))) (cond (Nat.ble pc 88) (cond (Nat.ble pc 85) (cond (Nat.beq pc 85) (some (.inl (g_goto 23))) none) (cond (Nat.beq pc 88) (some (.inl (g_ald 0 89))) none)) (cond (Nat.ble pc 89) (cond (Nat.beq pc 89) (some (.inl (g_gfi 0 4 92))) none) (cond (Nat.beq pc 92) (some (.inr (.inr 1))) none))))))
def kp_1 (pc : Nat) : Option KOp := cond (Nat.ble pc 14) (cond (Nat.ble pc 5) (cond (Nat.ble pc 1) (cond (Nat.ble pc 0) (cond (Nat.beq pc 0) (some (.inl (g_push 0 1))) none) (cond (Nat.beq pc 1) (some (.inl (g_ist 1 2))) none)) (cond (Nat.ble pc 2) (cond (Nat.beq pc 2) (some (.inl (g_ild 1 3))) none) (cond (Nat.ble pc 3) (cond (Nat.beq pc 3) (some (.inl (g_push 10 5))) none) (cond (Nat.beq pc 5) (some (.inl (g_br2 (fun x y => decide (y ≤ x)) 28 8))) none)))) (cond (Nat.ble pc 9) (cond (Nat.ble pc 8) (cond (Nat.beq pc 8) (some (.inl (g_ald 0 9))) none) (cond (Nat.beq pc 9) (some (.inl (g_gfr 0 1 12))) none)) (cond (Nat.ble pc 12) (cond (Nat.beq pc 12) (some (.inl (g_ild 1 13))) none) (cond (Nat.ble pc 13) (cond (Nat.beq pc 13) (some (.inl (g_push 0 14))) none) (cond (Nat.beq pc 14) (some (.inl (g_past 5 15))) none))))) (cond (Nat.ble pc 21) (cond (Nat.ble pc 16) (cond (Nat.ble pc 15) (cond (Nat.beq pc 15) (some (.inl (g_ald 0 16))) none) (cond (Nat.beq pc 16) (some (.inl (g_gfr 0 2 19))) none)) (cond (Nat.ble pc 19) (cond (Nat.beq pc 19) (some (.inl (g_ild 1 20))) none) (cond (Nat.ble pc 20) (cond (Nat.beq pc 20) (some (.inl (g_push 0 21))) none) (cond (Nat.beq pc 21) (some (.inl (g_past 7 22))) none)))) (cond (Nat.ble pc 28) (cond (Nat.ble pc 22) (cond (Nat.beq pc 22) (some (.inl (g_iinc 1 1 25))) none) (cond (Nat.ble pc 25) (cond (Nat.beq pc 25) (some (.inl (g_goto 2))) none) (cond (Nat.beq pc 28) (some (.inl (g_ald 0 29))) none))) (cond (Nat.ble pc 29) (cond (Nat.beq pc 29) (some (.inl (g_push 0 30))) none) (cond (Nat.ble pc 30) (cond (Nat.beq pc 30) (some (.inl (g_pfi 0 4 33))) none) (cond (Nat.beq pc 33) (some (.inr (.inr 0))) none)))))
def kp_2 (pc : Nat) : Option KOp := cond (Nat.ble pc 42) (cond (Nat.ble pc 21) (cond (Nat.ble pc 11) (cond (Nat.ble pc 4) (cond (Nat.ble pc 0) (cond (Nat.beq pc 0) (some (.inl (g_ald 0 1))) none) (cond (Nat.ble pc 1) (cond (Nat.beq pc 1) (some (.inr (.inl (4, 1, 4)))) none) (cond (Nat.beq pc 4) (some (.inl (g_ald 0 5))) none))) (cond (Nat.ble pc 5) (cond (Nat.beq pc 5) (some (.inr (.inl (6, 1, 8)))) none) (cond (Nat.ble pc 8) (cond (Nat.beq pc 8) (some (.inl (g_br1 (fun x => decide (¬ x = 0)) 16 11))) none) (cond (Nat.beq pc 11) (some (.inl (g_ald 0 12))) none)))) (cond (Nat.ble pc 16) (cond (Nat.ble pc 12) (cond (Nat.beq pc 12) (some (.inl (g_gfi 0 4 15))) none) (cond (Nat.ble pc 15) (cond (Nat.beq pc 15) (some (.inr (.inr 1))) none) (cond (Nat.beq pc 16) (some (.inl (g_ald 0 17))) none))) (cond (Nat.ble pc 17) (cond (Nat.beq pc 17) (some (.inr (.inl (7, 1, 20)))) none) (cond (Nat.ble pc 20) (cond (Nat.beq pc 20) (some (.inl (g_ist 1 21))) none) (cond (Nat.beq pc 21) (some (.inl (g_ald 0 22))) none))))) (cond (Nat.ble pc 31) (cond (Nat.ble pc 26) (cond (Nat.ble pc 22) (cond (Nat.beq pc 22) (some (.inl (g_gfr 0 2 25))) none) (cond (Nat.ble pc 25) (cond (Nat.beq pc 25) (some (.inl (g_ild 1 26))) none) (cond (Nat.beq pc 26) (some (.inl (g_pald 7 27))) none))) (cond (Nat.ble pc 27) (cond (Nat.beq pc 27) (some (.inl (g_br1 (fun x => decide (x = 0)) 35 30))) none) (cond (Nat.ble pc 30) (cond (Nat.beq pc 30) (some (.inl (g_ald 0 31))) none) (cond (Nat.beq pc 31) (some (.inl (g_gfi 0 4 34))) none)))) (cond (Nat.ble pc 36) (cond (Nat.ble pc 34) (cond (Nat.beq pc 34) (some (.inr (.inr 1))) none) (cond (Nat.ble pc 35) (cond (Nat.beq pc 35) (some (.inl (g_ald 0 36))) none) (cond (Nat.beq pc 36) (some (.inl (g_gfr 0 2 39))) none))) (cond (Nat.ble pc 40) (cond (Nat.ble pc 39) (cond (Nat.beq pc 39) (some (.inl (g_ild 1 40))) none) (cond (Nat.beq pc 40) (some (.inl (g_push 1 41))) none)) (cond (Nat.ble pc 41) (cond (Nat.beq pc 41) (some (.inl (g_past 7 42))) none) (cond (Nat.beq pc 42) (some (.inl (g_ald 0 43))) none)))))) (cond (Nat.ble pc 66) (cond (Nat.ble pc 52) (cond (Nat.ble pc 47) (cond (Nat.ble pc 43) (cond (Nat.beq pc 43) (some (.inl (g_dup 44))) none) (cond (Nat.ble pc 44) (cond (Nat.beq pc 44) (some (.inl (g_gfi 0 4 47))) none) (cond (Nat.beq pc 47) (some (.inl (g_push 1 48))) none))) (cond (Nat.ble pc 48) (cond (Nat.beq pc 48) (some (.inl (g_iop (fun x y => x + y) 49))) none) (cond (Nat.ble pc 49) (cond (Nat.beq pc 49) (some (.inl (g_pfi 0 4 52))) none) (cond (Nat.beq pc 52) (some (.inl (g_ald 0 53))) none)))) (cond (Nat.ble pc 57) (cond (Nat.ble pc 53) (cond (Nat.beq pc 53) (some (.inr (.inl (4, 1, 56)))) none) (cond (Nat.ble pc 56) (cond (Nat.beq pc 56) (some (.inl (g_ald 0 57))) none) (cond (Nat.beq pc 57) (some (.inl (g_push 58 59))) none))) (cond (Nat.ble pc 62) (cond (Nat.ble pc 59) (cond (Nat.beq pc 59) (some (.inr (.inl (5, 2, 62)))) none) (cond (Nat.beq pc 62) (some (.inl (g_br1 (fun x => decide (¬ x = 0)) 70 65))) none)) (cond (Nat.ble pc 65) (cond (Nat.beq pc 65) (some (.inl (g_ald 0 66))) none) (cond (Nat.beq pc 66) (some (.inl (g_gfi 0 4 69))) none))))) (cond (Nat.ble pc 76) (cond (Nat.ble pc 71) (cond (Nat.ble pc 69) (cond (Nat.beq pc 69) (some (.inr (.inr 1))) none) (cond (Nat.ble pc 70) (cond (Nat.beq pc 70) (some (.inl (g_ald 0 71))) none) (cond (Nat.beq pc 71) (some (.inl (g_dup 72))) none))) (cond (Nat.ble pc 72) (cond (Nat.beq pc 72) (some (.inl (g_gfi 0 4 75))) none) (cond (Nat.ble pc 75) (cond (Nat.beq pc 75) (some (.inl (g_push 1 76))) none) (cond (Nat.beq pc 76) (some (.inl (g_iop (fun x y => x + y) 77))) none)))) (cond (Nat.ble pc 81) (cond (Nat.ble pc 77) (cond (Nat.beq pc 77) (some (.inl (g_pfi 0 4 80))) none) (cond (Nat.ble pc 80) (cond (Nat.beq pc 80) (some (.inl (g_ald 0 81))) none) (cond (Nat.beq pc 81) (some (.inr (.inl (4, 1, 84)))) none))) (cond (Nat.ble pc 85) (cond (Nat.ble pc 84) (cond (Nat.beq pc 84) (some (.inl (g_ald 0 85))) none) (cond (Nat.beq pc 85) (some (.inl (g_ild 1 86))) none)) (cond (Nat.ble pc 86) (cond (Nat.beq pc 86) (some (.inr (.inl (3, 2, 89)))) none) (cond (Nat.beq pc 89) (some (.inr (.inr 1))) none))))))
def kp_3 (pc : Nat) : Option KOp := cond (Nat.ble pc 54) (cond (Nat.ble pc 28) (cond (Nat.ble pc 11) (cond (Nat.ble pc 5) (cond (Nat.ble pc 1) (cond (Nat.ble pc 0) (cond (Nat.beq pc 0) (some (.inl (g_ald 0 1))) none) (cond (Nat.beq pc 1) (some (.inl (g_gfi 0 4 4))) none)) (cond (Nat.ble pc 4) (cond (Nat.beq pc 4) (some (.inl (g_ist 2 5))) none) (cond (Nat.beq pc 5) (some (.inl (g_push 0 6))) none))) (cond (Nat.ble pc 7) (cond (Nat.ble pc 6) (cond (Nat.beq pc 6) (some (.inl (g_ist 3 7))) none) (cond (Nat.beq pc 7) (some (.inl (g_ald 0 8))) none)) (cond (Nat.ble pc 8) (cond (Nat.beq pc 8) (some (.inl (g_gfi 0 4 11))) none) (cond (Nat.beq pc 11) (some (.inl (g_ald 0 12))) none)))) (cond (Nat.ble pc 19) (cond (Nat.ble pc 15) (cond (Nat.ble pc 12) (cond (Nat.beq pc 12) (some (.inl (g_gfi 0 3 15))) none) (cond (Nat.beq pc 15) (some (.inl (g_br2 (fun x y => decide (y ≤ x)) 48 18))) none)) (cond (Nat.ble pc 18) (cond (Nat.beq pc 18) (some (.inl (g_ald 0 19))) none) (cond (Nat.beq pc 19) (some (.inr (.inl (6, 1, 22)))) none))) (cond (Nat.ble pc 25) (cond (Nat.ble pc 22) (cond (Nat.beq pc 22) (some (.inl (g_br1 (fun x => decide (x = 0)) 48 25))) none) (cond (Nat.beq pc 25) (some (.inl (g_ild 3 26))) none)) (cond (Nat.ble pc 26) (cond (Nat.beq pc 26) (some (.inl (g_push 10 28))) none) (cond (Nat.beq pc 28) (some (.inl (g_iop (fun x y => x * y) 29))) none))))) (cond (Nat.ble pc 40) (cond (Nat.ble pc 34) (cond (Nat.ble pc 30) (cond (Nat.ble pc 29) (cond (Nat.beq pc 29) (some (.inl (g_ald 0 30))) none) (cond (Nat.beq pc 30) (some (.inr (.inl (7, 1, 33)))) none)) (cond (Nat.ble pc 33) (cond (Nat.beq pc 33) (some (.inl (g_iop (fun x y => x + y) 34))) none) (cond (Nat.beq pc 34) (some (.inl (g_ist 3 35))) none))) (cond (Nat.ble pc 36) (cond (Nat.ble pc 35) (cond (Nat.beq pc 35) (some (.inl (g_ald 0 36))) none) (cond (Nat.beq pc 36) (some (.inl (g_dup 37))) none)) (cond (Nat.ble pc 37) (cond (Nat.beq pc 37) (some (.inl (g_gfi 0 4 40))) none) (cond (Nat.beq pc 40) (some (.inl (g_push 1 41))) none)))) (cond (Nat.ble pc 48) (cond (Nat.ble pc 42) (cond (Nat.ble pc 41) (cond (Nat.beq pc 41) (some (.inl (g_iop (fun x y => x + y) 42))) none) (cond (Nat.beq pc 42) (some (.inl (g_pfi 0 4 45))) none)) (cond (Nat.ble pc 45) (cond (Nat.beq pc 45) (some (.inl (g_goto 7))) none) (cond (Nat.beq pc 48) (some (.inl (g_ald 0 49))) none))) (cond (Nat.ble pc 52) (cond (Nat.ble pc 49) (cond (Nat.beq pc 49) (some (.inl (g_gfi 0 4 52))) none) (cond (Nat.beq pc 52) (some (.inl (g_ild 2 53))) none)) (cond (Nat.ble pc 53) (cond (Nat.beq pc 53) (some (.inl (g_iop (fun x y => x - y) 54))) none) (cond (Nat.beq pc 54) (some (.inl (g_ist 4 56))) none)))))) (cond (Nat.ble pc 84) (cond (Nat.ble pc 69) (cond (Nat.ble pc 62) (cond (Nat.ble pc 58) (cond (Nat.ble pc 56) (cond (Nat.beq pc 56) (some (.inl (g_ild 4 58))) none) (cond (Nat.beq pc 58) (some (.inl (g_br1 (fun x => decide (¬ x = 0)) 66 61))) none)) (cond (Nat.ble pc 61) (cond (Nat.beq pc 61) (some (.inl (g_ald 0 62))) none) (cond (Nat.beq pc 62) (some (.inl (g_gfi 0 4 65))) none))) (cond (Nat.ble pc 66) (cond (Nat.ble pc 65) (cond (Nat.beq pc 65) (some (.inr (.inr 1))) none) (cond (Nat.beq pc 66) (some (.inl (g_ild 4 68))) none)) (cond (Nat.ble pc 68) (cond (Nat.beq pc 68) (some (.inl (g_push 1 69))) none) (cond (Nat.beq pc 69) (some (.inl (g_br2 (fun x y => decide (x ≤ y)) 87 72))) none)))) (cond (Nat.ble pc 77) (cond (Nat.ble pc 73) (cond (Nat.ble pc 72) (cond (Nat.beq pc 72) (some (.inl (g_ald 0 73))) none) (cond (Nat.beq pc 73) (some (.inl (g_gfr 0 0 76))) none)) (cond (Nat.ble pc 76) (cond (Nat.beq pc 76) (some (.inl (g_ild 2 77))) none) (cond (Nat.beq pc 77) (some (.inl (g_pald 6 78))) none))) (cond (Nat.ble pc 80) (cond (Nat.ble pc 78) (cond (Nat.beq pc 78) (some (.inl (g_push 48 80))) none) (cond (Nat.beq pc 80) (some (.inl (g_br2 (fun x y => decide (¬ x = y)) 87 83))) none)) (cond (Nat.ble pc 83) (cond (Nat.beq pc 83) (some (.inl (g_push 1 84))) none) (cond (Nat.beq pc 84) (some (.inl (g_goto 88))) none))))) (cond (Nat.ble pc 101) (cond (Nat.ble pc 92) (cond (Nat.ble pc 88) (cond (Nat.ble pc 87) (cond (Nat.beq pc 87) (some (.inl (g_push 0 88))) none) (cond (Nat.beq pc 88) (some (.inl (g_ist 5 90))) none)) (cond (Nat.ble pc 90) (cond (Nat.beq pc 90) (some (.inl (g_ild 5 92))) none) (cond (Nat.beq pc 92) (some (.inl (g_br1 (fun x => decide (¬ x = 0)) 101 95))) none))) (cond (Nat.ble pc 97) (cond (Nat.ble pc 95) (cond (Nat.beq pc 95) (some (.inl (g_ild 4 97))) none) (cond (Nat.beq pc 97) (some (.inl (g_push 4 98))) none)) (cond (Nat.ble pc 98) (cond (Nat.beq pc 98) (some (.inl (g_br2 (fun x y => decide (x ≤ y)) 103 101))) none) (cond (Nat.beq pc 101) (some (.inl (g_ild 2 102))) none)))) (cond (Nat.ble pc 107) (cond (Nat.ble pc 103) (cond (Nat.ble pc 102) (cond (Nat.beq pc 102) (some (.inr (.inr 1))) none) (cond (Nat.beq pc 103) (some (.inl (g_ald 0 104))) none)) (cond (Nat.ble pc 104) (cond (Nat.beq pc 104) (some (.inl (g_gfr 0 1 107))) none) (cond (Nat.beq pc 107) (some (.inl (g_ild 1 108))) none))) (cond (Nat.ble pc 109) (cond (Nat.ble pc 108) (cond (Nat.beq pc 108) (some (.inl (g_ild 3 109))) none) (cond (Nat.beq pc 109) (some (.inl (g_past 5 110))) none)) (cond (Nat.ble pc 110) (cond (Nat.beq pc 110) (some (.inl (g_push (-1) 111))) none) (cond (Nat.beq pc 111) (some (.inr (.inr 1))) none))))))
def kp_4 (pc : Nat) : Option KOp := cond (Nat.ble pc 14) (cond (Nat.ble pc 5) (cond (Nat.ble pc 1) (cond (Nat.ble pc 0) (cond (Nat.beq pc 0) (some (.inl (g_ald 0 1))) none) (cond (Nat.beq pc 1) (some (.inl (g_gfi 0 4 4))) none)) (cond (Nat.ble pc 4) (cond (Nat.beq pc 4) (some (.inl (g_ald 0 5))) none) (cond (Nat.beq pc 5) (some (.inl (g_gfi 0 3 8))) none))) (cond (Nat.ble pc 11) (cond (Nat.ble pc 8) (cond (Nat.beq pc 8) (some (.inl (g_br2 (fun x y => decide (y ≤ x)) 33 11))) none) (cond (Nat.beq pc 11) (some (.inl (g_ald 0 12))) none)) (cond (Nat.ble pc 12) (cond (Nat.beq pc 12) (some (.inl (g_push 32 14))) none) (cond (Nat.beq pc 14) (some (.inr (.inl (5, 2, 17)))) none)))) (cond (Nat.ble pc 22) (cond (Nat.ble pc 20) (cond (Nat.ble pc 17) (cond (Nat.beq pc 17) (some (.inl (g_br1 (fun x => decide (x = 0)) 33 20))) none) (cond (Nat.beq pc 20) (some (.inl (g_ald 0 21))) none)) (cond (Nat.ble pc 21) (cond (Nat.beq pc 21) (some (.inl (g_dup 22))) none) (cond (Nat.beq pc 22) (some (.inl (g_gfi 0 4 25))) none))) (cond (Nat.ble pc 26) (cond (Nat.ble pc 25) (cond (Nat.beq pc 25) (some (.inl (g_push 1 26))) none) (cond (Nat.beq pc 26) (some (.inl (g_iop (fun x y => x + y) 27))) none)) (cond (Nat.ble pc 27) (cond (Nat.beq pc 27) (some (.inl (g_pfi 0 4 30))) none) (cond (Nat.ble pc 30) (cond (Nat.beq pc 30) (some (.inl (g_goto 0))) none) (cond (Nat.beq pc 33) (some (.inr (.inr 0))) none)))))
def kp_5 (pc : Nat) : Option KOp := cond (Nat.ble pc 15) (cond (Nat.ble pc 5) (cond (Nat.ble pc 1) (cond (Nat.ble pc 0) (cond (Nat.beq pc 0) (some (.inl (g_ald 0 1))) none) (cond (Nat.beq pc 1) (some (.inl (g_gfi 0 4 4))) none)) (cond (Nat.ble pc 4) (cond (Nat.beq pc 4) (some (.inl (g_ald 0 5))) none) (cond (Nat.beq pc 5) (some (.inl (g_gfi 0 3 8))) none))) (cond (Nat.ble pc 11) (cond (Nat.ble pc 8) (cond (Nat.beq pc 8) (some (.inl (g_br2 (fun x y => decide (y ≤ x)) 28 11))) none) (cond (Nat.beq pc 11) (some (.inl (g_ald 0 12))) none)) (cond (Nat.ble pc 12) (cond (Nat.beq pc 12) (some (.inl (g_gfr 0 0 15))) none) (cond (Nat.beq pc 15) (some (.inl (g_ald 0 16))) none)))) (cond (Nat.ble pc 21) (cond (Nat.ble pc 19) (cond (Nat.ble pc 16) (cond (Nat.beq pc 16) (some (.inl (g_gfi 0 4 19))) none) (cond (Nat.beq pc 19) (some (.inl (g_pald 6 20))) none)) (cond (Nat.ble pc 20) (cond (Nat.beq pc 20) (some (.inl (g_ild 1 21))) none) (cond (Nat.beq pc 21) (some (.inl (g_br2 (fun x y => decide (¬ x = y)) 28 24))) none))) (cond (Nat.ble pc 25) (cond (Nat.ble pc 24) (cond (Nat.beq pc 24) (some (.inl (g_push 1 25))) none) (cond (Nat.beq pc 25) (some (.inl (g_goto 29))) none)) (cond (Nat.ble pc 28) (cond (Nat.beq pc 28) (some (.inl (g_push 0 29))) none) (cond (Nat.beq pc 29) (some (.inr (.inr 2))) none))))
def kp_6 (pc : Nat) : Option KOp := cond (Nat.ble pc 16) (cond (Nat.ble pc 5) (cond (Nat.ble pc 1) (cond (Nat.ble pc 0) (cond (Nat.beq pc 0) (some (.inl (g_ald 0 1))) none) (cond (Nat.beq pc 1) (some (.inl (g_gfi 0 4 4))) none)) (cond (Nat.ble pc 4) (cond (Nat.beq pc 4) (some (.inl (g_ald 0 5))) none) (cond (Nat.beq pc 5) (some (.inl (g_gfi 0 3 8))) none))) (cond (Nat.ble pc 11) (cond (Nat.ble pc 8) (cond (Nat.beq pc 8) (some (.inl (g_br2 (fun x y => decide (y ≤ x)) 34 11))) none) (cond (Nat.beq pc 11) (some (.inl (g_ald 0 12))) none)) (cond (Nat.ble pc 12) (cond (Nat.beq pc 12) (some (.inl (g_gfr 0 0 15))) none) (cond (Nat.ble pc 15) (cond (Nat.beq pc 15) (some (.inl (g_ald 0 16))) none) (cond (Nat.beq pc 16) (some (.inl (g_gfi 0 4 19))) none))))) (cond (Nat.ble pc 24) (cond (Nat.ble pc 20) (cond (Nat.ble pc 19) (cond (Nat.beq pc 19) (some (.inl (g_pald 6 20))) none) (cond (Nat.beq pc 20) (some (.inl (g_push 48 22))) none)) (cond (Nat.ble pc 22) (cond (Nat.beq pc 22) (some (.inl (g_push 57 24))) none) (cond (Nat.beq pc 24) (some (.inr (.inl (59, 3, 27)))) none))) (cond (Nat.ble pc 30) (cond (Nat.ble pc 27) (cond (Nat.beq pc 27) (some (.inl (g_br1 (fun x => decide (x = 0)) 34 30))) none) (cond (Nat.beq pc 30) (some (.inl (g_push 1 31))) none)) (cond (Nat.ble pc 31) (cond (Nat.beq pc 31) (some (.inl (g_goto 35))) none) (cond (Nat.ble pc 34) (cond (Nat.beq pc 34) (some (.inl (g_push 0 35))) none) (cond (Nat.beq pc 35) (some (.inr (.inr 2))) none)))))
def kp_7 (pc : Nat) : Option KOp := cond (Nat.ble pc 5) (cond (Nat.ble pc 1) (cond (Nat.ble pc 0) (cond (Nat.beq pc 0) (some (.inl (g_ald 0 1))) none) (cond (Nat.beq pc 1) (some (.inl (g_gfr 0 0 4))) none)) (cond (Nat.ble pc 4) (cond (Nat.beq pc 4) (some (.inl (g_ald 0 5))) none) (cond (Nat.beq pc 5) (some (.inl (g_gfi 0 4 8))) none))) (cond (Nat.ble pc 9) (cond (Nat.ble pc 8) (cond (Nat.beq pc 8) (some (.inl (g_pald 6 9))) none) (cond (Nat.beq pc 9) (some (.inl (g_push 48 11))) none)) (cond (Nat.ble pc 11) (cond (Nat.beq pc 11) (some (.inl (g_iop (fun x y => x - y) 12))) none) (cond (Nat.beq pc 12) (some (.inr (.inr 1))) none)))
def kp_8 (pc : Nat) : Option KOp := cond (Nat.ble pc 70) (cond (Nat.ble pc 34) (cond (Nat.ble pc 16) (cond (Nat.ble pc 5) (cond (Nat.ble pc 1) (cond (Nat.ble pc 0) (cond (Nat.beq pc 0) (some (.inl (g_ald 1 1))) none) (cond (Nat.beq pc 1) (some (.inl (g_gfr 1 0 4))) none)) (cond (Nat.ble pc 4) (cond (Nat.beq pc 4) (some (.inl (g_ald 0 5))) none) (cond (Nat.beq pc 5) (some (.inl (g_gfr 1 0 8))) none))) (cond (Nat.ble pc 11) (cond (Nat.ble pc 8) (cond (Nat.beq pc 8) (some (.inr (.inl (64, 2, 11)))) none) (cond (Nat.beq pc 11) (some (.inl (g_ald 1 12))) none)) (cond (Nat.ble pc 12) (cond (Nat.beq pc 12) (some (.inl (g_gfr 1 1 15))) none) (cond (Nat.ble pc 15) (cond (Nat.beq pc 15) (some (.inl (g_ald 0 16))) none) (cond (Nat.beq pc 16) (some (.inl (g_gfr 1 1 19))) none))))) (cond (Nat.ble pc 24) (cond (Nat.ble pc 22) (cond (Nat.ble pc 19) (cond (Nat.beq pc 19) (some (.inr (.inl (64, 2, 22)))) none) (cond (Nat.beq pc 22) (some (.inl (g_push 0 23))) none)) (cond (Nat.ble pc 23) (cond (Nat.beq pc 23) (some (.inl (g_ist 2 24))) none) (cond (Nat.beq pc 24) (some (.inl (g_ild 2 25))) none))) (cond (Nat.ble pc 27) (cond (Nat.ble pc 25) (cond (Nat.beq pc 25) (some (.inl (g_push 6 27))) none) (cond (Nat.beq pc 27) (some (.inl (g_br2 (fun x y => decide (y < x)) 51 30))) none)) (cond (Nat.ble pc 30) (cond (Nat.beq pc 30) (some (.inl (g_ald 0 31))) none) (cond (Nat.ble pc 31) (cond (Nat.beq pc 31) (some (.inl (g_gfr 1 2 34))) none) (cond (Nat.beq pc 34) (some (.inl (g_ild 2 35))) none)))))) (cond (Nat.ble pc 51) (cond (Nat.ble pc 40) (cond (Nat.ble pc 36) (cond (Nat.ble pc 35) (cond (Nat.beq pc 35) (some (.inl (g_aald 9 36))) none) (cond (Nat.beq pc 36) (some (.inl (g_ald 1 37))) none)) (cond (Nat.ble pc 37) (cond (Nat.beq pc 37) (some (.inl (g_gfr 1 2 40))) none) (cond (Nat.beq pc 40) (some (.inl (g_ild 2 41))) none))) (cond (Nat.ble pc 42) (cond (Nat.ble pc 41) (cond (Nat.beq pc 41) (some (.inl (g_aald 9 42))) none) (cond (Nat.beq pc 42) (some (.inr (.inl (22, 2, 45)))) none)) (cond (Nat.ble pc 45) (cond (Nat.beq pc 45) (some (.inl (g_iinc 2 1 48))) none) (cond (Nat.ble pc 48) (cond (Nat.beq pc 48) (some (.inl (g_goto 24))) none) (cond (Nat.beq pc 51) (some (.inl (g_ald 1 52))) none))))) (cond (Nat.ble pc 59) (cond (Nat.ble pc 55) (cond (Nat.ble pc 52) (cond (Nat.beq pc 52) (some (.inl (g_gfr 1 3 55))) none) (cond (Nat.beq pc 55) (some (.inl (g_ald 0 56))) none)) (cond (Nat.ble pc 56) (cond (Nat.beq pc 56) (some (.inl (g_gfr 1 3 59))) none) (cond (Nat.beq pc 59) (some (.inr (.inl (64, 2, 62)))) none))) (cond (Nat.ble pc 63) (cond (Nat.ble pc 62) (cond (Nat.beq pc 62) (some (.inl (g_ald 1 63))) none) (cond (Nat.beq pc 63) (some (.inl (g_gfr 1 4 66))) none)) (cond (Nat.ble pc 66) (cond (Nat.beq pc 66) (some (.inl (g_ald 0 67))) none) (cond (Nat.ble pc 67) (cond (Nat.beq pc 67) (some (.inl (g_gfr 1 4 70))) none) (cond (Nat.beq pc 70) (some (.inr (.inl (64, 2, 73)))) none))))))) (cond (Nat.ble pc 106) (cond (Nat.ble pc 89) (cond (Nat.ble pc 78) (cond (Nat.ble pc 74) (cond (Nat.ble pc 73) (cond (Nat.beq pc 73) (some (.inl (g_ald 0 74))) none) (cond (Nat.beq pc 74) (some (.inl (g_ald 1 75))) none)) (cond (Nat.ble pc 75) (cond (Nat.beq pc 75) (some (.inl (g_gfi 1 5 78))) none) (cond (Nat.beq pc 78) (some (.inl (g_pfi 1 5 81))) none))) (cond (Nat.ble pc 82) (cond (Nat.ble pc 81) (cond (Nat.beq pc 81) (some (.inl (g_ald 0 82))) none) (cond (Nat.beq pc 82) (some (.inl (g_ald 1 83))) none)) (cond (Nat.ble pc 83) (cond (Nat.beq pc 83) (some (.inl (g_gfi 1 6 86))) none) (cond (Nat.ble pc 86) (cond (Nat.beq pc 86) (some (.inl (g_pfi 1 6 89))) none) (cond (Nat.beq pc 89) (some (.inl (g_ald 0 90))) none))))) (cond (Nat.ble pc 97) (cond (Nat.ble pc 91) (cond (Nat.ble pc 90) (cond (Nat.beq pc 90) (some (.inl (g_ald 1 91))) none) (cond (Nat.beq pc 91) (some (.inl (g_gfi 1 7 94))) none)) (cond (Nat.ble pc 94) (cond (Nat.beq pc 94) (some (.inl (g_pfi 1 7 97))) none) (cond (Nat.beq pc 97) (some (.inl (g_ald 0 98))) none))) (cond (Nat.ble pc 99) (cond (Nat.ble pc 98) (cond (Nat.beq pc 98) (some (.inl (g_ald 1 99))) none) (cond (Nat.beq pc 99) (some (.inl (g_gfi 1 8 102))) none)) (cond (Nat.ble pc 102) (cond (Nat.beq pc 102) (some (.inl (g_pfi 1 8 105))) none) (cond (Nat.ble pc 105) (cond (Nat.beq pc 105) (some (.inl (g_ald 0 106))) none) (cond (Nat.beq pc 106) (some (.inl (g_ald 1 107))) none)))))) (cond (Nat.ble pc 123) (cond (Nat.ble pc 114) (cond (Nat.ble pc 110) (cond (Nat.ble pc 107) (cond (Nat.beq pc 107) (some (.inl (g_gfi 1 9 110))) none) (cond (Nat.beq pc 110) (some (.inl (g_pfi 1 9 113))) none)) (cond (Nat.ble pc 113) (cond (Nat.beq pc 113) (some (.inl (g_ald 0 114))) none) (cond (Nat.beq pc 114) (some (.inl (g_ald 1 115))) none))) (cond (Nat.ble pc 118) (cond (Nat.ble pc 115) (cond (Nat.beq pc 115) (some (.inl (g_gfi 1 10 118))) none) (cond (Nat.beq pc 118) (some (.inl (g_pfz 1 10 121))) none)) (cond (Nat.ble pc 121) (cond (Nat.beq pc 121) (some (.inl (g_ald 0 122))) none) (cond (Nat.ble pc 122) (cond (Nat.beq pc 122) (some (.inl (g_ald 1 123))) none) (cond (Nat.beq pc 123) (some (.inl (g_gfi 1 11 126))) none))))) (cond (Nat.ble pc 134) (cond (Nat.ble pc 129) (cond (Nat.ble pc 126) (cond (Nat.beq pc 126) (some (.inl (g_pfi 1 11 129))) none) (cond (Nat.beq pc 129) (some (.inl (g_ald 0 130))) none)) (cond (Nat.ble pc 130) (cond (Nat.beq pc 130) (some (.inl (g_ald 1 131))) none) (cond (Nat.ble pc 131) (cond (Nat.beq pc 131) (some (.inl (g_gfi 1 12 134))) none) (cond (Nat.beq pc 134) (some (.inl (g_pfi 1 12 137))) none)))) (cond (Nat.ble pc 138) (cond (Nat.ble pc 137) (cond (Nat.beq pc 137) (some (.inl (g_ald 0 138))) none) (cond (Nat.beq pc 138) (some (.inl (g_ald 1 139))) none)) (cond (Nat.ble pc 139) (cond (Nat.beq pc 139) (some (.inl (g_gfi 1 13 142))) none) (cond (Nat.ble pc 142) (cond (Nat.beq pc 142) (some (.inl (g_pfi 1 13 145))) none) (cond (Nat.beq pc 145) (some (.inr (.inr 0))) none)))))))
def kp_9 (pc : Nat) : Option KOp := cond (Nat.ble pc 2) (cond (Nat.ble pc 0) (cond (Nat.beq pc 0) (some (.inl (g_ild 1 1))) none) (cond (Nat.ble pc 1) (cond (Nat.beq pc 1) (some (.inl (g_push 0 2))) none) (cond (Nat.beq pc 2) (some (.inl (g_ald 0 3))) none))) (cond (Nat.ble pc 3) (cond (Nat.beq pc 3) (some (.inl (g_gfi 1 5 6))) none) (cond (Nat.ble pc 6) (cond (Nat.beq pc 6) (some (.inr (.inl (59, 3, 9)))) none) (cond (Nat.beq pc 9) (some (.inr (.inr 2))) none)))
def kp_10 (pc : Nat) : Option KOp := cond (Nat.ble pc 3) (cond (Nat.ble pc 1) (cond (Nat.ble pc 0) (cond (Nat.beq pc 0) (some (.inl (g_ild 1 1))) none) (cond (Nat.beq pc 1) (some (.inl (g_push 0 2))) none)) (cond (Nat.ble pc 2) (cond (Nat.beq pc 2) (some (.inl (g_ald 0 3))) none) (cond (Nat.beq pc 3) (some (.inl (g_gfi 1 5 6))) none))) (cond (Nat.ble pc 7) (cond (Nat.ble pc 6) (cond (Nat.beq pc 6) (some (.inl (g_push 1 7))) none) (cond (Nat.beq pc 7) (some (.inl (g_iop (fun x y => x - y) 8))) none)) (cond (Nat.ble pc 8) (cond (Nat.beq pc 8) (some (.inr (.inl (59, 3, 11)))) none) (cond (Nat.beq pc 11) (some (.inr (.inr 2))) none)))
def kp_11 (pc : Nat) : Option KOp := cond (Nat.ble pc 52) (cond (Nat.ble pc 24) (cond (Nat.ble pc 10) (cond (Nat.ble pc 3) (cond (Nat.ble pc 1) (cond (Nat.ble pc 0) (cond (Nat.beq pc 0) (some (.inl (g_push 1 1))) none) (cond (Nat.beq pc 1) (some (.inl (g_ist 2 2))) none)) (cond (Nat.ble pc 2) (cond (Nat.beq pc 2) (some (.inl (g_push 0 3))) none) (cond (Nat.beq pc 3) (some (.inl (g_ist 3 4))) none))) (cond (Nat.ble pc 5) (cond (Nat.ble pc 4) (cond (Nat.beq pc 4) (some (.inl (g_ild 3 5))) none) (cond (Nat.beq pc 5) (some (.inl (g_push 10 7))) none)) (cond (Nat.ble pc 7) (cond (Nat.beq pc 7) (some (.inl (g_br2 (fun x y => decide (y ≤ x)) 116 10))) none) (cond (Nat.beq pc 10) (some (.inl (g_ald 0 11))) none)))) (cond (Nat.ble pc 16) (cond (Nat.ble pc 14) (cond (Nat.ble pc 11) (cond (Nat.beq pc 11) (some (.inl (g_gfr 1 0 14))) none) (cond (Nat.beq pc 14) (some (.inl (g_ild 3 15))) none)) (cond (Nat.ble pc 15) (cond (Nat.beq pc 15) (some (.inl (g_pald 5 16))) none) (cond (Nat.beq pc 16) (some (.inl (g_push 2 17))) none))) (cond (Nat.ble pc 18) (cond (Nat.ble pc 17) (cond (Nat.beq pc 17) (some (.inl (g_idiv (fun x y => x / y) 18))) none) (cond (Nat.beq pc 18) (some (.inl (g_ist 4 20))) none)) (cond (Nat.ble pc 20) (cond (Nat.beq pc 20) (some (.inl (g_ild 4 22))) none) (cond (Nat.ble pc 22) (cond (Nat.beq pc 22) (some (.inl (g_ist 5 24))) none) (cond (Nat.beq pc 24) (some (.inl (g_ald 0 25))) none)))))) (cond (Nat.ble pc 37) (cond (Nat.ble pc 30) (cond (Nat.ble pc 28) (cond (Nat.ble pc 25) (cond (Nat.beq pc 25) (some (.inl (g_gfr 1 0 28))) none) (cond (Nat.beq pc 28) (some (.inl (g_ild 3 29))) none)) (cond (Nat.ble pc 29) (cond (Nat.beq pc 29) (some (.inl (g_pald 5 30))) none) (cond (Nat.beq pc 30) (some (.inl (g_push 2 31))) none))) (cond (Nat.ble pc 32) (cond (Nat.ble pc 31) (cond (Nat.beq pc 31) (some (.inl (g_idiv k_irem 32))) none) (cond (Nat.beq pc 32) (some (.inl (g_br1 (fun x => decide (x = 0)) 73 35))) none)) (cond (Nat.ble pc 35) (cond (Nat.beq pc 35) (some (.inl (g_ild 4 37))) none) (cond (Nat.beq pc 37) (some (.inl (g_ild 2 38))) none)))) (cond (Nat.ble pc 45) (cond (Nat.ble pc 41) (cond (Nat.ble pc 38) (cond (Nat.beq pc 38) (some (.inl (g_br1 (fun x => decide (x = 0)) 45 41))) none) (cond (Nat.beq pc 41) (some (.inl (g_push 1 42))) none)) (cond (Nat.ble pc 42) (cond (Nat.beq pc 42) (some (.inl (g_goto 46))) none) (cond (Nat.beq pc 45) (some (.inl (g_push 0 46))) none))) (cond (Nat.ble pc 47) (cond (Nat.ble pc 46) (cond (Nat.beq pc 46) (some (.inl (g_iop (fun x y => x + y) 47))) none) (cond (Nat.beq pc 47) (some (.inl (g_ist 4 49))) none)) (cond (Nat.ble pc 49) (cond (Nat.beq pc 49) (some (.inl (g_ild 5 51))) none) (cond (Nat.ble pc 51) (cond (Nat.beq pc 51) (some (.inl (g_ild 2 52))) none) (cond (Nat.beq pc 52) (some (.inl (g_br1 (fun x => decide (x = 0)) 59 55))) none))))))) (cond (Nat.ble pc 82) (cond (Nat.ble pc 67) (cond (Nat.ble pc 60) (cond (Nat.ble pc 56) (cond (Nat.ble pc 55) (cond (Nat.beq pc 55) (some (.inl (g_push 0 56))) none) (cond (Nat.beq pc 56) (some (.inl (g_goto 60))) none)) (cond (Nat.ble pc 59) (cond (Nat.beq pc 59) (some (.inl (g_push 1 60))) none) (cond (Nat.beq pc 60) (some (.inl (g_iop (fun x y => x + y) 61))) none))) (cond (Nat.ble pc 63) (cond (Nat.ble pc 61) (cond (Nat.beq pc 61) (some (.inl (g_ist 5 63))) none) (cond (Nat.beq pc 63) (some (.inl (g_ild 2 64))) none)) (cond (Nat.ble pc 64) (cond (Nat.beq pc 64) (some (.inl (g_br1 (fun x => decide (¬ x = 0)) 71 67))) none) (cond (Nat.beq pc 67) (some (.inl (g_push 1 68))) none)))) (cond (Nat.ble pc 73) (cond (Nat.ble pc 71) (cond (Nat.ble pc 68) (cond (Nat.beq pc 68) (some (.inl (g_goto 72))) none) (cond (Nat.beq pc 71) (some (.inl (g_push 0 72))) none)) (cond (Nat.ble pc 72) (cond (Nat.beq pc 72) (some (.inl (g_ist 2 73))) none) (cond (Nat.beq pc 73) (some (.inl (g_ald 0 74))) none))) (cond (Nat.ble pc 77) (cond (Nat.ble pc 74) (cond (Nat.beq pc 74) (some (.inl (g_gfr 1 0 77))) none) (cond (Nat.beq pc 77) (some (.inl (g_ild 3 78))) none)) (cond (Nat.ble pc 78) (cond (Nat.beq pc 78) (some (.inl (g_ild 1 79))) none) (cond (Nat.ble pc 79) (cond (Nat.beq pc 79) (some (.inl (g_br1 (fun x => decide (x = 0)) 87 82))) none) (cond (Nat.beq pc 82) (some (.inl (g_ild 4 84))) none)))))) (cond (Nat.ble pc 97) (cond (Nat.ble pc 90) (cond (Nat.ble pc 87) (cond (Nat.ble pc 84) (cond (Nat.beq pc 84) (some (.inl (g_goto 89))) none) (cond (Nat.beq pc 87) (some (.inl (g_ild 5 89))) none)) (cond (Nat.ble pc 89) (cond (Nat.beq pc 89) (some (.inl (g_past 5 90))) none) (cond (Nat.beq pc 90) (some (.inl (g_ald 0 91))) none))) (cond (Nat.ble pc 94) (cond (Nat.ble pc 91) (cond (Nat.beq pc 91) (some (.inl (g_gfr 1 1 94))) none) (cond (Nat.beq pc 94) (some (.inl (g_ild 3 95))) none)) (cond (Nat.ble pc 95) (cond (Nat.beq pc 95) (some (.inl (g_dup2 96))) none) (cond (Nat.ble pc 96) (cond (Nat.beq pc 96) (some (.inl (g_pald 5 97))) none) (cond (Nat.beq pc 97) (some (.inl (g_ild 1 98))) none))))) (cond (Nat.ble pc 106) (cond (Nat.ble pc 101) (cond (Nat.ble pc 98) (cond (Nat.beq pc 98) (some (.inl (g_br1 (fun x => decide (x = 0)) 106 101))) none) (cond (Nat.beq pc 101) (some (.inl (g_ild 5 103))) none)) (cond (Nat.ble pc 103) (cond (Nat.beq pc 103) (some (.inl (g_goto 108))) none) (cond (Nat.beq pc 106) (some (.inl (g_ild 4 108))) none))) (cond (Nat.ble pc 109) (cond (Nat.ble pc 108) (cond (Nat.beq pc 108) (some (.inl (g_iop (fun x y => x + y) 109))) none) (cond (Nat.beq pc 109) (some (.inl (g_past 5 110))) none)) (cond (Nat.ble pc 110) (cond (Nat.beq pc 110) (some (.inl (g_iinc 3 1 113))) none) (cond (Nat.ble pc 113) (cond (Nat.beq pc 113) (some (.inl (g_goto 4))) none) (cond (Nat.beq pc 116) (some (.inr (.inr 0))) none)))))))
def kp_12 (pc : Nat) : Option KOp := cond (Nat.ble pc 14) (cond (Nat.ble pc 3) (cond (Nat.ble pc 1) (cond (Nat.ble pc 0) (cond (Nat.beq pc 0) (some (.inl (g_push 0 1))) none) (cond (Nat.beq pc 1) (some (.inl (g_ist 2 2))) none)) (cond (Nat.ble pc 2) (cond (Nat.beq pc 2) (some (.inl (g_ild 2 3))) none) (cond (Nat.beq pc 3) (some (.inl (g_ald 0 4))) none))) (cond (Nat.ble pc 7) (cond (Nat.ble pc 4) (cond (Nat.beq pc 4) (some (.inl (g_gfi 1 5 7))) none) (cond (Nat.beq pc 7) (some (.inl (g_br2 (fun x y => decide (y ≤ x)) 31 10))) none)) (cond (Nat.ble pc 10) (cond (Nat.beq pc 10) (some (.inl (g_ald 0 11))) none) (cond (Nat.ble pc 11) (cond (Nat.beq pc 11) (some (.inl (g_gfr 1 2 14))) none) (cond (Nat.beq pc 14) (some (.inl (g_ild 2 15))) none))))) (cond (Nat.ble pc 23) (cond (Nat.ble pc 16) (cond (Nat.ble pc 15) (cond (Nat.beq pc 15) (some (.inl (g_aald 9 16))) none) (cond (Nat.beq pc 16) (some (.inl (g_gfi 2 1 19))) none)) (cond (Nat.ble pc 19) (cond (Nat.beq pc 19) (some (.inl (g_ild 1 20))) none) (cond (Nat.ble pc 20) (cond (Nat.beq pc 20) (some (.inl (g_br2 (fun x y => decide (¬ x = y)) 25 23))) none) (cond (Nat.beq pc 23) (some (.inl (g_ild 2 24))) none)))) (cond (Nat.ble pc 25) (cond (Nat.ble pc 24) (cond (Nat.beq pc 24) (some (.inr (.inr 1))) none) (cond (Nat.beq pc 25) (some (.inl (g_iinc 2 1 28))) none)) (cond (Nat.ble pc 28) (cond (Nat.beq pc 28) (some (.inl (g_goto 2))) none) (cond (Nat.ble pc 31) (cond (Nat.beq pc 31) (some (.inl (g_push (-9) 33))) none) (cond (Nat.beq pc 33) (some (.inr (.inr 1))) none)))))
def kp_13 (pc : Nat) : Option KOp := cond (Nat.ble pc 34) (cond (Nat.ble pc 15) (cond (Nat.ble pc 6) (cond (Nat.ble pc 1) (cond (Nat.ble pc 0) (cond (Nat.beq pc 0) (some (.inl (g_ald 0 1))) none) (cond (Nat.beq pc 1) (some (.inl (g_gfi 1 5 4))) none)) (cond (Nat.ble pc 4) (cond (Nat.beq pc 4) (some (.inl (g_ist 2 5))) none) (cond (Nat.ble pc 5) (cond (Nat.beq pc 5) (some (.inl (g_ild 2 6))) none) (cond (Nat.beq pc 6) (some (.inl (g_br1 (fun x => decide (x ≤ 0)) 50 9))) none)))) (cond (Nat.ble pc 10) (cond (Nat.ble pc 9) (cond (Nat.beq pc 9) (some (.inl (g_ald 0 10))) none) (cond (Nat.beq pc 10) (some (.inl (g_gfr 1 2 13))) none)) (cond (Nat.ble pc 13) (cond (Nat.beq pc 13) (some (.inl (g_ild 2 14))) none) (cond (Nat.ble pc 14) (cond (Nat.beq pc 14) (some (.inl (g_push 1 15))) none) (cond (Nat.beq pc 15) (some (.inl (g_iop (fun x y => x - y) 16))) none))))) (cond (Nat.ble pc 24) (cond (Nat.ble pc 17) (cond (Nat.ble pc 16) (cond (Nat.beq pc 16) (some (.inl (g_aald 9 17))) none) (cond (Nat.beq pc 17) (some (.inl (g_gfi 2 1 20))) none)) (cond (Nat.ble pc 20) (cond (Nat.beq pc 20) (some (.inl (g_ild 1 21))) none) (cond (Nat.ble pc 21) (cond (Nat.beq pc 21) (some (.inl (g_br2 (fun x y => decide (y ≤ x)) 50 24))) none) (cond (Nat.beq pc 24) (some (.inl (g_ald 0 25))) none)))) (cond (Nat.ble pc 29) (cond (Nat.ble pc 25) (cond (Nat.beq pc 25) (some (.inl (g_gfr 1 2 28))) none) (cond (Nat.ble pc 28) (cond (Nat.beq pc 28) (some (.inl (g_ild 2 29))) none) (cond (Nat.beq pc 29) (some (.inl (g_aald 9 30))) none))) (cond (Nat.ble pc 30) (cond (Nat.beq pc 30) (some (.inl (g_ald 0 31))) none) (cond (Nat.ble pc 31) (cond (Nat.beq pc 31) (some (.inl (g_gfr 1 2 34))) none) (cond (Nat.beq pc 34) (some (.inl (g_ild 2 35))) none)))))) (cond (Nat.ble pc 54) (cond (Nat.ble pc 41) (cond (Nat.ble pc 36) (cond (Nat.ble pc 35) (cond (Nat.beq pc 35) (some (.inl (g_push 1 36))) none) (cond (Nat.beq pc 36) (some (.inl (g_iop (fun x y => x - y) 37))) none)) (cond (Nat.ble pc 37) (cond (Nat.beq pc 37) (some (.inl (g_aald 9 38))) none) (cond (Nat.ble pc 38) (cond (Nat.beq pc 38) (some (.inl (g_gfi 2 1 41))) none) (cond (Nat.beq pc 41) (some (.inl (g_pfi 2 1 44))) none)))) (cond (Nat.ble pc 47) (cond (Nat.ble pc 44) (cond (Nat.beq pc 44) (some (.inl (g_iinc 2 (-1) 47))) none) (cond (Nat.beq pc 47) (some (.inl (g_goto 5))) none)) (cond (Nat.ble pc 50) (cond (Nat.beq pc 50) (some (.inl (g_ald 0 51))) none) (cond (Nat.ble pc 51) (cond (Nat.beq pc 51) (some (.inl (g_gfr 1 2 54))) none) (cond (Nat.beq pc 54) (some (.inl (g_ild 2 55))) none))))) (cond (Nat.ble pc 61) (cond (Nat.ble pc 56) (cond (Nat.ble pc 55) (cond (Nat.beq pc 55) (some (.inl (g_aald 9 56))) none) (cond (Nat.beq pc 56) (some (.inl (g_ild 1 57))) none)) (cond (Nat.ble pc 57) (cond (Nat.beq pc 57) (some (.inl (g_pfi 2 1 60))) none) (cond (Nat.ble pc 60) (cond (Nat.beq pc 60) (some (.inl (g_ald 0 61))) none) (cond (Nat.beq pc 61) (some (.inl (g_dup 62))) none)))) (cond (Nat.ble pc 66) (cond (Nat.ble pc 62) (cond (Nat.beq pc 62) (some (.inl (g_gfi 1 5 65))) none) (cond (Nat.ble pc 65) (cond (Nat.beq pc 65) (some (.inl (g_push 1 66))) none) (cond (Nat.beq pc 66) (some (.inl (g_iop (fun x y => x + y) 67))) none))) (cond (Nat.ble pc 67) (cond (Nat.beq pc 67) (some (.inl (g_pfi 1 5 70))) none) (cond (Nat.ble pc 70) (cond (Nat.beq pc 70) (some (.inl (g_ild 2 71))) none) (cond (Nat.beq pc 71) (some (.inr (.inr 1))) none))))))
def kp_14 (pc : Nat) : Option KOp := cond (Nat.ble pc 20) (cond (Nat.ble pc 7) (cond (Nat.ble pc 2) (cond (Nat.ble pc 0) (cond (Nat.beq pc 0) (some (.inl (g_ild 1 1))) none) (cond (Nat.ble pc 1) (cond (Nat.beq pc 1) (some (.inl (g_ist 2 2))) none) (cond (Nat.beq pc 2) (some (.inl (g_ild 2 3))) none))) (cond (Nat.ble pc 3) (cond (Nat.beq pc 3) (some (.inl (g_ald 0 4))) none) (cond (Nat.ble pc 4) (cond (Nat.beq pc 4) (some (.inl (g_gfi 1 5 7))) none) (cond (Nat.beq pc 7) (some (.inl (g_br2 (fun x y => decide (y ≤ x)) 36 10))) none)))) (cond (Nat.ble pc 14) (cond (Nat.ble pc 10) (cond (Nat.beq pc 10) (some (.inl (g_ald 0 11))) none) (cond (Nat.ble pc 11) (cond (Nat.beq pc 11) (some (.inl (g_gfr 1 2 14))) none) (cond (Nat.beq pc 14) (some (.inl (g_ild 2 15))) none))) (cond (Nat.ble pc 16) (cond (Nat.ble pc 15) (cond (Nat.beq pc 15) (some (.inl (g_aald 9 16))) none) (cond (Nat.beq pc 16) (some (.inl (g_ald 0 17))) none)) (cond (Nat.ble pc 17) (cond (Nat.beq pc 17) (some (.inl (g_gfr 1 2 20))) none) (cond (Nat.beq pc 20) (some (.inl (g_ild 2 21))) none))))) (cond (Nat.ble pc 33) (cond (Nat.ble pc 23) (cond (Nat.ble pc 21) (cond (Nat.beq pc 21) (some (.inl (g_push 1 22))) none) (cond (Nat.ble pc 22) (cond (Nat.beq pc 22) (some (.inl (g_iop (fun x y => x + y) 23))) none) (cond (Nat.beq pc 23) (some (.inl (g_aald 9 24))) none))) (cond (Nat.ble pc 27) (cond (Nat.ble pc 24) (cond (Nat.beq pc 24) (some (.inl (g_gfi 2 1 27))) none) (cond (Nat.beq pc 27) (some (.inl (g_pfi 2 1 30))) none)) (cond (Nat.ble pc 30) (cond (Nat.beq pc 30) (some (.inl (g_iinc 2 1 33))) none) (cond (Nat.beq pc 33) (some (.inl (g_goto 2))) none)))) (cond (Nat.ble pc 38) (cond (Nat.ble pc 36) (cond (Nat.beq pc 36) (some (.inl (g_ald 0 37))) none) (cond (Nat.ble pc 37) (cond (Nat.beq pc 37) (some (.inl (g_dup 38))) none) (cond (Nat.beq pc 38) (some (.inl (g_gfi 1 5 41))) none))) (cond (Nat.ble pc 42) (cond (Nat.ble pc 41) (cond (Nat.beq pc 41) (some (.inl (g_push 1 42))) none) (cond (Nat.beq pc 42) (some (.inl (g_iop (fun x y => x - y) 43))) none)) (cond (Nat.ble pc 43) (cond (Nat.beq pc 43) (some (.inl (g_pfi 1 5 46))) none) (cond (Nat.beq pc 46) (some (.inr (.inr 0))) none)))))
def kp_15 (pc : Nat) : Option KOp := cond (Nat.ble pc 20) (cond (Nat.ble pc 8) (cond (Nat.ble pc 2) (cond (Nat.ble pc 0) (cond (Nat.beq pc 0) (some (.inl (g_push 0 1))) none) (cond (Nat.ble pc 1) (cond (Nat.beq pc 1) (some (.inl (g_ist 1 2))) none) (cond (Nat.beq pc 2) (some (.inl (g_ild 1 3))) none))) (cond (Nat.ble pc 3) (cond (Nat.beq pc 3) (some (.inl (g_push 6 5))) none) (cond (Nat.ble pc 5) (cond (Nat.beq pc 5) (some (.inl (g_br2 (fun x y => decide (y < x)) 23 8))) none) (cond (Nat.beq pc 8) (some (.inl (g_ald 0 9))) none)))) (cond (Nat.ble pc 13) (cond (Nat.ble pc 9) (cond (Nat.beq pc 9) (some (.inl (g_gfr 1 2 12))) none) (cond (Nat.ble pc 12) (cond (Nat.beq pc 12) (some (.inl (g_ild 1 13))) none) (cond (Nat.beq pc 13) (some (.inl (g_aald 9 14))) none))) (cond (Nat.ble pc 14) (cond (Nat.beq pc 14) (some (.inr (.inl (23, 1, 17)))) none) (cond (Nat.ble pc 17) (cond (Nat.beq pc 17) (some (.inl (g_iinc 1 1 20))) none) (cond (Nat.beq pc 20) (some (.inl (g_goto 2))) none))))) (cond (Nat.ble pc 30) (cond (Nat.ble pc 25) (cond (Nat.ble pc 23) (cond (Nat.beq pc 23) (some (.inl (g_ald 0 24))) none) (cond (Nat.ble pc 24) (cond (Nat.beq pc 24) (some (.inl (g_push 0 25))) none) (cond (Nat.beq pc 25) (some (.inl (g_pfz 1 10 28))) none))) (cond (Nat.ble pc 28) (cond (Nat.beq pc 28) (some (.inl (g_ald 0 29))) none) (cond (Nat.ble pc 29) (cond (Nat.beq pc 29) (some (.inl (g_push 0 30))) none) (cond (Nat.beq pc 30) (some (.inl (g_pfi 1 11 33))) none)))) (cond (Nat.ble pc 35) (cond (Nat.ble pc 33) (cond (Nat.beq pc 33) (some (.inl (g_ald 0 34))) none) (cond (Nat.ble pc 34) (cond (Nat.beq pc 34) (some (.inl (g_push 0 35))) none) (cond (Nat.beq pc 35) (some (.inl (g_pfi 1 12 38))) none))) (cond (Nat.ble pc 39) (cond (Nat.ble pc 38) (cond (Nat.beq pc 38) (some (.inl (g_ald 0 39))) none) (cond (Nat.beq pc 39) (some (.inl (g_push 0 40))) none)) (cond (Nat.ble pc 40) (cond (Nat.beq pc 40) (some (.inl (g_pfi 1 13 43))) none) (cond (Nat.beq pc 43) (some (.inr (.inr 0))) none)))))
def kp_16 (pc : Nat) : Option KOp := cond (Nat.ble pc 16) (cond (Nat.ble pc 5) (cond (Nat.ble pc 1) (cond (Nat.ble pc 0) (cond (Nat.beq pc 0) (some (.inl (g_ald 0 1))) none) (cond (Nat.beq pc 1) (some (.inl (g_gfr 1 0 4))) none)) (cond (Nat.ble pc 4) (cond (Nat.beq pc 4) (some (.inl (g_ald 0 5))) none) (cond (Nat.beq pc 5) (some (.inl (g_gfr 1 2 8))) none))) (cond (Nat.ble pc 9) (cond (Nat.ble pc 8) (cond (Nat.beq pc 8) (some (.inl (g_push 0 9))) none) (cond (Nat.beq pc 9) (some (.inl (g_aald 9 10))) none)) (cond (Nat.ble pc 10) (cond (Nat.beq pc 10) (some (.inl (g_gfr 2 0 13))) none) (cond (Nat.ble pc 13) (cond (Nat.beq pc 13) (some (.inr (.inl (64, 2, 16)))) none) (cond (Nat.beq pc 16) (some (.inl (g_ald 0 17))) none))))) (cond (Nat.ble pc 24) (cond (Nat.ble pc 20) (cond (Nat.ble pc 17) (cond (Nat.beq pc 17) (some (.inl (g_gfr 1 0 20))) none) (cond (Nat.beq pc 20) (some (.inr (.inl (63, 1, 23)))) none)) (cond (Nat.ble pc 23) (cond (Nat.beq pc 23) (some (.inl (g_ald 0 24))) none) (cond (Nat.beq pc 24) (some (.inl (g_push 1 25))) none))) (cond (Nat.ble pc 28) (cond (Nat.ble pc 25) (cond (Nat.beq pc 25) (some (.inl (g_pfz 1 10 28))) none) (cond (Nat.beq pc 28) (some (.inl (g_ald 0 29))) none)) (cond (Nat.ble pc 29) (cond (Nat.beq pc 29) (some (.inl (g_ild 1 30))) none) (cond (Nat.ble pc 30) (cond (Nat.beq pc 30) (some (.inl (g_pfi 1 11 33))) none) (cond (Nat.beq pc 33) (some (.inr (.inr 0))) none)))))
def kp_17 (pc : Nat) : Option KOp := cond (Nat.ble pc 52) (cond (Nat.ble pc 25) (cond (Nat.ble pc 11) (cond (Nat.ble pc 5) (cond (Nat.ble pc 1) (cond (Nat.ble pc 0) (cond (Nat.beq pc 0) (some (.inl (g_ald 0 1))) none) (cond (Nat.beq pc 1) (some (.inl (g_push 0 2))) none)) (cond (Nat.ble pc 2) (cond (Nat.beq pc 2) (some (.inl (g_pfi 1 13 5))) none) (cond (Nat.beq pc 5) (some (.inl (g_ald 0 6))) none))) (cond (Nat.ble pc 9) (cond (Nat.ble pc 6) (cond (Nat.beq pc 6) (some (.inl (g_gfi 1 5 9))) none) (cond (Nat.beq pc 9) (some (.inl (g_push 1 10))) none)) (cond (Nat.ble pc 10) (cond (Nat.beq pc 10) (some (.inl (g_iop (fun x y => x - y) 11))) none) (cond (Nat.beq pc 11) (some (.inl (g_ist 1 12))) none)))) (cond (Nat.ble pc 17) (cond (Nat.ble pc 13) (cond (Nat.ble pc 12) (cond (Nat.beq pc 12) (some (.inl (g_ild 1 13))) none) (cond (Nat.beq pc 13) (some (.inl (g_br1 (fun x => decide (x < 0)) 65 16))) none)) (cond (Nat.ble pc 16) (cond (Nat.beq pc 16) (some (.inl (g_ald 0 17))) none) (cond (Nat.beq pc 17) (some (.inl (g_dup 18))) none))) (cond (Nat.ble pc 21) (cond (Nat.ble pc 18) (cond (Nat.beq pc 18) (some (.inl (g_gfi 1 13 21))) none) (cond (Nat.beq pc 21) (some (.inl (g_ald 0 22))) none)) (cond (Nat.ble pc 22) (cond (Nat.beq pc 22) (some (.inl (g_gfr 1 2 25))) none) (cond (Nat.beq pc 25) (some (.inl (g_ild 1 26))) none))))) (cond (Nat.ble pc 35) (cond (Nat.ble pc 31) (cond (Nat.ble pc 27) (cond (Nat.ble pc 26) (cond (Nat.beq pc 26) (some (.inl (g_aald 9 27))) none) (cond (Nat.beq pc 27) (some (.inl (g_ald 0 28))) none)) (cond (Nat.ble pc 28) (cond (Nat.beq pc 28) (some (.inl (g_gfr 1 2 31))) none) (cond (Nat.beq pc 31) (some (.inl (g_ild 1 32))) none))) (cond (Nat.ble pc 33) (cond (Nat.ble pc 32) (cond (Nat.beq pc 32) (some (.inl (g_push 1 33))) none) (cond (Nat.beq pc 33) (some (.inl (g_iop (fun x y => x + y) 34))) none)) (cond (Nat.ble pc 34) (cond (Nat.beq pc 34) (some (.inl (g_aald 9 35))) none) (cond (Nat.beq pc 35) (some (.inl (g_ald 0 36))) none)))) (cond (Nat.ble pc 43) (cond (Nat.ble pc 39) (cond (Nat.ble pc 36) (cond (Nat.beq pc 36) (some (.inl (g_gfi 1 6 39))) none) (cond (Nat.beq pc 39) (some (.inr (.inl (25, 3, 42)))) none)) (cond (Nat.ble pc 42) (cond (Nat.beq pc 42) (some (.inl (g_iop (fun x y => x + y) 43))) none) (cond (Nat.beq pc 43) (some (.inl (g_pfi 1 13 46))) none))) (cond (Nat.ble pc 47) (cond (Nat.ble pc 46) (cond (Nat.beq pc 46) (some (.inl (g_ald 0 47))) none) (cond (Nat.beq pc 47) (some (.inl (g_gfr 1 2 50))) none)) (cond (Nat.ble pc 50) (cond (Nat.beq pc 50) (some (.inl (g_ild 1 51))) none) (cond (Nat.ble pc 51) (cond (Nat.beq pc 51) (some (.inl (g_aald 9 52))) none) (cond (Nat.beq pc 52) (some (.inl (g_ald 0 53))) none))))))) (cond (Nat.ble pc 83) (cond (Nat.ble pc 70) (cond (Nat.ble pc 62) (cond (Nat.ble pc 56) (cond (Nat.ble pc 53) (cond (Nat.beq pc 53) (some (.inl (g_gfi 1 7 56))) none) (cond (Nat.beq pc 56) (some (.inr (.inl (26, 2, 59)))) none)) (cond (Nat.ble pc 59) (cond (Nat.beq pc 59) (some (.inl (g_iinc 1 (-1) 62))) none) (cond (Nat.beq pc 62) (some (.inl (g_goto 12))) none))) (cond (Nat.ble pc 66) (cond (Nat.ble pc 65) (cond (Nat.beq pc 65) (some (.inl (g_ald 0 66))) none) (cond (Nat.beq pc 66) (some (.inl (g_gfr 1 2 69))) none)) (cond (Nat.ble pc 69) (cond (Nat.beq pc 69) (some (.inl (g_ald 0 70))) none) (cond (Nat.beq pc 70) (some (.inl (g_gfi 1 5 73))) none)))) (cond (Nat.ble pc 78) (cond (Nat.ble pc 74) (cond (Nat.ble pc 73) (cond (Nat.beq pc 73) (some (.inl (g_aald 9 74))) none) (cond (Nat.beq pc 74) (some (.inl (g_gfr 2 0 77))) none)) (cond (Nat.ble pc 77) (cond (Nat.beq pc 77) (some (.inl (g_ast 1 78))) none) (cond (Nat.beq pc 78) (some (.inl (g_ald 1 79))) none))) (cond (Nat.ble pc 80) (cond (Nat.ble pc 79) (cond (Nat.beq pc 79) (some (.inl (g_push 0 80))) none) (cond (Nat.beq pc 80) (some (.inl (g_dup2 81))) none)) (cond (Nat.ble pc 81) (cond (Nat.beq pc 81) (some (.inl (g_pald 5 82))) none) (cond (Nat.ble pc 82) (cond (Nat.beq pc 82) (some (.inl (g_ald 1 83))) none) (cond (Nat.beq pc 83) (some (.inl (g_push 0 84))) none)))))) (cond (Nat.ble pc 95) (cond (Nat.ble pc 89) (cond (Nat.ble pc 85) (cond (Nat.ble pc 84) (cond (Nat.beq pc 84) (some (.inl (g_pald 5 85))) none) (cond (Nat.beq pc 85) (some (.inl (g_ald 0 86))) none)) (cond (Nat.ble pc 86) (cond (Nat.beq pc 86) (some (.inl (g_gfi 1 8 89))) none) (cond (Nat.beq pc 89) (some (.inl (g_iop (fun x y => x * y) 90))) none))) (cond (Nat.ble pc 93) (cond (Nat.ble pc 90) (cond (Nat.beq pc 90) (some (.inl (g_push 1000 93))) none) (cond (Nat.beq pc 93) (some (.inl (g_idiv (fun x y => x / y) 94))) none)) (cond (Nat.ble pc 94) (cond (Nat.beq pc 94) (some (.inl (g_iop (fun x y => x - y) 95))) none) (cond (Nat.beq pc 95) (some (.inl (g_past 5 96))) none)))) (cond (Nat.ble pc 101) (cond (Nat.ble pc 97) (cond (Nat.ble pc 96) (cond (Nat.beq pc 96) (some (.inl (g_ald 0 97))) none) (cond (Nat.beq pc 97) (some (.inl (g_dup 98))) none)) (cond (Nat.ble pc 98) (cond (Nat.beq pc 98) (some (.inl (g_gfi 1 12 101))) none) (cond (Nat.beq pc 101) (some (.inl (g_push 1 102))) none))) (cond (Nat.ble pc 103) (cond (Nat.ble pc 102) (cond (Nat.beq pc 102) (some (.inl (g_iop (fun x y => x + y) 103))) none) (cond (Nat.beq pc 103) (some (.inl (g_pfi 1 12 106))) none)) (cond (Nat.ble pc 106) (cond (Nat.beq pc 106) (some (.inl (g_ald 0 107))) none) (cond (Nat.ble pc 107) (cond (Nat.beq pc 107) (some (.inl (g_gfi 1 13 110))) none) (cond (Nat.beq pc 110) (some (.inr (.inr 1))) none)))))))
def kp_18 (pc : Nat) : Option KOp := cond (Nat.ble pc 21) (cond (Nat.ble pc 9) (cond (Nat.ble pc 3) (cond (Nat.ble pc 1) (cond (Nat.ble pc 0) (cond (Nat.beq pc 0) (some (.inl (g_push 0 1))) none) (cond (Nat.beq pc 1) (some (.inl (g_ist 1 2))) none)) (cond (Nat.ble pc 2) (cond (Nat.beq pc 2) (some (.inl (g_push 0 3))) none) (cond (Nat.beq pc 3) (some (.inl (g_ist 2 4))) none))) (cond (Nat.ble pc 5) (cond (Nat.ble pc 4) (cond (Nat.beq pc 4) (some (.inl (g_ild 2 5))) none) (cond (Nat.beq pc 5) (some (.inl (g_ald 0 6))) none)) (cond (Nat.ble pc 6) (cond (Nat.beq pc 6) (some (.inl (g_gfi 1 5 9))) none) (cond (Nat.beq pc 9) (some (.inl (g_br2 (fun x y => decide (y < x)) 45 12))) none)))) (cond (Nat.ble pc 17) (cond (Nat.ble pc 13) (cond (Nat.ble pc 12) (cond (Nat.beq pc 12) (some (.inl (g_ald 0 13))) none) (cond (Nat.beq pc 13) (some (.inl (g_gfr 1 2 16))) none)) (cond (Nat.ble pc 16) (cond (Nat.beq pc 16) (some (.inl (g_ild 2 17))) none) (cond (Nat.beq pc 17) (some (.inl (g_aald 9 18))) none))) (cond (Nat.ble pc 19) (cond (Nat.ble pc 18) (cond (Nat.beq pc 18) (some (.inl (g_ast 3 19))) none) (cond (Nat.beq pc 19) (some (.inl (g_ild 1 20))) none)) (cond (Nat.ble pc 20) (cond (Nat.beq pc 20) (some (.inl (g_ald 3 21))) none) (cond (Nat.beq pc 21) (some (.inl (g_gfr 2 0 24))) none))))) (cond (Nat.ble pc 37) (cond (Nat.ble pc 31) (cond (Nat.ble pc 27) (cond (Nat.ble pc 24) (cond (Nat.beq pc 24) (some (.inr (.inl (62, 1, 27)))) none) (cond (Nat.beq pc 27) (some (.inl (g_ald 3 28))) none)) (cond (Nat.ble pc 28) (cond (Nat.beq pc 28) (some (.inl (g_gfi 2 2 31))) none) (cond (Nat.beq pc 31) (some (.inl (g_iop (fun x y => x + y) 32))) none))) (cond (Nat.ble pc 33) (cond (Nat.ble pc 32) (cond (Nat.beq pc 32) (some (.inl (g_ald 3 33))) none) (cond (Nat.beq pc 33) (some (.inl (g_gfi 2 3 36))) none)) (cond (Nat.ble pc 36) (cond (Nat.beq pc 36) (some (.inl (g_iop (fun x y => x + y) 37))) none) (cond (Nat.beq pc 37) (some (.inl (g_iop (fun x y => x + y) 38))) none)))) (cond (Nat.ble pc 45) (cond (Nat.ble pc 39) (cond (Nat.ble pc 38) (cond (Nat.beq pc 38) (some (.inl (g_ist 1 39))) none) (cond (Nat.beq pc 39) (some (.inl (g_iinc 2 1 42))) none)) (cond (Nat.ble pc 42) (cond (Nat.beq pc 42) (some (.inl (g_goto 4))) none) (cond (Nat.beq pc 45) (some (.inl (g_ald 0 46))) none))) (cond (Nat.ble pc 49) (cond (Nat.ble pc 46) (cond (Nat.beq pc 46) (some (.inl (g_gfi 1 11 49))) none) (cond (Nat.beq pc 49) (some (.inl (g_ild 1 50))) none)) (cond (Nat.ble pc 50) (cond (Nat.beq pc 50) (some (.inl (g_iop (fun x y => x - y) 51))) none) (cond (Nat.beq pc 51) (some (.inr (.inr 1))) none)))))
def kp_19 (pc : Nat) : Option KOp := cond (Nat.ble pc 8) (cond (Nat.ble pc 1) (cond (Nat.ble pc 0) (cond (Nat.beq pc 0) (some (.inl (g_ald 0 1))) none) (cond (Nat.beq pc 1) (some (.inl (g_gfi 1 10 4))) none)) (cond (Nat.ble pc 4) (cond (Nat.beq pc 4) (some (.inl (g_br1 (fun x => decide (x = 0)) 19 7))) none) (cond (Nat.ble pc 7) (cond (Nat.beq pc 7) (some (.inl (g_ald 0 8))) none) (cond (Nat.beq pc 8) (some (.inl (g_push 0 9))) none)))) (cond (Nat.ble pc 15) (cond (Nat.ble pc 9) (cond (Nat.beq pc 9) (some (.inr (.inl (21, 2, 12)))) none) (cond (Nat.ble pc 12) (cond (Nat.beq pc 12) (some (.inl (g_br1 (fun x => decide (x = 0)) 19 15))) none) (cond (Nat.beq pc 15) (some (.inl (g_push 1 16))) none))) (cond (Nat.ble pc 16) (cond (Nat.beq pc 16) (some (.inl (g_goto 20))) none) (cond (Nat.ble pc 19) (cond (Nat.beq pc 19) (some (.inl (g_push 0 20))) none) (cond (Nat.beq pc 20) (some (.inr (.inr 2))) none))))
def kp_20 (pc : Nat) : Option KOp := cond (Nat.ble pc 4) (cond (Nat.ble pc 1) (cond (Nat.ble pc 0) (cond (Nat.beq pc 0) (some (.inl (g_ald 0 1))) none) (cond (Nat.beq pc 1) (some (.inl (g_ild 1 2))) none)) (cond (Nat.ble pc 2) (cond (Nat.beq pc 2) (some (.inl (g_push 1 3))) none) (cond (Nat.ble pc 3) (cond (Nat.beq pc 3) (some (.inl (g_iop (fun x y => x + y) 4))) none) (cond (Nat.beq pc 4) (some (.inr (.inl (21, 2, 7)))) none)))) (cond (Nat.ble pc 8) (cond (Nat.ble pc 7) (cond (Nat.beq pc 7) (some (.inl (g_ald 0 8))) none) (cond (Nat.beq pc 8) (some (.inl (g_push 0 9))) none)) (cond (Nat.ble pc 9) (cond (Nat.beq pc 9) (some (.inr (.inl (21, 2, 12)))) none) (cond (Nat.ble pc 12) (cond (Nat.beq pc 12) (some (.inr (.inl (65, 2, 15)))) none) (cond (Nat.beq pc 15) (some (.inr (.inr 1))) none))))
def kp_21 (pc : Nat) : Option KOp := cond (Nat.ble pc 13) (cond (Nat.ble pc 4) (cond (Nat.ble pc 1) (cond (Nat.ble pc 0) (cond (Nat.beq pc 0) (some (.inl (g_push 0 1))) none) (cond (Nat.beq pc 1) (some (.inl (g_ist 2 2))) none)) (cond (Nat.ble pc 2) (cond (Nat.beq pc 2) (some (.inl (g_ild 1 3))) none) (cond (Nat.ble pc 3) (cond (Nat.beq pc 3) (some (.inl (g_ist 3 4))) none) (cond (Nat.beq pc 4) (some (.inl (g_ild 3 5))) none)))) (cond (Nat.ble pc 6) (cond (Nat.ble pc 5) (cond (Nat.beq pc 5) (some (.inl (g_ald 0 6))) none) (cond (Nat.beq pc 6) (some (.inl (g_gfi 1 5 9))) none)) (cond (Nat.ble pc 9) (cond (Nat.beq pc 9) (some (.inl (g_br2 (fun x y => decide (y < x)) 30 12))) none) (cond (Nat.ble pc 12) (cond (Nat.beq pc 12) (some (.inl (g_ild 2 13))) none) (cond (Nat.beq pc 13) (some (.inl (g_ald 0 14))) none))))) (cond (Nat.ble pc 22) (cond (Nat.ble pc 17) (cond (Nat.ble pc 14) (cond (Nat.beq pc 14) (some (.inl (g_gfr 1 2 17))) none) (cond (Nat.beq pc 17) (some (.inl (g_ild 3 18))) none)) (cond (Nat.ble pc 18) (cond (Nat.beq pc 18) (some (.inl (g_aald 9 19))) none) (cond (Nat.ble pc 19) (cond (Nat.beq pc 19) (some (.inl (g_gfi 2 3 22))) none) (cond (Nat.beq pc 22) (some (.inl (g_iop (fun x y => x + y) 23))) none)))) (cond (Nat.ble pc 24) (cond (Nat.ble pc 23) (cond (Nat.beq pc 23) (some (.inl (g_ist 2 24))) none) (cond (Nat.beq pc 24) (some (.inl (g_iinc 3 1 27))) none)) (cond (Nat.ble pc 27) (cond (Nat.beq pc 27) (some (.inl (g_goto 4))) none) (cond (Nat.ble pc 30) (cond (Nat.beq pc 30) (some (.inl (g_ild 2 31))) none) (cond (Nat.beq pc 31) (some (.inr (.inr 1))) none)))))
def kp_22 (pc : Nat) : Option KOp := cond (Nat.ble pc 16) (cond (Nat.ble pc 5) (cond (Nat.ble pc 1) (cond (Nat.ble pc 0) (cond (Nat.beq pc 0) (some (.inl (g_ald 1 1))) none) (cond (Nat.beq pc 1) (some (.inl (g_gfr 2 0 4))) none)) (cond (Nat.ble pc 4) (cond (Nat.beq pc 4) (some (.inl (g_ald 0 5))) none) (cond (Nat.beq pc 5) (some (.inl (g_gfr 2 0 8))) none))) (cond (Nat.ble pc 11) (cond (Nat.ble pc 8) (cond (Nat.beq pc 8) (some (.inr (.inl (64, 2, 11)))) none) (cond (Nat.beq pc 11) (some (.inl (g_ald 0 12))) none)) (cond (Nat.ble pc 12) (cond (Nat.beq pc 12) (some (.inl (g_ald 1 13))) none) (cond (Nat.ble pc 13) (cond (Nat.beq pc 13) (some (.inl (g_gfi 2 1 16))) none) (cond (Nat.beq pc 16) (some (.inl (g_pfi 2 1 19))) none))))) (cond (Nat.ble pc 24) (cond (Nat.ble pc 20) (cond (Nat.ble pc 19) (cond (Nat.beq pc 19) (some (.inl (g_ald 0 20))) none) (cond (Nat.beq pc 20) (some (.inl (g_ald 1 21))) none)) (cond (Nat.ble pc 21) (cond (Nat.beq pc 21) (some (.inl (g_gfi 2 2 24))) none) (cond (Nat.beq pc 24) (some (.inl (g_pfi 2 2 27))) none))) (cond (Nat.ble pc 28) (cond (Nat.ble pc 27) (cond (Nat.beq pc 27) (some (.inl (g_ald 0 28))) none) (cond (Nat.beq pc 28) (some (.inl (g_ald 1 29))) none)) (cond (Nat.ble pc 29) (cond (Nat.beq pc 29) (some (.inl (g_gfi 2 3 32))) none) (cond (Nat.ble pc 32) (cond (Nat.beq pc 32) (some (.inl (g_pfi 2 3 35))) none) (cond (Nat.beq pc 35) (some (.inr (.inr 0))) none)))))
def kp_23 (pc : Nat) : Option KOp := cond (Nat.ble pc 8) (cond (Nat.ble pc 1) (cond (Nat.ble pc 0) (cond (Nat.beq pc 0) (some (.inl (g_ald 0 1))) none) (cond (Nat.beq pc 1) (some (.inl (g_gfr 2 0 4))) none)) (cond (Nat.ble pc 4) (cond (Nat.beq pc 4) (some (.inr (.inl (63, 1, 7)))) none) (cond (Nat.ble pc 7) (cond (Nat.beq pc 7) (some (.inl (g_ald 0 8))) none) (cond (Nat.beq pc 8) (some (.inl (g_push 0 9))) none)))) (cond (Nat.ble pc 12) (cond (Nat.ble pc 9) (cond (Nat.beq pc 9) (some (.inl (g_pfi 2 2 12))) none) (cond (Nat.beq pc 12) (some (.inl (g_ald 0 13))) none)) (cond (Nat.ble pc 13) (cond (Nat.beq pc 13) (some (.inl (g_push 0 14))) none) (cond (Nat.ble pc 14) (cond (Nat.beq pc 14) (some (.inl (g_pfi 2 3 17))) none) (cond (Nat.beq pc 17) (some (.inr (.inr 0))) none))))
def kp_24 (pc : Nat) : Option KOp := cond (Nat.ble pc 6) (cond (Nat.ble pc 2) (cond (Nat.ble pc 0) (cond (Nat.beq pc 0) (some (.inl (g_push 100 2))) none) (cond (Nat.beq pc 2) (some (.inl (g_push 1000 5))) none)) (cond (Nat.ble pc 5) (cond (Nat.beq pc 5) (some (.inl (g_ald 0 6))) none) (cond (Nat.beq pc 6) (some (.inl (g_gfi 2 2 9))) none))) (cond (Nat.ble pc 10) (cond (Nat.ble pc 9) (cond (Nat.beq pc 9) (some (.inl (g_ild 1 10))) none) (cond (Nat.beq pc 10) (some (.inr (.inl (65, 2, 13)))) none)) (cond (Nat.ble pc 13) (cond (Nat.beq pc 13) (some (.inl (g_iop (fun x y => x - y) 14))) none) (cond (Nat.ble pc 14) (cond (Nat.beq pc 14) (some (.inl (g_imax 17))) none) (cond (Nat.beq pc 17) (some (.inr (.inr 1))) none))))
def kp_25 (pc : Nat) : Option KOp := cond (Nat.ble pc 42) (cond (Nat.ble pc 18) (cond (Nat.ble pc 7) (cond (Nat.ble pc 2) (cond (Nat.ble pc 0) (cond (Nat.beq pc 0) (some (.inl (g_ald 0 1))) none) (cond (Nat.ble pc 1) (cond (Nat.beq pc 1) (some (.inl (g_ild 2 2))) none) (cond (Nat.beq pc 2) (some (.inr (.inl (24, 2, 5)))) none))) (cond (Nat.ble pc 5) (cond (Nat.beq pc 5) (some (.inl (g_ist 3 6))) none) (cond (Nat.ble pc 6) (cond (Nat.beq pc 6) (some (.inl (g_push 0 7))) none) (cond (Nat.beq pc 7) (some (.inl (g_ist 4 9))) none)))) (cond (Nat.ble pc 12) (cond (Nat.ble pc 9) (cond (Nat.beq pc 9) (some (.inl (g_push 0 10))) none) (cond (Nat.ble pc 10) (cond (Nat.beq pc 10) (some (.inl (g_ist 5 12))) none) (cond (Nat.beq pc 12) (some (.inl (g_ild 5 14))) none))) (cond (Nat.ble pc 14) (cond (Nat.beq pc 14) (some (.inl (g_ald 0 15))) none) (cond (Nat.ble pc 15) (cond (Nat.beq pc 15) (some (.inl (g_gfi 2 1 18))) none) (cond (Nat.beq pc 18) (some (.inl (g_br2 (fun x y => decide (y ≤ x)) 81 21))) none))))) (cond (Nat.ble pc 29) (cond (Nat.ble pc 25) (cond (Nat.ble pc 21) (cond (Nat.beq pc 21) (some (.inl (g_ald 0 22))) none) (cond (Nat.ble pc 22) (cond (Nat.beq pc 22) (some (.inl (g_gfr 2 0 25))) none) (cond (Nat.beq pc 25) (some (.inl (g_ild 5 27))) none))) (cond (Nat.ble pc 27) (cond (Nat.beq pc 27) (some (.inl (g_pald 5 28))) none) (cond (Nat.ble pc 28) (cond (Nat.beq pc 28) (some (.inl (g_ild 3 29))) none) (cond (Nat.beq pc 29) (some (.inl (g_ald 0 30))) none)))) (cond (Nat.ble pc 35) (cond (Nat.ble pc 30) (cond (Nat.beq pc 30) (some (.inl (g_gfi 2 1 33))) none) (cond (Nat.ble pc 33) (cond (Nat.beq pc 33) (some (.inl (g_ild 5 35))) none) (cond (Nat.beq pc 35) (some (.inl (g_iop (fun x y => x - y) 36))) none))) (cond (Nat.ble pc 36) (cond (Nat.beq pc 36) (some (.inr (.inl (28, 1, 39)))) none) (cond (Nat.ble pc 39) (cond (Nat.beq pc 39) (some (.inr (.inl (27, 3, 42)))) none) (cond (Nat.beq pc 42) (some (.inl (g_ist 6 44))) none)))))) (cond (Nat.ble pc 62) (cond (Nat.ble pc 52) (cond (Nat.ble pc 48) (cond (Nat.ble pc 44) (cond (Nat.beq pc 44) (some (.inl (g_ald 0 45))) none) (cond (Nat.ble pc 45) (cond (Nat.beq pc 45) (some (.inl (g_gfr 2 0 48))) none) (cond (Nat.beq pc 48) (some (.inl (g_ild 5 50))) none))) (cond (Nat.ble pc 50) (cond (Nat.beq pc 50) (some (.inl (g_dup2 51))) none) (cond (Nat.ble pc 51) (cond (Nat.beq pc 51) (some (.inl (g_pald 5 52))) none) (cond (Nat.beq pc 52) (some (.inl (g_ild 6 54))) none)))) (cond (Nat.ble pc 56) (cond (Nat.ble pc 54) (cond (Nat.beq pc 54) (some (.inl (g_iop (fun x y => x - y) 55))) none) (cond (Nat.ble pc 55) (cond (Nat.beq pc 55) (some (.inl (g_past 5 56))) none) (cond (Nat.beq pc 56) (some (.inl (g_ald 1 57))) none))) (cond (Nat.ble pc 57) (cond (Nat.beq pc 57) (some (.inl (g_gfr 2 0 60))) none) (cond (Nat.ble pc 60) (cond (Nat.beq pc 60) (some (.inl (g_ild 5 62))) none) (cond (Nat.beq pc 62) (some (.inl (g_dup2 63))) none))))) (cond (Nat.ble pc 70) (cond (Nat.ble pc 66) (cond (Nat.ble pc 63) (cond (Nat.beq pc 63) (some (.inl (g_pald 5 64))) none) (cond (Nat.ble pc 64) (cond (Nat.beq pc 64) (some (.inl (g_ild 6 66))) none) (cond (Nat.beq pc 66) (some (.inl (g_iop (fun x y => x + y) 67))) none))) (cond (Nat.ble pc 67) (cond (Nat.beq pc 67) (some (.inl (g_past 5 68))) none) (cond (Nat.ble pc 68) (cond (Nat.beq pc 68) (some (.inl (g_ild 4 70))) none) (cond (Nat.beq pc 70) (some (.inl (g_ild 6 72))) none)))) (cond (Nat.ble pc 75) (cond (Nat.ble pc 72) (cond (Nat.beq pc 72) (some (.inl (g_iop (fun x y => x + y) 73))) none) (cond (Nat.ble pc 73) (cond (Nat.beq pc 73) (some (.inl (g_ist 4 75))) none) (cond (Nat.beq pc 75) (some (.inl (g_iinc 5 1 78))) none))) (cond (Nat.ble pc 78) (cond (Nat.beq pc 78) (some (.inl (g_goto 12))) none) (cond (Nat.ble pc 81) (cond (Nat.beq pc 81) (some (.inl (g_ild 4 83))) none) (cond (Nat.beq pc 83) (some (.inr (.inr 1))) none))))))
def kp_26 (pc : Nat) : Option KOp := cond (Nat.ble pc 20) (cond (Nat.ble pc 9) (cond (Nat.ble pc 4) (cond (Nat.ble pc 0) (cond (Nat.beq pc 0) (some (.inl (g_ald 0 1))) none) (cond (Nat.ble pc 1) (cond (Nat.beq pc 1) (some (.inl (g_gfr 2 0 4))) none) (cond (Nat.beq pc 4) (some (.inl (g_ald 0 5))) none))) (cond (Nat.ble pc 5) (cond (Nat.beq pc 5) (some (.inl (g_gfi 2 1 8))) none) (cond (Nat.ble pc 8) (cond (Nat.beq pc 8) (some (.inl (g_pald 5 9))) none) (cond (Nat.beq pc 9) (some (.inl (g_ild 1 10))) none)))) (cond (Nat.ble pc 14) (cond (Nat.ble pc 10) (cond (Nat.beq pc 10) (some (.inl (g_iop (fun x y => x * y) 11))) none) (cond (Nat.ble pc 11) (cond (Nat.beq pc 11) (some (.inl (g_push 1000 14))) none) (cond (Nat.beq pc 14) (some (.inl (g_idiv (fun x y => x / y) 15))) none))) (cond (Nat.ble pc 16) (cond (Nat.ble pc 15) (cond (Nat.beq pc 15) (some (.inl (g_ist 2 16))) none) (cond (Nat.beq pc 16) (some (.inl (g_ald 0 17))) none)) (cond (Nat.ble pc 17) (cond (Nat.beq pc 17) (some (.inl (g_gfr 2 0 20))) none) (cond (Nat.beq pc 20) (some (.inl (g_ald 0 21))) none))))) (cond (Nat.ble pc 28) (cond (Nat.ble pc 25) (cond (Nat.ble pc 21) (cond (Nat.beq pc 21) (some (.inl (g_gfi 2 1 24))) none) (cond (Nat.ble pc 24) (cond (Nat.beq pc 24) (some (.inl (g_dup2 25))) none) (cond (Nat.beq pc 25) (some (.inl (g_pald 5 26))) none))) (cond (Nat.ble pc 26) (cond (Nat.beq pc 26) (some (.inl (g_ild 2 27))) none) (cond (Nat.ble pc 27) (cond (Nat.beq pc 27) (some (.inl (g_iop (fun x y => x - y) 28))) none) (cond (Nat.beq pc 28) (some (.inl (g_past 5 29))) none)))) (cond (Nat.ble pc 31) (cond (Nat.ble pc 29) (cond (Nat.beq pc 29) (some (.inl (g_ald 0 30))) none) (cond (Nat.ble pc 30) (cond (Nat.beq pc 30) (some (.inl (g_dup 31))) none) (cond (Nat.beq pc 31) (some (.inl (g_gfi 2 2 34))) none))) (cond (Nat.ble pc 35) (cond (Nat.ble pc 34) (cond (Nat.beq pc 34) (some (.inl (g_ild 2 35))) none) (cond (Nat.beq pc 35) (some (.inl (g_iop (fun x y => x + y) 36))) none)) (cond (Nat.ble pc 36) (cond (Nat.beq pc 36) (some (.inl (g_pfi 2 2 39))) none) (cond (Nat.beq pc 39) (some (.inr (.inr 0))) none)))))
def kp_27 (pc : Nat) : Option KOp := cond (Nat.ble pc 10) (cond (Nat.ble pc 5) (cond (Nat.ble pc 1) (cond (Nat.ble pc 0) (cond (Nat.beq pc 0) (some (.inl (g_ild 0 1))) none) (cond (Nat.beq pc 1) (some (.inl (g_br1 (fun x => decide (¬ x = 0)) 6 4))) none)) (cond (Nat.ble pc 4) (cond (Nat.beq pc 4) (some (.inl (g_push 0 5))) none) (cond (Nat.beq pc 5) (some (.inr (.inr 1))) none))) (cond (Nat.ble pc 7) (cond (Nat.ble pc 6) (cond (Nat.beq pc 6) (some (.inl (g_pushl 1 7))) none) (cond (Nat.beq pc 7) (some (.inl (g_ild 0 8))) none)) (cond (Nat.ble pc 8) (cond (Nat.beq pc 8) (some (.inl (g_i2l 9))) none) (cond (Nat.ble pc 9) (cond (Nat.beq pc 9) (some (.inl (g_ild 1 10))) none) (cond (Nat.beq pc 10) (some (.inl (g_i2l 11))) none))))) (cond (Nat.ble pc 14) (cond (Nat.ble pc 12) (cond (Nat.ble pc 11) (cond (Nat.beq pc 11) (some (.inl (g_lop (fun x y => x * y) 12))) none) (cond (Nat.beq pc 12) (some (.inl (g_ild 2 13))) none)) (cond (Nat.ble pc 13) (cond (Nat.beq pc 13) (some (.inl (g_i2l 14))) none) (cond (Nat.beq pc 14) (some (.inl (g_lop (fun x y => x * y) 15))) none))) (cond (Nat.ble pc 18) (cond (Nat.ble pc 15) (cond (Nat.beq pc 15) (some (.inl (g_pushl 1000000 18))) none) (cond (Nat.beq pc 18) (some (.inl (g_ldiv 19))) none)) (cond (Nat.ble pc 19) (cond (Nat.beq pc 19) (some (.inl (g_lmax 22))) none) (cond (Nat.ble pc 22) (cond (Nat.beq pc 22) (some (.inl (g_l2i 23))) none) (cond (Nat.beq pc 23) (some (.inr (.inr 1))) none)))))
def kp_28 (pc : Nat) : Option KOp := cond (Nat.ble pc 31) (cond (Nat.ble pc 1) (cond (Nat.ble pc 0) (cond (Nat.beq pc 0) (some (.inl (g_ild 0 1))) none) (cond (Nat.beq pc 1) (some (.inl (g_lsw2 1 2 28 32 36))) none)) (cond (Nat.ble pc 28) (cond (Nat.beq pc 28) (some (.inl (g_push 300 31))) none) (cond (Nat.beq pc 31) (some (.inr (.inr 1))) none))) (cond (Nat.ble pc 35) (cond (Nat.ble pc 32) (cond (Nat.beq pc 32) (some (.inl (g_push 600 35))) none) (cond (Nat.beq pc 35) (some (.inr (.inr 1))) none)) (cond (Nat.ble pc 36) (cond (Nat.beq pc 36) (some (.inl (g_push 900 39))) none) (cond (Nat.beq pc 39) (some (.inr (.inr 1))) none)))
def kp_29 (pc : Nat) : Option KOp := cond (Nat.ble pc 24) (cond (Nat.ble pc 9) (cond (Nat.ble pc 4) (cond (Nat.ble pc 0) (cond (Nat.beq pc 0) (some (.inl (g_ild 1 1))) none) (cond (Nat.ble pc 1) (cond (Nat.beq pc 1) (some (.inr (.inl (60, 1, 4)))) none) (cond (Nat.beq pc 4) (some (.inl (g_br1 (fun x => decide (x = 0)) 18 7))) none))) (cond (Nat.ble pc 7) (cond (Nat.beq pc 7) (some (.inl (g_ild 2 8))) none) (cond (Nat.ble pc 8) (cond (Nat.beq pc 8) (some (.inl (g_push 0 9))) none) (cond (Nat.beq pc 9) (some (.inl (g_push 9999 12))) none)))) (cond (Nat.ble pc 18) (cond (Nat.ble pc 12) (cond (Nat.beq pc 12) (some (.inr (.inl (59, 3, 15)))) none) (cond (Nat.ble pc 15) (cond (Nat.beq pc 15) (some (.inl (g_br1 (fun x => decide (¬ x = 0)) 20 18))) none) (cond (Nat.beq pc 18) (some (.inl (g_push (-1) 19))) none))) (cond (Nat.ble pc 20) (cond (Nat.ble pc 19) (cond (Nat.beq pc 19) (some (.inr (.inr 1))) none) (cond (Nat.beq pc 20) (some (.inl (g_ald 0 21))) none)) (cond (Nat.ble pc 21) (cond (Nat.beq pc 21) (some (.inr (.inl (58, 1, 24)))) none) (cond (Nat.beq pc 24) (some (.inl (g_ald 0 25))) none))))) (cond (Nat.ble pc 34) (cond (Nat.ble pc 31) (cond (Nat.ble pc 25) (cond (Nat.beq pc 25) (some (.inl (g_gfr 3 0 28))) none) (cond (Nat.ble pc 28) (cond (Nat.beq pc 28) (some (.inl (g_gfr 1 0 31))) none) (cond (Nat.beq pc 31) (some (.inl (g_ild 1 32))) none))) (cond (Nat.ble pc 32) (cond (Nat.beq pc 32) (some (.inl (g_pald 5 33))) none) (cond (Nat.ble pc 33) (cond (Nat.beq pc 33) (some (.inl (g_ist 3 34))) none) (cond (Nat.beq pc 34) (some (.inl (g_ald 0 35))) none)))) (cond (Nat.ble pc 41) (cond (Nat.ble pc 35) (cond (Nat.beq pc 35) (some (.inl (g_gfr 3 0 38))) none) (cond (Nat.ble pc 38) (cond (Nat.beq pc 38) (some (.inl (g_gfr 1 0 41))) none) (cond (Nat.beq pc 41) (some (.inl (g_ild 1 42))) none))) (cond (Nat.ble pc 43) (cond (Nat.ble pc 42) (cond (Nat.beq pc 42) (some (.inl (g_ild 2 43))) none) (cond (Nat.beq pc 43) (some (.inl (g_past 5 44))) none)) (cond (Nat.ble pc 44) (cond (Nat.beq pc 44) (some (.inl (g_ild 3 45))) none) (cond (Nat.beq pc 45) (some (.inr (.inr 1))) none)))))
def kp_30 (pc : Nat) : Option KOp := cond (Nat.ble pc 4) (cond (Nat.ble pc 0) (cond (Nat.beq pc 0) (some (.inl (g_ald 0 1))) none) (cond (Nat.ble pc 1) (cond (Nat.beq pc 1) (some (.inl (g_gfr 3 0 4))) none) (cond (Nat.beq pc 4) (some (.inl (g_gfr 1 0 7))) none))) (cond (Nat.ble pc 7) (cond (Nat.beq pc 7) (some (.inl (g_ild 1 8))) none) (cond (Nat.ble pc 8) (cond (Nat.beq pc 8) (some (.inr (.inl (61, 2, 11)))) none) (cond (Nat.beq pc 11) (some (.inr (.inr 1))) none)))
def kp_31 (pc : Nat) : Option KOp := cond (Nat.ble pc 4) (cond (Nat.ble pc 0) (cond (Nat.beq pc 0) (some (.inl (g_ald 0 1))) none) (cond (Nat.ble pc 1) (cond (Nat.beq pc 1) (some (.inl (g_gfr 3 0 4))) none) (cond (Nat.beq pc 4) (some (.inl (g_gfr 1 1 7))) none))) (cond (Nat.ble pc 7) (cond (Nat.beq pc 7) (some (.inl (g_ild 1 8))) none) (cond (Nat.ble pc 8) (cond (Nat.beq pc 8) (some (.inr (.inl (61, 2, 11)))) none) (cond (Nat.beq pc 11) (some (.inr (.inr 1))) none)))
def kp_32 (pc : Nat) : Option KOp := cond (Nat.ble pc 26) (cond (Nat.ble pc 10) (cond (Nat.ble pc 2) (cond (Nat.ble pc 0) (cond (Nat.beq pc 0) (some (.inl (g_ild 1 1))) none) (cond (Nat.ble pc 1) (cond (Nat.beq pc 1) (some (.inl (g_push 0 2))) none) (cond (Nat.beq pc 2) (some (.inl (g_push 1 3))) none))) (cond (Nat.ble pc 6) (cond (Nat.ble pc 3) (cond (Nat.beq pc 3) (some (.inr (.inl (59, 3, 6)))) none) (cond (Nat.beq pc 6) (some (.inl (g_br1 (fun x => decide (¬ x = 0)) 11 9))) none)) (cond (Nat.ble pc 9) (cond (Nat.beq pc 9) (some (.inl (g_push (-1) 10))) none) (cond (Nat.beq pc 10) (some (.inr (.inr 1))) none)))) (cond (Nat.ble pc 15) (cond (Nat.ble pc 11) (cond (Nat.beq pc 11) (some (.inl (g_ald 0 12))) none) (cond (Nat.ble pc 12) (cond (Nat.beq pc 12) (some (.inl (g_gfr 3 0 15))) none) (cond (Nat.beq pc 15) (some (.inl (g_gfr 1 0 18))) none))) (cond (Nat.ble pc 21) (cond (Nat.ble pc 18) (cond (Nat.beq pc 18) (some (.inr (.inl (62, 1, 21)))) none) (cond (Nat.beq pc 21) (some (.inl (g_br1 (fun x => decide (¬ x = 0)) 27 24))) none)) (cond (Nat.ble pc 24) (cond (Nat.beq pc 24) (some (.inl (g_push (-2) 26))) none) (cond (Nat.beq pc 26) (some (.inr (.inr 1))) none))))) (cond (Nat.ble pc 39) (cond (Nat.ble pc 31) (cond (Nat.ble pc 27) (cond (Nat.beq pc 27) (some (.inl (g_ald 0 28))) none) (cond (Nat.ble pc 28) (cond (Nat.beq pc 28) (some (.inr (.inl (58, 1, 31)))) none) (cond (Nat.beq pc 31) (some (.inl (g_ald 0 32))) none))) (cond (Nat.ble pc 35) (cond (Nat.ble pc 32) (cond (Nat.beq pc 32) (some (.inl (g_gfr 3 0 35))) none) (cond (Nat.beq pc 35) (some (.inl (g_ild 1 36))) none)) (cond (Nat.ble pc 36) (cond (Nat.beq pc 36) (some (.inl (g_br1 (fun x => decide (¬ x = 0)) 43 39))) none) (cond (Nat.beq pc 39) (some (.inl (g_push 1 40))) none)))) (cond (Nat.ble pc 47) (cond (Nat.ble pc 43) (cond (Nat.ble pc 40) (cond (Nat.beq pc 40) (some (.inl (g_goto 44))) none) (cond (Nat.beq pc 43) (some (.inl (g_push 0 44))) none)) (cond (Nat.ble pc 44) (cond (Nat.beq pc 44) (some (.inr (.inl (11, 2, 47)))) none) (cond (Nat.beq pc 47) (some (.inl (g_ald 0 48))) none))) (cond (Nat.ble pc 51) (cond (Nat.ble pc 48) (cond (Nat.beq pc 48) (some (.inl (g_gfr 3 0 51))) none) (cond (Nat.beq pc 51) (some (.inl (g_gfr 1 0 54))) none)) (cond (Nat.ble pc 54) (cond (Nat.beq pc 54) (some (.inr (.inl (62, 1, 57)))) none) (cond (Nat.beq pc 57) (some (.inr (.inr 1))) none)))))
def kp_33 (pc : Nat) : Option KOp := cond (Nat.ble pc 22) (cond (Nat.ble pc 12) (cond (Nat.ble pc 2) (cond (Nat.ble pc 0) (cond (Nat.beq pc 0) (some (.inl (g_ild 1 1))) none) (cond (Nat.ble pc 1) (cond (Nat.beq pc 1) (some (.inl (g_push 1 2))) none) (cond (Nat.beq pc 2) (some (.inl (g_push 9999 5))) none))) (cond (Nat.ble pc 8) (cond (Nat.ble pc 5) (cond (Nat.beq pc 5) (some (.inr (.inl (59, 3, 8)))) none) (cond (Nat.beq pc 8) (some (.inl (g_br1 (fun x => decide (¬ x = 0)) 13 11))) none)) (cond (Nat.ble pc 11) (cond (Nat.beq pc 11) (some (.inl (g_push (-1) 12))) none) (cond (Nat.beq pc 12) (some (.inr (.inr 1))) none)))) (cond (Nat.ble pc 17) (cond (Nat.ble pc 13) (cond (Nat.beq pc 13) (some (.inl (g_ald 0 14))) none) (cond (Nat.ble pc 14) (cond (Nat.beq pc 14) (some (.inr (.inl (58, 1, 17)))) none) (cond (Nat.beq pc 17) (some (.inl (g_push 0 18))) none))) (cond (Nat.ble pc 19) (cond (Nat.ble pc 18) (cond (Nat.beq pc 18) (some (.inl (g_ist 2 19))) none) (cond (Nat.beq pc 19) (some (.inl (g_ild 2 20))) none)) (cond (Nat.ble pc 20) (cond (Nat.beq pc 20) (some (.inl (g_push 100 22))) none) (cond (Nat.beq pc 22) (some (.inl (g_br2 (fun x y => decide (y ≤ x)) 53 25))) none))))) (cond (Nat.ble pc 39) (cond (Nat.ble pc 29) (cond (Nat.ble pc 25) (cond (Nat.beq pc 25) (some (.inl (g_ald 0 26))) none) (cond (Nat.ble pc 26) (cond (Nat.beq pc 26) (some (.inl (g_gfr 3 0 29))) none) (cond (Nat.beq pc 29) (some (.inl (g_gfr 1 0 32))) none))) (cond (Nat.ble pc 35) (cond (Nat.ble pc 32) (cond (Nat.beq pc 32) (some (.inr (.inl (62, 1, 35)))) none) (cond (Nat.beq pc 35) (some (.inl (g_ild 1 36))) none)) (cond (Nat.ble pc 36) (cond (Nat.beq pc 36) (some (.inl (g_br2 (fun x y => decide (x ≤ y)) 53 39))) none) (cond (Nat.beq pc 39) (some (.inl (g_ald 0 40))) none)))) (cond (Nat.ble pc 44) (cond (Nat.ble pc 40) (cond (Nat.beq pc 40) (some (.inl (g_gfr 3 0 43))) none) (cond (Nat.ble pc 43) (cond (Nat.beq pc 43) (some (.inl (g_push 1 44))) none) (cond (Nat.beq pc 44) (some (.inr (.inl (11, 2, 47)))) none))) (cond (Nat.ble pc 50) (cond (Nat.ble pc 47) (cond (Nat.beq pc 47) (some (.inl (g_iinc 2 1 50))) none) (cond (Nat.beq pc 50) (some (.inl (g_goto 19))) none)) (cond (Nat.ble pc 53) (cond (Nat.beq pc 53) (some (.inl (g_ild 2 54))) none) (cond (Nat.beq pc 54) (some (.inr (.inr 1))) none)))))
def kp_34 (pc : Nat) : Option KOp := cond (Nat.ble pc 48) (cond (Nat.ble pc 21) (cond (Nat.ble pc 8) (cond (Nat.ble pc 2) (cond (Nat.ble pc 0) (cond (Nat.beq pc 0) (some (.inl (g_push 0 1))) none) (cond (Nat.ble pc 1) (cond (Nat.beq pc 1) (some (.inl (g_ist 1 2))) none) (cond (Nat.beq pc 2) (some (.inl (g_ild 1 3))) none))) (cond (Nat.ble pc 3) (cond (Nat.beq pc 3) (some (.inl (g_push 10 5))) none) (cond (Nat.ble pc 5) (cond (Nat.beq pc 5) (some (.inl (g_br2 (fun x y => decide (y ≤ x)) 42 8))) none) (cond (Nat.beq pc 8) (some (.inl (g_ald 0 9))) none)))) (cond (Nat.ble pc 15) (cond (Nat.ble pc 9) (cond (Nat.beq pc 9) (some (.inl (g_gfr 3 0 12))) none) (cond (Nat.ble pc 12) (cond (Nat.beq pc 12) (some (.inl (g_gfr 1 0 15))) none) (cond (Nat.beq pc 15) (some (.inl (g_ild 1 16))) none))) (cond (Nat.ble pc 17) (cond (Nat.ble pc 16) (cond (Nat.beq pc 16) (some (.inl (g_pald 5 17))) none) (cond (Nat.beq pc 17) (some (.inl (g_ald 0 18))) none)) (cond (Nat.ble pc 18) (cond (Nat.beq pc 18) (some (.inl (g_gfr 3 0 21))) none) (cond (Nat.beq pc 21) (some (.inl (g_gfr 1 1 24))) none))))) (cond (Nat.ble pc 35) (cond (Nat.ble pc 26) (cond (Nat.ble pc 24) (cond (Nat.beq pc 24) (some (.inl (g_ild 1 25))) none) (cond (Nat.ble pc 25) (cond (Nat.beq pc 25) (some (.inl (g_pald 5 26))) none) (cond (Nat.beq pc 26) (some (.inl (g_iop (fun x y => x + y) 27))) none))) (cond (Nat.ble pc 30) (cond (Nat.ble pc 27) (cond (Nat.beq pc 27) (some (.inl (g_push 9999 30))) none) (cond (Nat.beq pc 30) (some (.inl (g_br2 (fun x y => decide (x ≤ y)) 36 33))) none)) (cond (Nat.ble pc 33) (cond (Nat.beq pc 33) (some (.inl (g_push (-3) 35))) none) (cond (Nat.beq pc 35) (some (.inr (.inr 1))) none)))) (cond (Nat.ble pc 42) (cond (Nat.ble pc 36) (cond (Nat.beq pc 36) (some (.inl (g_iinc 1 1 39))) none) (cond (Nat.ble pc 39) (cond (Nat.beq pc 39) (some (.inl (g_goto 2))) none) (cond (Nat.beq pc 42) (some (.inl (g_ald 0 43))) none))) (cond (Nat.ble pc 46) (cond (Nat.ble pc 43) (cond (Nat.beq pc 43) (some (.inr (.inl (58, 1, 46)))) none) (cond (Nat.beq pc 46) (some (.inl (g_push 0 47))) none)) (cond (Nat.ble pc 47) (cond (Nat.beq pc 47) (some (.inl (g_ist 1 48))) none) (cond (Nat.beq pc 48) (some (.inl (g_ild 1 49))) none)))))) (cond (Nat.ble pc 73) (cond (Nat.ble pc 62) (cond (Nat.ble pc 54) (cond (Nat.ble pc 49) (cond (Nat.beq pc 49) (some (.inl (g_push 10 51))) none) (cond (Nat.ble pc 51) (cond (Nat.beq pc 51) (some (.inl (g_br2 (fun x y => decide (y ≤ x)) 91 54))) none) (cond (Nat.beq pc 54) (some (.inl (g_ald 0 55))) none))) (cond (Nat.ble pc 58) (cond (Nat.ble pc 55) (cond (Nat.beq pc 55) (some (.inl (g_gfr 3 0 58))) none) (cond (Nat.beq pc 58) (some (.inl (g_gfr 1 0 61))) none)) (cond (Nat.ble pc 61) (cond (Nat.beq pc 61) (some (.inl (g_ild 1 62))) none) (cond (Nat.beq pc 62) (some (.inl (g_dup2 63))) none)))) (cond (Nat.ble pc 65) (cond (Nat.ble pc 63) (cond (Nat.beq pc 63) (some (.inl (g_pald 5 64))) none) (cond (Nat.ble pc 64) (cond (Nat.beq pc 64) (some (.inl (g_ald 0 65))) none) (cond (Nat.beq pc 65) (some (.inl (g_gfr 3 0 68))) none))) (cond (Nat.ble pc 71) (cond (Nat.ble pc 68) (cond (Nat.beq pc 68) (some (.inl (g_gfr 1 1 71))) none) (cond (Nat.beq pc 71) (some (.inl (g_ild 1 72))) none)) (cond (Nat.ble pc 72) (cond (Nat.beq pc 72) (some (.inl (g_pald 5 73))) none) (cond (Nat.beq pc 73) (some (.inl (g_iop (fun x y => x + y) 74))) none))))) (cond (Nat.ble pc 84) (cond (Nat.ble pc 76) (cond (Nat.ble pc 74) (cond (Nat.beq pc 74) (some (.inl (g_past 5 75))) none) (cond (Nat.ble pc 75) (cond (Nat.beq pc 75) (some (.inl (g_ald 0 76))) none) (cond (Nat.beq pc 76) (some (.inl (g_gfr 3 0 79))) none))) (cond (Nat.ble pc 82) (cond (Nat.ble pc 79) (cond (Nat.beq pc 79) (some (.inl (g_gfr 1 1 82))) none) (cond (Nat.beq pc 82) (some (.inl (g_ild 1 83))) none)) (cond (Nat.ble pc 83) (cond (Nat.beq pc 83) (some (.inl (g_push 0 84))) none) (cond (Nat.beq pc 84) (some (.inl (g_past 5 85))) none)))) (cond (Nat.ble pc 91) (cond (Nat.ble pc 85) (cond (Nat.beq pc 85) (some (.inl (g_iinc 1 1 88))) none) (cond (Nat.ble pc 88) (cond (Nat.beq pc 88) (some (.inl (g_goto 48))) none) (cond (Nat.beq pc 91) (some (.inl (g_ald 0 92))) none))) (cond (Nat.ble pc 95) (cond (Nat.ble pc 92) (cond (Nat.beq pc 92) (some (.inl (g_gfr 3 0 95))) none) (cond (Nat.beq pc 95) (some (.inl (g_gfr 1 0 98))) none)) (cond (Nat.ble pc 98) (cond (Nat.beq pc 98) (some (.inr (.inl (62, 1, 101)))) none) (cond (Nat.beq pc 101) (some (.inr (.inr 1))) none))))))
def kp_35 (pc : Nat) : Option KOp := cond (Nat.ble pc 32) (cond (Nat.ble pc 13) (cond (Nat.ble pc 5) (cond (Nat.ble pc 1) (cond (Nat.ble pc 0) (cond (Nat.beq pc 0) (some (.inl (g_ild 1 1))) none) (cond (Nat.beq pc 1) (some (.inl (g_push 0 2))) none)) (cond (Nat.ble pc 2) (cond (Nat.beq pc 2) (some (.inl (g_push 255 5))) none) (cond (Nat.beq pc 5) (some (.inr (.inl (59, 3, 8)))) none))) (cond (Nat.ble pc 11) (cond (Nat.ble pc 8) (cond (Nat.beq pc 8) (some (.inl (g_br1 (fun x => decide (¬ x = 0)) 13 11))) none) (cond (Nat.beq pc 11) (some (.inl (g_push (-1) 12))) none)) (cond (Nat.ble pc 12) (cond (Nat.beq pc 12) (some (.inr (.inr 1))) none) (cond (Nat.beq pc 13) (some (.inl (g_ald 0 14))) none)))) (cond (Nat.ble pc 22) (cond (Nat.ble pc 17) (cond (Nat.ble pc 14) (cond (Nat.beq pc 14) (some (.inl (g_gfr 3 3 17))) none) (cond (Nat.beq pc 17) (some (.inl (g_gfi 0 3 20))) none)) (cond (Nat.ble pc 20) (cond (Nat.beq pc 20) (some (.inl (g_push 80 22))) none) (cond (Nat.beq pc 22) (some (.inl (g_br2 (fun x y => decide (x < y)) 28 25))) none))) (cond (Nat.ble pc 27) (cond (Nat.ble pc 25) (cond (Nat.beq pc 25) (some (.inl (g_push (-3) 27))) none) (cond (Nat.beq pc 27) (some (.inr (.inr 1))) none)) (cond (Nat.ble pc 28) (cond (Nat.beq pc 28) (some (.inl (g_ald 0 29))) none) (cond (Nat.ble pc 29) (cond (Nat.beq pc 29) (some (.inl (g_gfr 3 3 32))) none) (cond (Nat.beq pc 32) (some (.inl (g_gfr 0 0 35))) none)))))) (cond (Nat.ble pc 46) (cond (Nat.ble pc 42) (cond (Nat.ble pc 36) (cond (Nat.ble pc 35) (cond (Nat.beq pc 35) (some (.inl (g_ald 0 36))) none) (cond (Nat.beq pc 36) (some (.inl (g_gfr 3 3 39))) none)) (cond (Nat.ble pc 39) (cond (Nat.beq pc 39) (some (.inl (g_gfi 0 3 42))) none) (cond (Nat.beq pc 42) (some (.inl (g_ild 1 43))) none))) (cond (Nat.ble pc 44) (cond (Nat.ble pc 43) (cond (Nat.beq pc 43) (some (.inl (g_i2i k_i2c 44))) none) (cond (Nat.beq pc 44) (some (.inl (g_past 6 45))) none)) (cond (Nat.ble pc 45) (cond (Nat.beq pc 45) (some (.inl (g_ald 0 46))) none) (cond (Nat.beq pc 46) (some (.inl (g_gfr 3 3 49))) none)))) (cond (Nat.ble pc 54) (cond (Nat.ble pc 50) (cond (Nat.ble pc 49) (cond (Nat.beq pc 49) (some (.inl (g_dup 50))) none) (cond (Nat.beq pc 50) (some (.inl (g_gfi 0 3 53))) none)) (cond (Nat.ble pc 53) (cond (Nat.beq pc 53) (some (.inl (g_push 1 54))) none) (cond (Nat.beq pc 54) (some (.inl (g_iop (fun x y => x + y) 55))) none))) (cond (Nat.ble pc 58) (cond (Nat.ble pc 55) (cond (Nat.beq pc 55) (some (.inl (g_pfi 0 3 58))) none) (cond (Nat.beq pc 58) (some (.inl (g_ald 0 59))) none)) (cond (Nat.ble pc 59) (cond (Nat.beq pc 59) (some (.inl (g_gfr 3 3 62))) none) (cond (Nat.ble pc 62) (cond (Nat.beq pc 62) (some (.inl (g_gfi 0 3 65))) none) (cond (Nat.beq pc 65) (some (.inr (.inr 1))) none))))))
def kp_36 (pc : Nat) : Option KOp := cond (Nat.ble pc 8) (cond (Nat.ble pc 1) (cond (Nat.ble pc 0) (cond (Nat.beq pc 0) (some (.inl (g_ald 0 1))) none) (cond (Nat.beq pc 1) (some (.inl (g_gfr 3 3 4))) none)) (cond (Nat.ble pc 4) (cond (Nat.beq pc 4) (some (.inl (g_gfi 0 3 7))) none) (cond (Nat.ble pc 7) (cond (Nat.beq pc 7) (some (.inl (g_ist 1 8))) none) (cond (Nat.beq pc 8) (some (.inl (g_ald 0 9))) none)))) (cond (Nat.ble pc 12) (cond (Nat.ble pc 9) (cond (Nat.beq pc 9) (some (.inl (g_gfr 3 3 12))) none) (cond (Nat.beq pc 12) (some (.inl (g_push 0 13))) none)) (cond (Nat.ble pc 13) (cond (Nat.beq pc 13) (some (.inl (g_pfi 0 3 16))) none) (cond (Nat.ble pc 16) (cond (Nat.beq pc 16) (some (.inl (g_ild 1 17))) none) (cond (Nat.beq pc 17) (some (.inr (.inr 1))) none))))
def kp_37 (pc : Nat) : Option KOp := cond (Nat.ble pc 22) (cond (Nat.ble pc 10) (cond (Nat.ble pc 4) (cond (Nat.ble pc 0) (cond (Nat.beq pc 0) (some (.inl (g_ald 0 1))) none) (cond (Nat.ble pc 1) (cond (Nat.beq pc 1) (some (.inl (g_gfr 3 3 4))) none) (cond (Nat.beq pc 4) (some (.inr (.inl (0, 1, 7)))) none))) (cond (Nat.ble pc 8) (cond (Nat.ble pc 7) (cond (Nat.beq pc 7) (some (.inl (g_ist 1 8))) none) (cond (Nat.beq pc 8) (some (.inl (g_ild 1 9))) none)) (cond (Nat.ble pc 9) (cond (Nat.beq pc 9) (some (.inl (g_push (-1) 10))) none) (cond (Nat.beq pc 10) (some (.inl (g_br2 (fun x y => decide (x = y)) 18 13))) none)))) (cond (Nat.ble pc 16) (cond (Nat.ble pc 13) (cond (Nat.beq pc 13) (some (.inl (g_push (-10) 15))) none) (cond (Nat.ble pc 15) (cond (Nat.beq pc 15) (some (.inl (g_ild 1 16))) none) (cond (Nat.beq pc 16) (some (.inl (g_iop (fun x y => x - y) 17))) none))) (cond (Nat.ble pc 18) (cond (Nat.ble pc 17) (cond (Nat.beq pc 17) (some (.inr (.inr 1))) none) (cond (Nat.beq pc 18) (some (.inl (g_ald 0 19))) none)) (cond (Nat.ble pc 19) (cond (Nat.beq pc 19) (some (.inr (.inl (58, 1, 22)))) none) (cond (Nat.beq pc 22) (some (.inl (g_ald 0 23))) none))))) (cond (Nat.ble pc 39) (cond (Nat.ble pc 29) (cond (Nat.ble pc 23) (cond (Nat.beq pc 23) (some (.inl (g_gfr 3 3 26))) none) (cond (Nat.ble pc 26) (cond (Nat.beq pc 26) (some (.inl (g_gfr 0 1 29))) none) (cond (Nat.beq pc 29) (some (.inl (g_ald 0 30))) none))) (cond (Nat.ble pc 33) (cond (Nat.ble pc 30) (cond (Nat.beq pc 30) (some (.inl (g_gfr 3 0 33))) none) (cond (Nat.beq pc 33) (some (.inl (g_gfr 1 0 36))) none)) (cond (Nat.ble pc 36) (cond (Nat.beq pc 36) (some (.inr (.inl (64, 2, 39)))) none) (cond (Nat.beq pc 39) (some (.inl (g_ald 0 40))) none)))) (cond (Nat.ble pc 47) (cond (Nat.ble pc 43) (cond (Nat.ble pc 40) (cond (Nat.beq pc 40) (some (.inl (g_gfr 3 3 43))) none) (cond (Nat.beq pc 43) (some (.inl (g_push 0 44))) none)) (cond (Nat.ble pc 44) (cond (Nat.beq pc 44) (some (.inl (g_pfi 0 3 47))) none) (cond (Nat.beq pc 47) (some (.inl (g_ald 0 48))) none))) (cond (Nat.ble pc 51) (cond (Nat.ble pc 48) (cond (Nat.beq pc 48) (some (.inl (g_gfr 3 0 51))) none) (cond (Nat.beq pc 51) (some (.inl (g_gfr 1 0 54))) none)) (cond (Nat.ble pc 54) (cond (Nat.beq pc 54) (some (.inr (.inl (62, 1, 57)))) none) (cond (Nat.beq pc 57) (some (.inr (.inr 1))) none)))))
def kp_38 (pc : Nat) : Option KOp := cond (Nat.ble pc 28) (cond (Nat.ble pc 12) (cond (Nat.ble pc 4) (cond (Nat.ble pc 1) (cond (Nat.ble pc 0) (cond (Nat.beq pc 0) (some (.inl (g_ild 1 1))) none) (cond (Nat.beq pc 1) (some (.inl (g_push 1 2))) none)) (cond (Nat.ble pc 2) (cond (Nat.beq pc 2) (some (.inl (g_push 9 4))) none) (cond (Nat.beq pc 4) (some (.inr (.inl (59, 3, 7)))) none))) (cond (Nat.ble pc 10) (cond (Nat.ble pc 7) (cond (Nat.beq pc 7) (some (.inl (g_br1 (fun x => decide (¬ x = 0)) 12 10))) none) (cond (Nat.beq pc 10) (some (.inl (g_push (-1) 11))) none)) (cond (Nat.ble pc 11) (cond (Nat.beq pc 11) (some (.inr (.inr 1))) none) (cond (Nat.beq pc 12) (some (.inl (g_ald 0 13))) none)))) (cond (Nat.ble pc 20) (cond (Nat.ble pc 16) (cond (Nat.ble pc 13) (cond (Nat.beq pc 13) (some (.inl (g_gfr 3 0 16))) none) (cond (Nat.beq pc 16) (some (.inl (g_ild 1 17))) none)) (cond (Nat.ble pc 17) (cond (Nat.beq pc 17) (some (.inr (.inl (12, 2, 20)))) none) (cond (Nat.beq pc 20) (some (.inl (g_push (-9) 22))) none))) (cond (Nat.ble pc 25) (cond (Nat.ble pc 22) (cond (Nat.beq pc 22) (some (.inl (g_br2 (fun x y => decide (x = y)) 28 25))) none) (cond (Nat.beq pc 25) (some (.inl (g_push (-2) 27))) none)) (cond (Nat.ble pc 27) (cond (Nat.beq pc 27) (some (.inr (.inr 1))) none) (cond (Nat.beq pc 28) (some (.inl (g_ald 0 29))) none))))) (cond (Nat.ble pc 44) (cond (Nat.ble pc 37) (cond (Nat.ble pc 32) (cond (Nat.ble pc 29) (cond (Nat.beq pc 29) (some (.inl (g_gfr 3 0 32))) none) (cond (Nat.beq pc 32) (some (.inl (g_gfi 1 5 35))) none)) (cond (Nat.ble pc 35) (cond (Nat.beq pc 35) (some (.inl (g_push 6 37))) none) (cond (Nat.beq pc 37) (some (.inl (g_br2 (fun x y => decide (x < y)) 43 40))) none))) (cond (Nat.ble pc 42) (cond (Nat.ble pc 40) (cond (Nat.beq pc 40) (some (.inl (g_push (-3) 42))) none) (cond (Nat.beq pc 42) (some (.inr (.inr 1))) none)) (cond (Nat.ble pc 43) (cond (Nat.beq pc 43) (some (.inl (g_ald 0 44))) none) (cond (Nat.beq pc 44) (some (.inr (.inl (58, 1, 47)))) none)))) (cond (Nat.ble pc 54) (cond (Nat.ble pc 48) (cond (Nat.ble pc 47) (cond (Nat.beq pc 47) (some (.inl (g_ald 0 48))) none) (cond (Nat.beq pc 48) (some (.inl (g_gfr 3 0 51))) none)) (cond (Nat.ble pc 51) (cond (Nat.beq pc 51) (some (.inr (.inl (15, 1, 54)))) none) (cond (Nat.beq pc 54) (some (.inl (g_ald 0 55))) none))) (cond (Nat.ble pc 58) (cond (Nat.ble pc 55) (cond (Nat.beq pc 55) (some (.inl (g_gfr 3 0 58))) none) (cond (Nat.beq pc 58) (some (.inl (g_ild 1 59))) none)) (cond (Nat.ble pc 59) (cond (Nat.beq pc 59) (some (.inr (.inl (13, 2, 62)))) none) (cond (Nat.beq pc 62) (some (.inr (.inr 1))) none)))))
def kp_39 (pc : Nat) : Option KOp := cond (Nat.ble pc 24) (cond (Nat.ble pc 11) (cond (Nat.ble pc 2) (cond (Nat.ble pc 0) (cond (Nat.beq pc 0) (some (.inl (g_ild 1 1))) none) (cond (Nat.ble pc 1) (cond (Nat.beq pc 1) (some (.inl (g_push 1 2))) none) (cond (Nat.beq pc 2) (some (.inl (g_push 9 4))) none))) (cond (Nat.ble pc 7) (cond (Nat.ble pc 4) (cond (Nat.beq pc 4) (some (.inr (.inl (59, 3, 7)))) none) (cond (Nat.beq pc 7) (some (.inl (g_br1 (fun x => decide (¬ x = 0)) 12 10))) none)) (cond (Nat.ble pc 10) (cond (Nat.beq pc 10) (some (.inl (g_push (-1) 11))) none) (cond (Nat.beq pc 11) (some (.inr (.inr 1))) none)))) (cond (Nat.ble pc 17) (cond (Nat.ble pc 13) (cond (Nat.ble pc 12) (cond (Nat.beq pc 12) (some (.inl (g_ald 0 13))) none) (cond (Nat.beq pc 13) (some (.inl (g_gfr 3 0 16))) none)) (cond (Nat.ble pc 16) (cond (Nat.beq pc 16) (some (.inl (g_ild 1 17))) none) (cond (Nat.beq pc 17) (some (.inr (.inl (12, 2, 20)))) none))) (cond (Nat.ble pc 21) (cond (Nat.ble pc 20) (cond (Nat.beq pc 20) (some (.inl (g_ist 2 21))) none) (cond (Nat.beq pc 21) (some (.inl (g_ild 2 22))) none)) (cond (Nat.ble pc 22) (cond (Nat.beq pc 22) (some (.inl (g_push (-9) 24))) none) (cond (Nat.beq pc 24) (some (.inl (g_br2 (fun x y => decide (¬ x = y)) 30 27))) none))))) (cond (Nat.ble pc 38) (cond (Nat.ble pc 30) (cond (Nat.ble pc 27) (cond (Nat.beq pc 27) (some (.inl (g_push (-2) 29))) none) (cond (Nat.ble pc 29) (cond (Nat.beq pc 29) (some (.inr (.inr 1))) none) (cond (Nat.beq pc 30) (some (.inl (g_ald 0 31))) none))) (cond (Nat.ble pc 34) (cond (Nat.ble pc 31) (cond (Nat.beq pc 31) (some (.inr (.inl (58, 1, 34)))) none) (cond (Nat.beq pc 34) (some (.inl (g_ald 0 35))) none)) (cond (Nat.ble pc 35) (cond (Nat.beq pc 35) (some (.inl (g_gfr 3 0 38))) none) (cond (Nat.beq pc 38) (some (.inr (.inl (15, 1, 41)))) none)))) (cond (Nat.ble pc 46) (cond (Nat.ble pc 42) (cond (Nat.ble pc 41) (cond (Nat.beq pc 41) (some (.inl (g_ald 0 42))) none) (cond (Nat.beq pc 42) (some (.inl (g_gfr 3 0 45))) none)) (cond (Nat.ble pc 45) (cond (Nat.beq pc 45) (some (.inl (g_ild 2 46))) none) (cond (Nat.beq pc 46) (some (.inr (.inl (14, 2, 49)))) none))) (cond (Nat.ble pc 50) (cond (Nat.ble pc 49) (cond (Nat.beq pc 49) (some (.inl (g_ald 0 50))) none) (cond (Nat.beq pc 50) (some (.inl (g_gfr 3 0 53))) none)) (cond (Nat.ble pc 53) (cond (Nat.beq pc 53) (some (.inl (g_gfi 1 5 56))) none) (cond (Nat.beq pc 56) (some (.inr (.inr 1))) none)))))
def kp_40 (pc : Nat) : Option KOp := cond (Nat.ble pc 71) (cond (Nat.ble pc 34) (cond (Nat.ble pc 13) (cond (Nat.ble pc 5) (cond (Nat.ble pc 1) (cond (Nat.ble pc 0) (cond (Nat.beq pc 0) (some (.inl (g_ild 1 1))) none) (cond (Nat.beq pc 1) (some (.inl (g_push 1 2))) none)) (cond (Nat.ble pc 2) (cond (Nat.beq pc 2) (some (.inl (g_push 9999 5))) none) (cond (Nat.beq pc 5) (some (.inr (.inl (59, 3, 8)))) none))) (cond (Nat.ble pc 11) (cond (Nat.ble pc 8) (cond (Nat.beq pc 8) (some (.inl (g_br1 (fun x => decide (x = 0)) 43 11))) none) (cond (Nat.beq pc 11) (some (.inl (g_ild 2 12))) none)) (cond (Nat.ble pc 12) (cond (Nat.beq pc 12) (some (.inl (g_push 0 13))) none) (cond (Nat.beq pc 13) (some (.inl (g_push 200 16))) none)))) (cond (Nat.ble pc 23) (cond (Nat.ble pc 19) (cond (Nat.ble pc 16) (cond (Nat.beq pc 16) (some (.inr (.inl (59, 3, 19)))) none) (cond (Nat.beq pc 19) (some (.inl (g_br1 (fun x => decide (x = 0)) 43 22))) none)) (cond (Nat.ble pc 22) (cond (Nat.beq pc 22) (some (.inl (g_ild 3 23))) none) (cond (Nat.beq pc 23) (some (.inl (g_push 0 24))) none))) (cond (Nat.ble pc 26) (cond (Nat.ble pc 24) (cond (Nat.beq pc 24) (some (.inl (g_push 100 26))) none) (cond (Nat.beq pc 26) (some (.inr (.inl (59, 3, 29)))) none)) (cond (Nat.ble pc 29) (cond (Nat.beq pc 29) (some (.inl (g_br1 (fun x => decide (x = 0)) 43 32))) none) (cond (Nat.ble pc 32) (cond (Nat.beq pc 32) (some (.inl (g_ild 4 34))) none) (cond (Nat.beq pc 34) (some (.inl (g_push 0 35))) none)))))) (cond (Nat.ble pc 50) (cond (Nat.ble pc 43) (cond (Nat.ble pc 37) (cond (Nat.ble pc 35) (cond (Nat.beq pc 35) (some (.inl (g_push 100 37))) none) (cond (Nat.beq pc 37) (some (.inr (.inl (59, 3, 40)))) none)) (cond (Nat.ble pc 40) (cond (Nat.beq pc 40) (some (.inl (g_br1 (fun x => decide (¬ x = 0)) 45 43))) none) (cond (Nat.beq pc 43) (some (.inl (g_push (-1) 44))) none))) (cond (Nat.ble pc 45) (cond (Nat.ble pc 44) (cond (Nat.beq pc 44) (some (.inr (.inr 1))) none) (cond (Nat.beq pc 45) (some (.inl (g_ald 0 46))) none)) (cond (Nat.ble pc 46) (cond (Nat.beq pc 46) (some (.inr (.inl (58, 1, 49)))) none) (cond (Nat.ble pc 49) (cond (Nat.beq pc 49) (some (.inl (g_ald 0 50))) none) (cond (Nat.beq pc 50) (some (.inl (g_gfr 3 0 53))) none))))) (cond (Nat.ble pc 60) (cond (Nat.ble pc 56) (cond (Nat.ble pc 53) (cond (Nat.beq pc 53) (some (.inl (g_gfi 1 6 56))) none) (cond (Nat.beq pc 56) (some (.inl (g_ild 1 57))) none)) (cond (Nat.ble pc 57) (cond (Nat.beq pc 57) (some (.inl (g_br2 (fun x y => decide (¬ x = y)) 98 60))) none) (cond (Nat.beq pc 60) (some (.inl (g_ald 0 61))) none))) (cond (Nat.ble pc 64) (cond (Nat.ble pc 61) (cond (Nat.beq pc 61) (some (.inl (g_gfr 3 0 64))) none) (cond (Nat.beq pc 64) (some (.inl (g_gfi 1 7 67))) none)) (cond (Nat.ble pc 67) (cond (Nat.beq pc 67) (some (.inl (g_ild 2 68))) none) (cond (Nat.ble pc 68) (cond (Nat.beq pc 68) (some (.inl (g_br2 (fun x y => decide (¬ x = y)) 98 71))) none) (cond (Nat.beq pc 71) (some (.inl (g_ald 0 72))) none))))))) (cond (Nat.ble pc 106) (cond (Nat.ble pc 89) (cond (Nat.ble pc 79) (cond (Nat.ble pc 75) (cond (Nat.ble pc 72) (cond (Nat.beq pc 72) (some (.inl (g_gfr 3 0 75))) none) (cond (Nat.beq pc 75) (some (.inl (g_gfi 1 8 78))) none)) (cond (Nat.ble pc 78) (cond (Nat.beq pc 78) (some (.inl (g_ild 3 79))) none) (cond (Nat.beq pc 79) (some (.inl (g_br2 (fun x y => decide (¬ x = y)) 98 82))) none))) (cond (Nat.ble pc 83) (cond (Nat.ble pc 82) (cond (Nat.beq pc 82) (some (.inl (g_ald 0 83))) none) (cond (Nat.beq pc 83) (some (.inl (g_gfr 3 0 86))) none)) (cond (Nat.ble pc 86) (cond (Nat.beq pc 86) (some (.inl (g_gfi 1 9 89))) none) (cond (Nat.beq pc 89) (some (.inl (g_ild 4 91))) none)))) (cond (Nat.ble pc 98) (cond (Nat.ble pc 94) (cond (Nat.ble pc 91) (cond (Nat.beq pc 91) (some (.inl (g_br2 (fun x y => decide (¬ x = y)) 98 94))) none) (cond (Nat.beq pc 94) (some (.inl (g_push 1 95))) none)) (cond (Nat.ble pc 95) (cond (Nat.beq pc 95) (some (.inl (g_goto 99))) none) (cond (Nat.beq pc 98) (some (.inl (g_push 0 99))) none))) (cond (Nat.ble pc 101) (cond (Nat.ble pc 99) (cond (Nat.beq pc 99) (some (.inl (g_ist 5 101))) none) (cond (Nat.beq pc 101) (some (.inl (g_ald 0 102))) none)) (cond (Nat.ble pc 102) (cond (Nat.beq pc 102) (some (.inl (g_gfr 3 0 105))) none) (cond (Nat.ble pc 105) (cond (Nat.beq pc 105) (some (.inl (g_ild 1 106))) none) (cond (Nat.beq pc 106) (some (.inl (g_pfi 1 6 109))) none)))))) (cond (Nat.ble pc 125) (cond (Nat.ble pc 114) (cond (Nat.ble pc 110) (cond (Nat.ble pc 109) (cond (Nat.beq pc 109) (some (.inl (g_ald 0 110))) none) (cond (Nat.beq pc 110) (some (.inl (g_gfr 3 0 113))) none)) (cond (Nat.ble pc 113) (cond (Nat.beq pc 113) (some (.inl (g_ild 2 114))) none) (cond (Nat.beq pc 114) (some (.inl (g_pfi 1 7 117))) none))) (cond (Nat.ble pc 118) (cond (Nat.ble pc 117) (cond (Nat.beq pc 117) (some (.inl (g_ald 0 118))) none) (cond (Nat.beq pc 118) (some (.inl (g_gfr 3 0 121))) none)) (cond (Nat.ble pc 121) (cond (Nat.beq pc 121) (some (.inl (g_ild 3 122))) none) (cond (Nat.ble pc 122) (cond (Nat.beq pc 122) (some (.inl (g_pfi 1 8 125))) none) (cond (Nat.beq pc 125) (some (.inl (g_ald 0 126))) none))))) (cond (Nat.ble pc 134) (cond (Nat.ble pc 129) (cond (Nat.ble pc 126) (cond (Nat.beq pc 126) (some (.inl (g_gfr 3 0 129))) none) (cond (Nat.beq pc 129) (some (.inl (g_ild 4 131))) none)) (cond (Nat.ble pc 131) (cond (Nat.beq pc 131) (some (.inl (g_pfi 1 9 134))) none) (cond (Nat.beq pc 134) (some (.inl (g_ild 5 136))) none))) (cond (Nat.ble pc 139) (cond (Nat.ble pc 136) (cond (Nat.beq pc 136) (some (.inl (g_br1 (fun x => decide (x = 0)) 143 139))) none) (cond (Nat.beq pc 139) (some (.inl (g_push 0 140))) none)) (cond (Nat.ble pc 140) (cond (Nat.beq pc 140) (some (.inl (g_goto 144))) none) (cond (Nat.ble pc 143) (cond (Nat.beq pc 143) (some (.inl (g_push 1 144))) none) (cond (Nat.beq pc 144) (some (.inr (.inr 1))) none)))))))
def kp_41 (pc : Nat) : Option KOp := cond (Nat.ble pc 51) (cond (Nat.ble pc 23) (cond (Nat.ble pc 10) (cond (Nat.ble pc 2) (cond (Nat.ble pc 0) (cond (Nat.beq pc 0) (some (.inl (g_ild 1 1))) none) (cond (Nat.ble pc 1) (cond (Nat.beq pc 1) (some (.inl (g_push 1 2))) none) (cond (Nat.beq pc 2) (some (.inl (g_push 9 4))) none))) (cond (Nat.ble pc 4) (cond (Nat.beq pc 4) (some (.inr (.inl (59, 3, 7)))) none) (cond (Nat.ble pc 7) (cond (Nat.beq pc 7) (some (.inl (g_br1 (fun x => decide (x = 0)) 32 10))) none) (cond (Nat.beq pc 10) (some (.inl (g_ild 2 11))) none)))) (cond (Nat.ble pc 15) (cond (Nat.ble pc 11) (cond (Nat.beq pc 11) (some (.inl (g_push 0 12))) none) (cond (Nat.ble pc 12) (cond (Nat.beq pc 12) (some (.inl (g_push 1000 15))) none) (cond (Nat.beq pc 15) (some (.inr (.inl (59, 3, 18)))) none))) (cond (Nat.ble pc 21) (cond (Nat.ble pc 18) (cond (Nat.beq pc 18) (some (.inl (g_br1 (fun x => decide (x = 0)) 32 21))) none) (cond (Nat.beq pc 21) (some (.inl (g_ild 3 22))) none)) (cond (Nat.ble pc 22) (cond (Nat.beq pc 22) (some (.inl (g_ild 2 23))) none) (cond (Nat.beq pc 23) (some (.inl (g_push 1000 26))) none))))) (cond (Nat.ble pc 38) (cond (Nat.ble pc 32) (cond (Nat.ble pc 26) (cond (Nat.beq pc 26) (some (.inr (.inl (59, 3, 29)))) none) (cond (Nat.ble pc 29) (cond (Nat.beq pc 29) (some (.inl (g_br1 (fun x => decide (¬ x = 0)) 34 32))) none) (cond (Nat.beq pc 32) (some (.inl (g_push (-1) 33))) none))) (cond (Nat.ble pc 34) (cond (Nat.ble pc 33) (cond (Nat.beq pc 33) (some (.inr (.inr 1))) none) (cond (Nat.beq pc 34) (some (.inl (g_ald 0 35))) none)) (cond (Nat.ble pc 35) (cond (Nat.beq pc 35) (some (.inr (.inl (58, 1, 38)))) none) (cond (Nat.beq pc 38) (some (.inl (g_ald 0 39))) none)))) (cond (Nat.ble pc 45) (cond (Nat.ble pc 39) (cond (Nat.beq pc 39) (some (.inl (g_gfr 3 0 42))) none) (cond (Nat.ble pc 42) (cond (Nat.beq pc 42) (some (.inl (g_gfr 1 3 45))) none) (cond (Nat.beq pc 45) (some (.inl (g_ild 1 46))) none))) (cond (Nat.ble pc 47) (cond (Nat.ble pc 46) (cond (Nat.beq pc 46) (some (.inl (g_pald 5 47))) none) (cond (Nat.beq pc 47) (some (.inl (g_ild 2 48))) none)) (cond (Nat.ble pc 48) (cond (Nat.beq pc 48) (some (.inl (g_br2 (fun x y => decide (¬ x = y)) 68 51))) none) (cond (Nat.beq pc 51) (some (.inl (g_ald 0 52))) none)))))) (cond (Nat.ble pc 78) (cond (Nat.ble pc 64) (cond (Nat.ble pc 58) (cond (Nat.ble pc 52) (cond (Nat.beq pc 52) (some (.inl (g_gfr 3 0 55))) none) (cond (Nat.ble pc 55) (cond (Nat.beq pc 55) (some (.inl (g_gfr 1 4 58))) none) (cond (Nat.beq pc 58) (some (.inl (g_ild 1 59))) none))) (cond (Nat.ble pc 60) (cond (Nat.ble pc 59) (cond (Nat.beq pc 59) (some (.inl (g_pald 5 60))) none) (cond (Nat.beq pc 60) (some (.inl (g_ild 3 61))) none)) (cond (Nat.ble pc 61) (cond (Nat.beq pc 61) (some (.inl (g_br2 (fun x y => decide (¬ x = y)) 68 64))) none) (cond (Nat.beq pc 64) (some (.inl (g_push 1 65))) none)))) (cond (Nat.ble pc 69) (cond (Nat.ble pc 65) (cond (Nat.beq pc 65) (some (.inl (g_goto 69))) none) (cond (Nat.ble pc 68) (cond (Nat.beq pc 68) (some (.inl (g_push 0 69))) none) (cond (Nat.beq pc 69) (some (.inl (g_ist 4 71))) none))) (cond (Nat.ble pc 72) (cond (Nat.ble pc 71) (cond (Nat.beq pc 71) (some (.inl (g_ald 0 72))) none) (cond (Nat.beq pc 72) (some (.inl (g_gfr 3 0 75))) none)) (cond (Nat.ble pc 75) (cond (Nat.beq pc 75) (some (.inl (g_gfr 1 3 78))) none) (cond (Nat.beq pc 78) (some (.inl (g_ild 1 79))) none))))) (cond (Nat.ble pc 89) (cond (Nat.ble pc 81) (cond (Nat.ble pc 79) (cond (Nat.beq pc 79) (some (.inl (g_ild 2 80))) none) (cond (Nat.ble pc 80) (cond (Nat.beq pc 80) (some (.inl (g_past 5 81))) none) (cond (Nat.beq pc 81) (some (.inl (g_ald 0 82))) none))) (cond (Nat.ble pc 85) (cond (Nat.ble pc 82) (cond (Nat.beq pc 82) (some (.inl (g_gfr 3 0 85))) none) (cond (Nat.beq pc 85) (some (.inl (g_gfr 1 4 88))) none)) (cond (Nat.ble pc 88) (cond (Nat.beq pc 88) (some (.inl (g_ild 1 89))) none) (cond (Nat.beq pc 89) (some (.inl (g_ild 3 90))) none)))) (cond (Nat.ble pc 93) (cond (Nat.ble pc 90) (cond (Nat.beq pc 90) (some (.inl (g_past 5 91))) none) (cond (Nat.ble pc 91) (cond (Nat.beq pc 91) (some (.inl (g_ild 4 93))) none) (cond (Nat.beq pc 93) (some (.inl (g_br1 (fun x => decide (x = 0)) 100 96))) none))) (cond (Nat.ble pc 97) (cond (Nat.ble pc 96) (cond (Nat.beq pc 96) (some (.inl (g_push 0 97))) none) (cond (Nat.beq pc 97) (some (.inl (g_goto 101))) none)) (cond (Nat.ble pc 100) (cond (Nat.beq pc 100) (some (.inl (g_push 1 101))) none) (cond (Nat.beq pc 101) (some (.inr (.inr 1))) none))))))
def kp_42 (pc : Nat) : Option KOp := cond (Nat.ble pc 96) (cond (Nat.ble pc 72) (cond (Nat.ble pc 60) (cond (Nat.ble pc 1) (cond (Nat.ble pc 0) (cond (Nat.beq pc 0) (some (.inl (g_ild 1 1))) none) (cond (Nat.beq pc 1) (some (.inl (g_tsw 9 [56, 64, 72, 80, 88, 96, 112, 120, 128, 136] 141))) none)) (cond (Nat.ble pc 56) (cond (Nat.beq pc 56) (some (.inl (g_ald 0 57))) none) (cond (Nat.ble pc 57) (cond (Nat.beq pc 57) (some (.inl (g_gfr 3 0 60))) none) (cond (Nat.beq pc 60) (some (.inl (g_gfi 1 5 63))) none)))) (cond (Nat.ble pc 65) (cond (Nat.ble pc 63) (cond (Nat.beq pc 63) (some (.inr (.inr 1))) none) (cond (Nat.ble pc 64) (cond (Nat.beq pc 64) (some (.inl (g_ald 0 65))) none) (cond (Nat.beq pc 65) (some (.inl (g_gfr 3 0 68))) none))) (cond (Nat.ble pc 68) (cond (Nat.beq pc 68) (some (.inl (g_gfi 1 6 71))) none) (cond (Nat.ble pc 71) (cond (Nat.beq pc 71) (some (.inr (.inr 1))) none) (cond (Nat.beq pc 72) (some (.inl (g_ald 0 73))) none))))) (cond (Nat.ble pc 84) (cond (Nat.ble pc 79) (cond (Nat.ble pc 73) (cond (Nat.beq pc 73) (some (.inl (g_gfr 3 0 76))) none) (cond (Nat.ble pc 76) (cond (Nat.beq pc 76) (some (.inl (g_gfi 1 7 79))) none) (cond (Nat.beq pc 79) (some (.inr (.inr 1))) none))) (cond (Nat.ble pc 80) (cond (Nat.beq pc 80) (some (.inl (g_ald 0 81))) none) (cond (Nat.ble pc 81) (cond (Nat.beq pc 81) (some (.inl (g_gfr 3 0 84))) none) (cond (Nat.beq pc 84) (some (.inl (g_gfi 1 8 87))) none)))) (cond (Nat.ble pc 89) (cond (Nat.ble pc 87) (cond (Nat.beq pc 87) (some (.inr (.inr 1))) none) (cond (Nat.ble pc 88) (cond (Nat.beq pc 88) (some (.inl (g_ald 0 89))) none) (cond (Nat.beq pc 89) (some (.inl (g_gfr 3 0 92))) none))) (cond (Nat.ble pc 92) (cond (Nat.beq pc 92) (some (.inl (g_gfi 1 9 95))) none) (cond (Nat.ble pc 95) (cond (Nat.beq pc 95) (some (.inr (.inr 1))) none) (cond (Nat.beq pc 96) (some (.inl (g_ald 0 97))) none)))))) (cond (Nat.ble pc 120) (cond (Nat.ble pc 110) (cond (Nat.ble pc 103) (cond (Nat.ble pc 97) (cond (Nat.beq pc 97) (some (.inl (g_gfr 3 0 100))) none) (cond (Nat.ble pc 100) (cond (Nat.beq pc 100) (some (.inl (g_gfi 1 10 103))) none) (cond (Nat.beq pc 103) (some (.inl (g_br1 (fun x => decide (x = 0)) 110 106))) none))) (cond (Nat.ble pc 106) (cond (Nat.beq pc 106) (some (.inl (g_push 1 107))) none) (cond (Nat.ble pc 107) (cond (Nat.beq pc 107) (some (.inl (g_goto 111))) none) (cond (Nat.beq pc 110) (some (.inl (g_push 0 111))) none)))) (cond (Nat.ble pc 113) (cond (Nat.ble pc 111) (cond (Nat.beq pc 111) (some (.inr (.inr 1))) none) (cond (Nat.ble pc 112) (cond (Nat.beq pc 112) (some (.inl (g_ald 0 113))) none) (cond (Nat.beq pc 113) (some (.inl (g_gfr 3 0 116))) none))) (cond (Nat.ble pc 116) (cond (Nat.beq pc 116) (some (.inl (g_gfi 1 12 119))) none) (cond (Nat.ble pc 119) (cond (Nat.beq pc 119) (some (.inr (.inr 1))) none) (cond (Nat.beq pc 120) (some (.inl (g_ald 0 121))) none))))) (cond (Nat.ble pc 132) (cond (Nat.ble pc 127) (cond (Nat.ble pc 121) (cond (Nat.beq pc 121) (some (.inl (g_gfr 3 0 124))) none) (cond (Nat.ble pc 124) (cond (Nat.beq pc 124) (some (.inl (g_gfi 1 13 127))) none) (cond (Nat.beq pc 127) (some (.inr (.inr 1))) none))) (cond (Nat.ble pc 128) (cond (Nat.beq pc 128) (some (.inl (g_ald 0 129))) none) (cond (Nat.ble pc 129) (cond (Nat.beq pc 129) (some (.inl (g_gfr 3 3 132))) none) (cond (Nat.beq pc 132) (some (.inl (g_gfi 0 3 135))) none)))) (cond (Nat.ble pc 137) (cond (Nat.ble pc 135) (cond (Nat.beq pc 135) (some (.inr (.inr 1))) none) (cond (Nat.ble pc 136) (cond (Nat.beq pc 136) (some (.inl (g_ald 0 137))) none) (cond (Nat.beq pc 137) (some (.inl (g_gfi 3 5 140))) none))) (cond (Nat.ble pc 140) (cond (Nat.beq pc 140) (some (.inr (.inr 1))) none) (cond (Nat.ble pc 141) (cond (Nat.beq pc 141) (some (.inl (g_push (-1) 142))) none) (cond (Nat.beq pc 142) (some (.inr (.inr 1))) none))))))
def kp_43 (pc : Nat) : Option KOp := cond (Nat.ble pc 64) (cond (Nat.ble pc 14) (cond (Nat.ble pc 5) (cond (Nat.ble pc 1) (cond (Nat.ble pc 0) (cond (Nat.beq pc 0) (some (.inl (g_ald 0 1))) none) (cond (Nat.beq pc 1) (some (.inl (g_gfr 3 0 4))) none)) (cond (Nat.ble pc 4) (cond (Nat.beq pc 4) (some (.inl (g_ild 1 5))) none) (cond (Nat.beq pc 5) (some (.inr (.inl (9, 2, 8)))) none))) (cond (Nat.ble pc 11) (cond (Nat.ble pc 8) (cond (Nat.beq pc 8) (some (.inl (g_br1 (fun x => decide (¬ x = 0)) 13 11))) none) (cond (Nat.beq pc 11) (some (.inl (g_push (-1) 12))) none)) (cond (Nat.ble pc 12) (cond (Nat.beq pc 12) (some (.inr (.inr 1))) none) (cond (Nat.ble pc 13) (cond (Nat.beq pc 13) (some (.inl (g_ald 0 14))) none) (cond (Nat.beq pc 14) (some (.inl (g_gfr 3 0 17))) none))))) (cond (Nat.ble pc 22) (cond (Nat.ble pc 20) (cond (Nat.ble pc 17) (cond (Nat.beq pc 17) (some (.inl (g_gfr 1 2 20))) none) (cond (Nat.beq pc 20) (some (.inl (g_ild 1 21))) none)) (cond (Nat.ble pc 21) (cond (Nat.beq pc 21) (some (.inl (g_aald 9 22))) none) (cond (Nat.beq pc 22) (some (.inl (g_ast 3 23))) none))) (cond (Nat.ble pc 24) (cond (Nat.ble pc 23) (cond (Nat.beq pc 23) (some (.inl (g_ild 2 24))) none) (cond (Nat.beq pc 24) (some (.inl (g_tsw 4 [60, 65, 73, 78, 83] 95))) none)) (cond (Nat.ble pc 60) (cond (Nat.beq pc 60) (some (.inl (g_ald 3 61))) none) (cond (Nat.ble pc 61) (cond (Nat.beq pc 61) (some (.inl (g_gfi 2 1 64))) none) (cond (Nat.beq pc 64) (some (.inr (.inr 1))) none)))))) (cond (Nat.ble pc 79) (cond (Nat.ble pc 72) (cond (Nat.ble pc 66) (cond (Nat.ble pc 65) (cond (Nat.beq pc 65) (some (.inl (g_ald 3 66))) none) (cond (Nat.beq pc 66) (some (.inl (g_gfr 2 0 69))) none)) (cond (Nat.ble pc 69) (cond (Nat.beq pc 69) (some (.inr (.inl (62, 1, 72)))) none) (cond (Nat.beq pc 72) (some (.inr (.inr 1))) none))) (cond (Nat.ble pc 74) (cond (Nat.ble pc 73) (cond (Nat.beq pc 73) (some (.inl (g_ald 3 74))) none) (cond (Nat.beq pc 74) (some (.inl (g_gfi 2 2 77))) none)) (cond (Nat.ble pc 77) (cond (Nat.beq pc 77) (some (.inr (.inr 1))) none) (cond (Nat.ble pc 78) (cond (Nat.beq pc 78) (some (.inl (g_ald 3 79))) none) (cond (Nat.beq pc 79) (some (.inl (g_gfi 2 3 82))) none))))) (cond (Nat.ble pc 85) (cond (Nat.ble pc 83) (cond (Nat.ble pc 82) (cond (Nat.beq pc 82) (some (.inr (.inr 1))) none) (cond (Nat.beq pc 83) (some (.inl (g_ald 3 84))) none)) (cond (Nat.ble pc 84) (cond (Nat.beq pc 84) (some (.inl (g_ald 0 85))) none) (cond (Nat.beq pc 85) (some (.inl (g_gfr 3 0 88))) none))) (cond (Nat.ble pc 91) (cond (Nat.ble pc 88) (cond (Nat.beq pc 88) (some (.inl (g_gfi 1 6 91))) none) (cond (Nat.beq pc 91) (some (.inr (.inl (24, 2, 94)))) none)) (cond (Nat.ble pc 94) (cond (Nat.beq pc 94) (some (.inr (.inr 1))) none) (cond (Nat.ble pc 95) (cond (Nat.beq pc 95) (some (.inl (g_push (-1) 96))) none) (cond (Nat.beq pc 96) (some (.inr (.inr 1))) none))))))
def kp_44 (pc : Nat) : Option KOp := cond (Nat.ble pc 18) (cond (Nat.ble pc 5) (cond (Nat.ble pc 1) (cond (Nat.ble pc 0) (cond (Nat.beq pc 0) (some (.inl (g_ald 0 1))) none) (cond (Nat.beq pc 1) (some (.inl (g_gfr 3 0 4))) none)) (cond (Nat.ble pc 4) (cond (Nat.beq pc 4) (some (.inl (g_ild 1 5))) none) (cond (Nat.beq pc 5) (some (.inr (.inl (9, 2, 8)))) none))) (cond (Nat.ble pc 11) (cond (Nat.ble pc 8) (cond (Nat.beq pc 8) (some (.inl (g_br1 (fun x => decide (x = 0)) 18 11))) none) (cond (Nat.beq pc 11) (some (.inl (g_ild 2 12))) none)) (cond (Nat.ble pc 12) (cond (Nat.beq pc 12) (some (.inr (.inl (60, 1, 15)))) none) (cond (Nat.ble pc 15) (cond (Nat.beq pc 15) (some (.inl (g_br1 (fun x => decide (¬ x = 0)) 20 18))) none) (cond (Nat.beq pc 18) (some (.inl (g_push (-1) 19))) none))))) (cond (Nat.ble pc 27) (cond (Nat.ble pc 20) (cond (Nat.ble pc 19) (cond (Nat.beq pc 19) (some (.inr (.inr 1))) none) (cond (Nat.beq pc 20) (some (.inl (g_ald 0 21))) none)) (cond (Nat.ble pc 21) (cond (Nat.beq pc 21) (some (.inl (g_gfr 3 0 24))) none) (cond (Nat.ble pc 24) (cond (Nat.beq pc 24) (some (.inl (g_gfr 1 2 27))) none) (cond (Nat.beq pc 27) (some (.inl (g_ild 1 28))) none)))) (cond (Nat.ble pc 29) (cond (Nat.ble pc 28) (cond (Nat.beq pc 28) (some (.inl (g_aald 9 29))) none) (cond (Nat.beq pc 29) (some (.inl (g_gfr 2 0 32))) none)) (cond (Nat.ble pc 32) (cond (Nat.beq pc 32) (some (.inl (g_ild 2 33))) none) (cond (Nat.ble pc 33) (cond (Nat.beq pc 33) (some (.inl (g_pald 5 34))) none) (cond (Nat.beq pc 34) (some (.inr (.inr 1))) none)))))
def kp_45 (pc : Nat) : Option KOp := cond (Nat.ble pc 25) (cond (Nat.ble pc 11) (cond (Nat.ble pc 4) (cond (Nat.ble pc 0) (cond (Nat.beq pc 0) (some (.inl (g_ald 0 1))) none) (cond (Nat.ble pc 1) (cond (Nat.beq pc 1) (some (.inl (g_gfr 3 0 4))) none) (cond (Nat.beq pc 4) (some (.inl (g_gfr 1 0 7))) none))) (cond (Nat.ble pc 7) (cond (Nat.beq pc 7) (some (.inr (.inl (62, 1, 10)))) none) (cond (Nat.ble pc 10) (cond (Nat.beq pc 10) (some (.inl (g_ist 1 11))) none) (cond (Nat.beq pc 11) (some (.inl (g_ald 0 12))) none)))) (cond (Nat.ble pc 18) (cond (Nat.ble pc 12) (cond (Nat.beq pc 12) (some (.inl (g_gfr 3 0 15))) none) (cond (Nat.ble pc 15) (cond (Nat.beq pc 15) (some (.inl (g_gfi 1 5 18))) none) (cond (Nat.beq pc 18) (some (.inl (g_br1 (fun x => decide (x = 0)) 25 21))) none))) (cond (Nat.ble pc 21) (cond (Nat.beq pc 21) (some (.inl (g_ild 1 22))) none) (cond (Nat.ble pc 22) (cond (Nat.beq pc 22) (some (.inl (g_br1 (fun x => decide (¬ x = 0)) 28 25))) none) (cond (Nat.beq pc 25) (some (.inl (g_push (-2) 27))) none))))) (cond (Nat.ble pc 36) (cond (Nat.ble pc 29) (cond (Nat.ble pc 27) (cond (Nat.beq pc 27) (some (.inr (.inr 1))) none) (cond (Nat.ble pc 28) (cond (Nat.beq pc 28) (some (.inl (g_ald 0 29))) none) (cond (Nat.beq pc 29) (some (.inr (.inl (58, 1, 32)))) none))) (cond (Nat.ble pc 32) (cond (Nat.beq pc 32) (some (.inl (g_ald 0 33))) none) (cond (Nat.ble pc 33) (cond (Nat.beq pc 33) (some (.inl (g_gfr 3 0 36))) none) (cond (Nat.beq pc 36) (some (.inr (.inl (15, 1, 39)))) none)))) (cond (Nat.ble pc 43) (cond (Nat.ble pc 39) (cond (Nat.beq pc 39) (some (.inl (g_ald 0 40))) none) (cond (Nat.ble pc 40) (cond (Nat.beq pc 40) (some (.inl (g_gfr 3 0 43))) none) (cond (Nat.beq pc 43) (some (.inl (g_ild 1 44))) none))) (cond (Nat.ble pc 44) (cond (Nat.beq pc 44) (some (.inr (.inl (16, 2, 47)))) none) (cond (Nat.ble pc 47) (cond (Nat.beq pc 47) (some (.inl (g_ild 1 48))) none) (cond (Nat.beq pc 48) (some (.inr (.inr 1))) none)))))
def kp_46 (pc : Nat) : Option KOp := cond (Nat.ble pc 30) (cond (Nat.ble pc 13) (cond (Nat.ble pc 5) (cond (Nat.ble pc 1) (cond (Nat.ble pc 0) (cond (Nat.beq pc 0) (some (.inl (g_ild 1 1))) none) (cond (Nat.beq pc 1) (some (.inl (g_push 1 2))) none)) (cond (Nat.ble pc 2) (cond (Nat.beq pc 2) (some (.inl (g_push 200 5))) none) (cond (Nat.beq pc 5) (some (.inr (.inl (59, 3, 8)))) none))) (cond (Nat.ble pc 11) (cond (Nat.ble pc 8) (cond (Nat.beq pc 8) (some (.inl (g_br1 (fun x => decide (¬ x = 0)) 13 11))) none) (cond (Nat.beq pc 11) (some (.inl (g_push (-1) 12))) none)) (cond (Nat.ble pc 12) (cond (Nat.beq pc 12) (some (.inr (.inr 1))) none) (cond (Nat.beq pc 13) (some (.inl (g_ald 0 14))) none)))) (cond (Nat.ble pc 23) (cond (Nat.ble pc 17) (cond (Nat.ble pc 14) (cond (Nat.beq pc 14) (some (.inl (g_gfr 3 0 17))) none) (cond (Nat.beq pc 17) (some (.inl (g_gfi 1 10 20))) none)) (cond (Nat.ble pc 20) (cond (Nat.beq pc 20) (some (.inl (g_br1 (fun x => decide (¬ x = 0)) 26 23))) none) (cond (Nat.beq pc 23) (some (.inl (g_push (-2) 25))) none))) (cond (Nat.ble pc 26) (cond (Nat.ble pc 25) (cond (Nat.beq pc 25) (some (.inr (.inr 1))) none) (cond (Nat.beq pc 26) (some (.inl (g_ald 0 27))) none)) (cond (Nat.ble pc 27) (cond (Nat.beq pc 27) (some (.inr (.inl (58, 1, 30)))) none) (cond (Nat.beq pc 30) (some (.inl (g_push 0 31))) none))))) (cond (Nat.ble pc 40) (cond (Nat.ble pc 34) (cond (Nat.ble pc 32) (cond (Nat.ble pc 31) (cond (Nat.beq pc 31) (some (.inl (g_ist 2 32))) none) (cond (Nat.beq pc 32) (some (.inl (g_push 0 33))) none)) (cond (Nat.ble pc 33) (cond (Nat.beq pc 33) (some (.inl (g_ist 3 34))) none) (cond (Nat.beq pc 34) (some (.inl (g_ild 3 35))) none))) (cond (Nat.ble pc 36) (cond (Nat.ble pc 35) (cond (Nat.beq pc 35) (some (.inl (g_ild 1 36))) none) (cond (Nat.beq pc 36) (some (.inl (g_br2 (fun x y => decide (y ≤ x)) 55 39))) none)) (cond (Nat.ble pc 39) (cond (Nat.beq pc 39) (some (.inl (g_ild 2 40))) none) (cond (Nat.beq pc 40) (some (.inl (g_ald 0 41))) none)))) (cond (Nat.ble pc 48) (cond (Nat.ble pc 44) (cond (Nat.ble pc 41) (cond (Nat.beq pc 41) (some (.inl (g_gfr 3 0 44))) none) (cond (Nat.beq pc 44) (some (.inr (.inl (17, 1, 47)))) none)) (cond (Nat.ble pc 47) (cond (Nat.beq pc 47) (some (.inl (g_iop (fun x y => x + y) 48))) none) (cond (Nat.beq pc 48) (some (.inl (g_ist 2 49))) none))) (cond (Nat.ble pc 52) (cond (Nat.ble pc 49) (cond (Nat.beq pc 49) (some (.inl (g_iinc 3 1 52))) none) (cond (Nat.beq pc 52) (some (.inl (g_goto 34))) none)) (cond (Nat.ble pc 55) (cond (Nat.beq pc 55) (some (.inl (g_ild 2 56))) none) (cond (Nat.beq pc 56) (some (.inr (.inr 1))) none)))))
def kp_47 (pc : Nat) : Option KOp := cond (Nat.ble pc 34) (cond (Nat.ble pc 14) (cond (Nat.ble pc 5) (cond (Nat.ble pc 1) (cond (Nat.ble pc 0) (cond (Nat.beq pc 0) (some (.inl (g_ald 0 1))) none) (cond (Nat.beq pc 1) (some (.inl (g_gfr 3 0 4))) none)) (cond (Nat.ble pc 4) (cond (Nat.beq pc 4) (some (.inl (g_ild 1 5))) none) (cond (Nat.beq pc 5) (some (.inr (.inl (9, 2, 8)))) none))) (cond (Nat.ble pc 11) (cond (Nat.ble pc 8) (cond (Nat.beq pc 8) (some (.inl (g_br1 (fun x => decide (¬ x = 0)) 13 11))) none) (cond (Nat.beq pc 11) (some (.inl (g_push (-1) 12))) none)) (cond (Nat.ble pc 12) (cond (Nat.beq pc 12) (some (.inr (.inr 1))) none) (cond (Nat.ble pc 13) (cond (Nat.beq pc 13) (some (.inl (g_ald 0 14))) none) (cond (Nat.beq pc 14) (some (.inl (g_gfr 3 0 17))) none))))) (cond (Nat.ble pc 25) (cond (Nat.ble pc 20) (cond (Nat.ble pc 17) (cond (Nat.beq pc 17) (some (.inl (g_gfi 1 10 20))) none) (cond (Nat.beq pc 20) (some (.inl (g_br1 (fun x => decide (¬ x = 0)) 26 23))) none)) (cond (Nat.ble pc 23) (cond (Nat.beq pc 23) (some (.inl (g_push (-2) 25))) none) (cond (Nat.beq pc 25) (some (.inr (.inr 1))) none))) (cond (Nat.ble pc 27) (cond (Nat.ble pc 26) (cond (Nat.beq pc 26) (some (.inl (g_ald 0 27))) none) (cond (Nat.beq pc 27) (some (.inr (.inl (58, 1, 30)))) none)) (cond (Nat.ble pc 30) (cond (Nat.beq pc 30) (some (.inl (g_ald 0 31))) none) (cond (Nat.ble pc 31) (cond (Nat.beq pc 31) (some (.inl (g_gfr 3 0 34))) none) (cond (Nat.beq pc 34) (some (.inl (g_gfr 1 2 37))) none)))))) (cond (Nat.ble pc 49) (cond (Nat.ble pc 40) (cond (Nat.ble pc 38) (cond (Nat.ble pc 37) (cond (Nat.beq pc 37) (some (.inl (g_ild 1 38))) none) (cond (Nat.beq pc 38) (some (.inl (g_aald 9 39))) none)) (cond (Nat.ble pc 39) (cond (Nat.beq pc 39) (some (.inl (g_ast 2 40))) none) (cond (Nat.beq pc 40) (some (.inl (g_ald 2 41))) none))) (cond (Nat.ble pc 44) (cond (Nat.ble pc 41) (cond (Nat.beq pc 41) (some (.inl (g_gfr 2 0 44))) none) (cond (Nat.beq pc 44) (some (.inr (.inl (62, 1, 47)))) none)) (cond (Nat.ble pc 47) (cond (Nat.beq pc 47) (some (.inl (g_ist 3 48))) none) (cond (Nat.ble pc 48) (cond (Nat.beq pc 48) (some (.inl (g_ald 2 49))) none) (cond (Nat.beq pc 49) (some (.inl (g_dup 50))) none))))) (cond (Nat.ble pc 55) (cond (Nat.ble pc 53) (cond (Nat.ble pc 50) (cond (Nat.beq pc 50) (some (.inl (g_gfi 2 3 53))) none) (cond (Nat.beq pc 53) (some (.inl (g_ild 3 54))) none)) (cond (Nat.ble pc 54) (cond (Nat.beq pc 54) (some (.inl (g_iop (fun x y => x + y) 55))) none) (cond (Nat.beq pc 55) (some (.inl (g_pfi 2 3 58))) none))) (cond (Nat.ble pc 59) (cond (Nat.ble pc 58) (cond (Nat.beq pc 58) (some (.inl (g_ald 2 59))) none) (cond (Nat.beq pc 59) (some (.inl (g_gfr 2 0 62))) none)) (cond (Nat.ble pc 62) (cond (Nat.beq pc 62) (some (.inr (.inl (63, 1, 65)))) none) (cond (Nat.ble pc 65) (cond (Nat.beq pc 65) (some (.inl (g_ild 3 66))) none) (cond (Nat.beq pc 66) (some (.inr (.inr 1))) none))))))
def kp_48 (pc : Nat) : Option KOp := cond (Nat.ble pc 39) (cond (Nat.ble pc 17) (cond (Nat.ble pc 8) (cond (Nat.ble pc 1) (cond (Nat.ble pc 0) (cond (Nat.beq pc 0) (some (.inl (g_ald 0 1))) none) (cond (Nat.beq pc 1) (some (.inl (g_gfr 3 0 4))) none)) (cond (Nat.ble pc 4) (cond (Nat.beq pc 4) (some (.inl (g_ild 1 5))) none) (cond (Nat.ble pc 5) (cond (Nat.beq pc 5) (some (.inr (.inl (10, 2, 8)))) none) (cond (Nat.beq pc 8) (some (.inl (g_br1 (fun x => decide (x = 0)) 20 11))) none)))) (cond (Nat.ble pc 12) (cond (Nat.ble pc 11) (cond (Nat.beq pc 11) (some (.inl (g_ild 2 12))) none) (cond (Nat.beq pc 12) (some (.inl (g_push 0 13))) none)) (cond (Nat.ble pc 13) (cond (Nat.beq pc 13) (some (.inl (g_push 1 14))) none) (cond (Nat.ble pc 14) (cond (Nat.beq pc 14) (some (.inr (.inl (59, 3, 17)))) none) (cond (Nat.beq pc 17) (some (.inl (g_br1 (fun x => decide (¬ x = 0)) 22 20))) none))))) (cond (Nat.ble pc 26) (cond (Nat.ble pc 21) (cond (Nat.ble pc 20) (cond (Nat.beq pc 20) (some (.inl (g_push (-1) 21))) none) (cond (Nat.beq pc 21) (some (.inr (.inr 1))) none)) (cond (Nat.ble pc 22) (cond (Nat.beq pc 22) (some (.inl (g_ald 0 23))) none) (cond (Nat.ble pc 23) (cond (Nat.beq pc 23) (some (.inl (g_gfr 3 0 26))) none) (cond (Nat.beq pc 26) (some (.inl (g_gfi 1 10 29))) none)))) (cond (Nat.ble pc 34) (cond (Nat.ble pc 29) (cond (Nat.beq pc 29) (some (.inl (g_br1 (fun x => decide (¬ x = 0)) 35 32))) none) (cond (Nat.ble pc 32) (cond (Nat.beq pc 32) (some (.inl (g_push (-2) 34))) none) (cond (Nat.beq pc 34) (some (.inr (.inr 1))) none))) (cond (Nat.ble pc 35) (cond (Nat.beq pc 35) (some (.inl (g_ald 0 36))) none) (cond (Nat.ble pc 36) (cond (Nat.beq pc 36) (some (.inr (.inl (58, 1, 39)))) none) (cond (Nat.beq pc 39) (some (.inl (g_ald 0 40))) none)))))) (cond (Nat.ble pc 57) (cond (Nat.ble pc 48) (cond (Nat.ble pc 43) (cond (Nat.ble pc 40) (cond (Nat.beq pc 40) (some (.inl (g_gfr 3 0 43))) none) (cond (Nat.beq pc 43) (some (.inl (g_gfr 1 2 46))) none)) (cond (Nat.ble pc 46) (cond (Nat.beq pc 46) (some (.inl (g_ild 1 47))) none) (cond (Nat.ble pc 47) (cond (Nat.beq pc 47) (some (.inl (g_aald 9 48))) none) (cond (Nat.beq pc 48) (some (.inl (g_ast 3 49))) none)))) (cond (Nat.ble pc 53) (cond (Nat.ble pc 49) (cond (Nat.beq pc 49) (some (.inl (g_ald 3 50))) none) (cond (Nat.ble pc 50) (cond (Nat.beq pc 50) (some (.inl (g_gfi 2 2 53))) none) (cond (Nat.beq pc 53) (some (.inl (g_ist 4 55))) none))) (cond (Nat.ble pc 55) (cond (Nat.beq pc 55) (some (.inl (g_ald 3 56))) none) (cond (Nat.ble pc 56) (cond (Nat.beq pc 56) (some (.inl (g_push 0 57))) none) (cond (Nat.beq pc 57) (some (.inl (g_pfi 2 2 60))) none))))) (cond (Nat.ble pc 66) (cond (Nat.ble pc 61) (cond (Nat.ble pc 60) (cond (Nat.beq pc 60) (some (.inl (g_ild 2 61))) none) (cond (Nat.beq pc 61) (some (.inl (g_push 1 62))) none)) (cond (Nat.ble pc 62) (cond (Nat.beq pc 62) (some (.inl (g_br2 (fun x y => decide (¬ x = y)) 76 65))) none) (cond (Nat.ble pc 65) (cond (Nat.beq pc 65) (some (.inl (g_ald 3 66))) none) (cond (Nat.beq pc 66) (some (.inl (g_dup 67))) none)))) (cond (Nat.ble pc 72) (cond (Nat.ble pc 67) (cond (Nat.beq pc 67) (some (.inl (g_gfi 2 3 70))) none) (cond (Nat.ble pc 70) (cond (Nat.beq pc 70) (some (.inl (g_ild 4 72))) none) (cond (Nat.beq pc 72) (some (.inl (g_iop (fun x y => x + y) 73))) none))) (cond (Nat.ble pc 73) (cond (Nat.beq pc 73) (some (.inl (g_pfi 2 3 76))) none) (cond (Nat.ble pc 76) (cond (Nat.beq pc 76) (some (.inl (g_ild 4 78))) none) (cond (Nat.beq pc 78) (some (.inr (.inr 1))) none))))))
def kp_49 (pc : Nat) : Option KOp := cond (Nat.ble pc 10) (cond (Nat.ble pc 1) (cond (Nat.ble pc 0) (cond (Nat.beq pc 0) (some (.inl (g_ald 0 1))) none) (cond (Nat.beq pc 1) (some (.inl (g_gfr 3 0 4))) none)) (cond (Nat.ble pc 4) (cond (Nat.beq pc 4) (some (.inl (g_gfi 1 10 7))) none) (cond (Nat.ble pc 7) (cond (Nat.beq pc 7) (some (.inl (g_br1 (fun x => decide (¬ x = 0)) 13 10))) none) (cond (Nat.beq pc 10) (some (.inl (g_push (-2) 12))) none)))) (cond (Nat.ble pc 13) (cond (Nat.ble pc 12) (cond (Nat.beq pc 12) (some (.inr (.inr 1))) none) (cond (Nat.beq pc 13) (some (.inl (g_ald 0 14))) none)) (cond (Nat.ble pc 14) (cond (Nat.beq pc 14) (some (.inl (g_gfr 3 0 17))) none) (cond (Nat.ble pc 17) (cond (Nat.beq pc 17) (some (.inr (.inl (18, 1, 20)))) none) (cond (Nat.beq pc 20) (some (.inr (.inr 1))) none))))
def kp_50 (pc : Nat) : Option KOp := cond (Nat.ble pc 23) (cond (Nat.ble pc 10) (cond (Nat.ble pc 1) (cond (Nat.ble pc 0) (cond (Nat.beq pc 0) (some (.inl (g_ald 0 1))) none) (cond (Nat.beq pc 1) (some (.inl (g_gfr 3 0 4))) none)) (cond (Nat.ble pc 4) (cond (Nat.beq pc 4) (some (.inl (g_gfi 1 10 7))) none) (cond (Nat.ble pc 7) (cond (Nat.beq pc 7) (some (.inl (g_br1 (fun x => decide (¬ x = 0)) 13 10))) none) (cond (Nat.beq pc 10) (some (.inl (g_push (-2) 12))) none)))) (cond (Nat.ble pc 14) (cond (Nat.ble pc 12) (cond (Nat.beq pc 12) (some (.inr (.inr 1))) none) (cond (Nat.ble pc 13) (cond (Nat.beq pc 13) (some (.inl (g_ald 0 14))) none) (cond (Nat.beq pc 14) (some (.inl (g_gfr 3 0 17))) none))) (cond (Nat.ble pc 17) (cond (Nat.beq pc 17) (some (.inr (.inl (18, 1, 20)))) none) (cond (Nat.ble pc 20) (cond (Nat.beq pc 20) (some (.inl (g_push 1000 23))) none) (cond (Nat.beq pc 23) (some (.inl (g_iop (fun x y => x * y) 24))) none))))) (cond (Nat.ble pc 35) (cond (Nat.ble pc 28) (cond (Nat.ble pc 24) (cond (Nat.beq pc 24) (some (.inl (g_ald 0 25))) none) (cond (Nat.ble pc 25) (cond (Nat.beq pc 25) (some (.inl (g_gfr 3 0 28))) none) (cond (Nat.beq pc 28) (some (.inl (g_gfi 1 9 31))) none))) (cond (Nat.ble pc 31) (cond (Nat.beq pc 31) (some (.inl (g_ald 0 32))) none) (cond (Nat.ble pc 32) (cond (Nat.beq pc 32) (some (.inl (g_gfr 3 0 35))) none) (cond (Nat.beq pc 35) (some (.inl (g_gfi 1 11 38))) none)))) (cond (Nat.ble pc 42) (cond (Nat.ble pc 38) (cond (Nat.beq pc 38) (some (.inl (g_iop (fun x y => x * y) 39))) none) (cond (Nat.ble pc 39) (cond (Nat.beq pc 39) (some (.inl (g_br2 (fun x y => decide (y < x)) 46 42))) none) (cond (Nat.beq pc 42) (some (.inl (g_push 1 43))) none))) (cond (Nat.ble pc 43) (cond (Nat.beq pc 43) (some (.inl (g_goto 47))) none) (cond (Nat.ble pc 46) (cond (Nat.beq pc 46) (some (.inl (g_push 0 47))) none) (cond (Nat.beq pc 47) (some (.inr (.inr 1))) none)))))
def kp_51 (pc : Nat) : Option KOp := cond (Nat.ble pc 14) (cond (Nat.ble pc 5) (cond (Nat.ble pc 1) (cond (Nat.ble pc 0) (cond (Nat.beq pc 0) (some (.inl (g_ald 0 1))) none) (cond (Nat.beq pc 1) (some (.inl (g_gfr 3 0 4))) none)) (cond (Nat.ble pc 4) (cond (Nat.beq pc 4) (some (.inl (g_ild 1 5))) none) (cond (Nat.beq pc 5) (some (.inr (.inl (10, 2, 8)))) none))) (cond (Nat.ble pc 11) (cond (Nat.ble pc 8) (cond (Nat.beq pc 8) (some (.inl (g_br1 (fun x => decide (¬ x = 0)) 13 11))) none) (cond (Nat.beq pc 11) (some (.inl (g_push (-1) 12))) none)) (cond (Nat.ble pc 12) (cond (Nat.beq pc 12) (some (.inr (.inr 1))) none) (cond (Nat.ble pc 13) (cond (Nat.beq pc 13) (some (.inl (g_ald 0 14))) none) (cond (Nat.beq pc 14) (some (.inl (g_gfr 3 0 17))) none))))) (cond (Nat.ble pc 25) (cond (Nat.ble pc 20) (cond (Nat.ble pc 17) (cond (Nat.beq pc 17) (some (.inr (.inl (19, 1, 20)))) none) (cond (Nat.beq pc 20) (some (.inl (g_br1 (fun x => decide (¬ x = 0)) 26 23))) none)) (cond (Nat.ble pc 23) (cond (Nat.beq pc 23) (some (.inl (g_push (-2) 25))) none) (cond (Nat.beq pc 25) (some (.inr (.inr 1))) none))) (cond (Nat.ble pc 27) (cond (Nat.ble pc 26) (cond (Nat.beq pc 26) (some (.inl (g_ald 0 27))) none) (cond (Nat.beq pc 27) (some (.inl (g_gfr 3 0 30))) none)) (cond (Nat.ble pc 30) (cond (Nat.beq pc 30) (some (.inl (g_ild 1 31))) none) (cond (Nat.ble pc 31) (cond (Nat.beq pc 31) (some (.inr (.inl (20, 2, 34)))) none) (cond (Nat.beq pc 34) (some (.inr (.inr 1))) none)))))
def kp_52 (pc : Nat) : Option KOp := cond (Nat.ble pc 37) (cond (Nat.ble pc 16) (cond (Nat.ble pc 10) (cond (Nat.ble pc 1) (cond (Nat.ble pc 0) (cond (Nat.beq pc 0) (some (.inl (g_ald 0 1))) none) (cond (Nat.beq pc 1) (some (.inl (g_gfr 3 0 4))) none)) (cond (Nat.ble pc 4) (cond (Nat.beq pc 4) (some (.inr (.inl (19, 1, 7)))) none) (cond (Nat.ble pc 7) (cond (Nat.beq pc 7) (some (.inl (g_br1 (fun x => decide (¬ x = 0)) 13 10))) none) (cond (Nat.beq pc 10) (some (.inl (g_push (-2) 12))) none)))) (cond (Nat.ble pc 13) (cond (Nat.ble pc 12) (cond (Nat.beq pc 12) (some (.inr (.inr 1))) none) (cond (Nat.beq pc 13) (some (.inl (g_push 0 14))) none)) (cond (Nat.ble pc 14) (cond (Nat.beq pc 14) (some (.inl (g_ist 1 15))) none) (cond (Nat.ble pc 15) (cond (Nat.beq pc 15) (some (.inl (g_push 0 16))) none) (cond (Nat.beq pc 16) (some (.inl (g_ist 2 17))) none))))) (cond (Nat.ble pc 25) (cond (Nat.ble pc 18) (cond (Nat.ble pc 17) (cond (Nat.beq pc 17) (some (.inl (g_ild 2 18))) none) (cond (Nat.beq pc 18) (some (.inl (g_ald 0 19))) none)) (cond (Nat.ble pc 19) (cond (Nat.beq pc 19) (some (.inl (g_gfr 3 0 22))) none) (cond (Nat.ble pc 22) (cond (Nat.beq pc 22) (some (.inl (g_gfi 1 5 25))) none) (cond (Nat.beq pc 25) (some (.inl (g_br2 (fun x y => decide (y ≤ x)) 82 28))) none)))) (cond (Nat.ble pc 32) (cond (Nat.ble pc 28) (cond (Nat.beq pc 28) (some (.inl (g_ald 0 29))) none) (cond (Nat.ble pc 29) (cond (Nat.beq pc 29) (some (.inl (g_gfr 3 0 32))) none) (cond (Nat.beq pc 32) (some (.inl (g_gfr 1 2 35))) none))) (cond (Nat.ble pc 35) (cond (Nat.beq pc 35) (some (.inl (g_ild 2 36))) none) (cond (Nat.ble pc 36) (cond (Nat.beq pc 36) (some (.inl (g_aald 9 37))) none) (cond (Nat.beq pc 37) (some (.inl (g_gfi 2 1 40))) none)))))) (cond (Nat.ble pc 58) (cond (Nat.ble pc 46) (cond (Nat.ble pc 41) (cond (Nat.ble pc 40) (cond (Nat.beq pc 40) (some (.inl (g_ist 3 41))) none) (cond (Nat.beq pc 41) (some (.inl (g_ald 0 42))) none)) (cond (Nat.ble pc 42) (cond (Nat.beq pc 42) (some (.inl (g_gfr 3 0 45))) none) (cond (Nat.ble pc 45) (cond (Nat.beq pc 45) (some (.inl (g_ild 2 46))) none) (cond (Nat.beq pc 46) (some (.inr (.inl (20, 2, 49)))) none)))) (cond (Nat.ble pc 53) (cond (Nat.ble pc 49) (cond (Nat.beq pc 49) (some (.inl (g_ald 0 50))) none) (cond (Nat.ble pc 50) (cond (Nat.beq pc 50) (some (.inl (g_gfr 3 0 53))) none) (cond (Nat.beq pc 53) (some (.inl (g_gfr 1 3 56))) none))) (cond (Nat.ble pc 56) (cond (Nat.beq pc 56) (some (.inl (g_ild 3 57))) none) (cond (Nat.ble pc 57) (cond (Nat.beq pc 57) (some (.inl (g_pald 5 58))) none) (cond (Nat.beq pc 58) (some (.inl (g_ald 0 59))) none))))) (cond (Nat.ble pc 67) (cond (Nat.ble pc 62) (cond (Nat.ble pc 59) (cond (Nat.beq pc 59) (some (.inl (g_gfr 3 0 62))) none) (cond (Nat.beq pc 62) (some (.inl (g_gfr 1 4 65))) none)) (cond (Nat.ble pc 65) (cond (Nat.beq pc 65) (some (.inl (g_ild 3 66))) none) (cond (Nat.ble pc 66) (cond (Nat.beq pc 66) (some (.inl (g_pald 5 67))) none) (cond (Nat.beq pc 67) (some (.inr (.inl (59, 3, 70)))) none)))) (cond (Nat.ble pc 76) (cond (Nat.ble pc 70) (cond (Nat.beq pc 70) (some (.inl (g_br1 (fun x => decide (¬ x = 0)) 76 73))) none) (cond (Nat.ble pc 73) (cond (Nat.beq pc 73) (some (.inl (g_iinc 1 1 76))) none) (cond (Nat.beq pc 76) (some (.inl (g_iinc 2 1 79))) none))) (cond (Nat.ble pc 79) (cond (Nat.beq pc 79) (some (.inl (g_goto 17))) none) (cond (Nat.ble pc 82) (cond (Nat.beq pc 82) (some (.inl (g_ild 1 83))) none) (cond (Nat.beq pc 83) (some (.inr (.inr 1))) none))))))
def kp_53 (pc : Nat) : Option KOp := cond (Nat.ble pc 25) (cond (Nat.ble pc 13) (cond (Nat.ble pc 4) (cond (Nat.ble pc 0) (cond (Nat.beq pc 0) (some (.inl (g_ald 0 1))) none) (cond (Nat.ble pc 1) (cond (Nat.beq pc 1) (some (.inl (g_gfr 3 0 4))) none) (cond (Nat.beq pc 4) (some (.inr (.inl (19, 1, 7)))) none))) (cond (Nat.ble pc 10) (cond (Nat.ble pc 7) (cond (Nat.beq pc 7) (some (.inl (g_br1 (fun x => decide (¬ x = 0)) 13 10))) none) (cond (Nat.beq pc 10) (some (.inl (g_push (-2) 12))) none)) (cond (Nat.ble pc 12) (cond (Nat.beq pc 12) (some (.inr (.inr 1))) none) (cond (Nat.beq pc 13) (some (.inl (g_push 0 14))) none)))) (cond (Nat.ble pc 17) (cond (Nat.ble pc 15) (cond (Nat.ble pc 14) (cond (Nat.beq pc 14) (some (.inl (g_ist 1 15))) none) (cond (Nat.beq pc 15) (some (.inl (g_push 0 16))) none)) (cond (Nat.ble pc 16) (cond (Nat.beq pc 16) (some (.inl (g_ist 2 17))) none) (cond (Nat.beq pc 17) (some (.inl (g_ild 2 18))) none))) (cond (Nat.ble pc 19) (cond (Nat.ble pc 18) (cond (Nat.beq pc 18) (some (.inl (g_ald 0 19))) none) (cond (Nat.beq pc 19) (some (.inl (g_gfr 3 0 22))) none)) (cond (Nat.ble pc 22) (cond (Nat.beq pc 22) (some (.inl (g_gfi 1 5 25))) none) (cond (Nat.beq pc 25) (some (.inl (g_br2 (fun x y => decide (y ≤ x)) 49 28))) none))))) (cond (Nat.ble pc 40) (cond (Nat.ble pc 32) (cond (Nat.ble pc 28) (cond (Nat.beq pc 28) (some (.inl (g_ild 1 29))) none) (cond (Nat.ble pc 29) (cond (Nat.beq pc 29) (some (.inl (g_push 1000 32))) none) (cond (Nat.beq pc 32) (some (.inl (g_ald 0 33))) none))) (cond (Nat.ble pc 36) (cond (Nat.ble pc 33) (cond (Nat.beq pc 33) (some (.inl (g_gfr 3 0 36))) none) (cond (Nat.beq pc 36) (some (.inl (g_ild 2 37))) none)) (cond (Nat.ble pc 37) (cond (Nat.beq pc 37) (some (.inr (.inl (20, 2, 40)))) none) (cond (Nat.beq pc 40) (some (.inl (g_iop (fun x y => x - y) 41))) none)))) (cond (Nat.ble pc 46) (cond (Nat.ble pc 42) (cond (Nat.ble pc 41) (cond (Nat.beq pc 41) (some (.inl (g_iop (fun x y => x + y) 42))) none) (cond (Nat.beq pc 42) (some (.inl (g_ist 1 43))) none)) (cond (Nat.ble pc 43) (cond (Nat.beq pc 43) (some (.inl (g_iinc 2 1 46))) none) (cond (Nat.beq pc 46) (some (.inl (g_goto 17))) none))) (cond (Nat.ble pc 50) (cond (Nat.ble pc 49) (cond (Nat.beq pc 49) (some (.inl (g_ild 1 50))) none) (cond (Nat.beq pc 50) (some (.inl (g_push 10 52))) none)) (cond (Nat.ble pc 52) (cond (Nat.beq pc 52) (some (.inl (g_idiv (fun x y => x / y) 53))) none) (cond (Nat.beq pc 53) (some (.inr (.inr 1))) none)))))
def kp_54 (pc : Nat) : Option KOp := cond (Nat.ble pc 31) (cond (Nat.ble pc 13) (cond (Nat.ble pc 4) (cond (Nat.ble pc 1) (cond (Nat.ble pc 0) (cond (Nat.beq pc 0) (some (.inl (g_ild 1 1))) none) (cond (Nat.beq pc 1) (some (.inl (g_push 1 2))) none)) (cond (Nat.ble pc 2) (cond (Nat.beq pc 2) (some (.inl (g_push 9 4))) none) (cond (Nat.beq pc 4) (some (.inr (.inl (59, 3, 7)))) none))) (cond (Nat.ble pc 10) (cond (Nat.ble pc 7) (cond (Nat.beq pc 7) (some (.inl (g_br1 (fun x => decide (¬ x = 0)) 12 10))) none) (cond (Nat.beq pc 10) (some (.inl (g_push (-1) 11))) none)) (cond (Nat.ble pc 11) (cond (Nat.beq pc 11) (some (.inr (.inr 1))) none) (cond (Nat.ble pc 12) (cond (Nat.beq pc 12) (some (.inl (g_ald 0 13))) none) (cond (Nat.beq pc 13) (some (.inl (g_gfr 3 0 16))) none))))) (cond (Nat.ble pc 23) (cond (Nat.ble pc 19) (cond (Nat.ble pc 16) (cond (Nat.beq pc 16) (some (.inl (g_gfr 1 0 19))) none) (cond (Nat.beq pc 19) (some (.inr (.inl (62, 1, 22)))) none)) (cond (Nat.ble pc 22) (cond (Nat.beq pc 22) (some (.inl (g_ist 2 23))) none) (cond (Nat.beq pc 23) (some (.inl (g_ild 2 24))) none))) (cond (Nat.ble pc 27) (cond (Nat.ble pc 24) (cond (Nat.beq pc 24) (some (.inl (g_br1 (fun x => decide (¬ x = 0)) 30 27))) none) (cond (Nat.beq pc 27) (some (.inl (g_push (-2) 29))) none)) (cond (Nat.ble pc 29) (cond (Nat.beq pc 29) (some (.inr (.inr 1))) none) (cond (Nat.ble pc 30) (cond (Nat.beq pc 30) (some (.inl (g_push 0 31))) none) (cond (Nat.beq pc 31) (some (.inl (g_ist 3 32))) none)))))) (cond (Nat.ble pc 46) (cond (Nat.ble pc 37) (cond (Nat.ble pc 33) (cond (Nat.ble pc 32) (cond (Nat.beq pc 32) (some (.inl (g_push 0 33))) none) (cond (Nat.beq pc 33) (some (.inl (g_ist 4 35))) none)) (cond (Nat.ble pc 35) (cond (Nat.beq pc 35) (some (.inl (g_ild 4 37))) none) (cond (Nat.beq pc 37) (some (.inl (g_ild 1 38))) none))) (cond (Nat.ble pc 41) (cond (Nat.ble pc 38) (cond (Nat.beq pc 38) (some (.inl (g_br2 (fun x y => decide (y ≤ x)) 60 41))) none) (cond (Nat.beq pc 41) (some (.inl (g_ild 3 42))) none)) (cond (Nat.ble pc 42) (cond (Nat.beq pc 42) (some (.inl (g_ald 0 43))) none) (cond (Nat.ble pc 43) (cond (Nat.beq pc 43) (some (.inl (g_gfr 3 0 46))) none) (cond (Nat.beq pc 46) (some (.inl (g_gfr 1 0 49))) none))))) (cond (Nat.ble pc 54) (cond (Nat.ble pc 51) (cond (Nat.ble pc 49) (cond (Nat.beq pc 49) (some (.inl (g_ild 4 51))) none) (cond (Nat.beq pc 51) (some (.inl (g_pald 5 52))) none)) (cond (Nat.ble pc 52) (cond (Nat.beq pc 52) (some (.inl (g_iop (fun x y => x + y) 53))) none) (cond (Nat.ble pc 53) (cond (Nat.beq pc 53) (some (.inl (g_ist 3 54))) none) (cond (Nat.beq pc 54) (some (.inl (g_iinc 4 1 57))) none)))) (cond (Nat.ble pc 60) (cond (Nat.ble pc 57) (cond (Nat.beq pc 57) (some (.inl (g_goto 35))) none) (cond (Nat.beq pc 60) (some (.inl (g_ild 3 61))) none)) (cond (Nat.ble pc 61) (cond (Nat.beq pc 61) (some (.inl (g_ild 2 62))) none) (cond (Nat.ble pc 62) (cond (Nat.beq pc 62) (some (.inr (.inl (65, 2, 65)))) none) (cond (Nat.beq pc 65) (some (.inr (.inr 1))) none))))))
def kp_55 (pc : Nat) : Option KOp := cond (Nat.ble pc 31) (cond (Nat.ble pc 13) (cond (Nat.ble pc 5) (cond (Nat.ble pc 1) (cond (Nat.ble pc 0) (cond (Nat.beq pc 0) (some (.inl (g_ild 1 1))) none) (cond (Nat.beq pc 1) (some (.inl (g_push 1 2))) none)) (cond (Nat.ble pc 2) (cond (Nat.beq pc 2) (some (.inl (g_push 9999 5))) none) (cond (Nat.beq pc 5) (some (.inr (.inl (59, 3, 8)))) none))) (cond (Nat.ble pc 11) (cond (Nat.ble pc 8) (cond (Nat.beq pc 8) (some (.inl (g_br1 (fun x => decide (¬ x = 0)) 13 11))) none) (cond (Nat.beq pc 11) (some (.inl (g_push (-1) 12))) none)) (cond (Nat.ble pc 12) (cond (Nat.beq pc 12) (some (.inr (.inr 1))) none) (cond (Nat.beq pc 13) (some (.inl (g_ald 0 14))) none)))) (cond (Nat.ble pc 23) (cond (Nat.ble pc 17) (cond (Nat.ble pc 14) (cond (Nat.beq pc 14) (some (.inl (g_gfr 3 0 17))) none) (cond (Nat.beq pc 17) (some (.inl (g_gfi 1 10 20))) none)) (cond (Nat.ble pc 20) (cond (Nat.beq pc 20) (some (.inl (g_br1 (fun x => decide (¬ x = 0)) 26 23))) none) (cond (Nat.beq pc 23) (some (.inl (g_push (-2) 25))) none))) (cond (Nat.ble pc 26) (cond (Nat.ble pc 25) (cond (Nat.beq pc 25) (some (.inr (.inr 1))) none) (cond (Nat.beq pc 26) (some (.inl (g_ald 0 27))) none)) (cond (Nat.ble pc 27) (cond (Nat.beq pc 27) (some (.inl (g_gfr 3 1 30))) none) (cond (Nat.ble pc 30) (cond (Nat.beq pc 30) (some (.inl (g_ald 0 31))) none) (cond (Nat.beq pc 31) (some (.inl (g_gfr 3 0 34))) none)))))) (cond (Nat.ble pc 47) (cond (Nat.ble pc 39) (cond (Nat.ble pc 37) (cond (Nat.ble pc 34) (cond (Nat.beq pc 34) (some (.inr (.inl (8, 2, 37)))) none) (cond (Nat.beq pc 37) (some (.inl (g_push 1 38))) none)) (cond (Nat.ble pc 38) (cond (Nat.beq pc 38) (some (.inl (g_ist 2 39))) none) (cond (Nat.beq pc 39) (some (.inl (g_ild 2 40))) none))) (cond (Nat.ble pc 43) (cond (Nat.ble pc 40) (cond (Nat.beq pc 40) (some (.inl (g_push 500 43))) none) (cond (Nat.beq pc 43) (some (.inl (g_br2 (fun x y => decide (y < x)) 65 46))) none)) (cond (Nat.ble pc 46) (cond (Nat.beq pc 46) (some (.inl (g_ald 0 47))) none) (cond (Nat.beq pc 47) (some (.inl (g_gfr 3 1 50))) none)))) (cond (Nat.ble pc 57) (cond (Nat.ble pc 53) (cond (Nat.ble pc 50) (cond (Nat.beq pc 50) (some (.inr (.inl (17, 1, 53)))) none) (cond (Nat.beq pc 53) (some (.inl (g_ild 1 54))) none)) (cond (Nat.ble pc 54) (cond (Nat.beq pc 54) (some (.inl (g_br2 (fun x y => decide (y ≤ x)) 59 57))) none) (cond (Nat.beq pc 57) (some (.inl (g_ild 2 58))) none))) (cond (Nat.ble pc 59) (cond (Nat.ble pc 58) (cond (Nat.beq pc 58) (some (.inr (.inr 1))) none) (cond (Nat.beq pc 59) (some (.inl (g_iinc 2 1 62))) none)) (cond (Nat.ble pc 62) (cond (Nat.beq pc 62) (some (.inl (g_goto 39))) none) (cond (Nat.ble pc 65) (cond (Nat.beq pc 65) (some (.inl (g_push (-9) 67))) none) (cond (Nat.beq pc 67) (some (.inr (.inr 1))) none))))))
def kp_56 (pc : Nat) : Option KOp := cond (Nat.ble pc 34) (cond (Nat.ble pc 14) (cond (Nat.ble pc 5) (cond (Nat.ble pc 1) (cond (Nat.ble pc 0) (cond (Nat.beq pc 0) (some (.inl (g_ild 1 1))) none) (cond (Nat.beq pc 1) (some (.inl (g_push 1 2))) none)) (cond (Nat.ble pc 2) (cond (Nat.beq pc 2) (some (.inl (g_push 500 5))) none) (cond (Nat.beq pc 5) (some (.inr (.inl (59, 3, 8)))) none))) (cond (Nat.ble pc 11) (cond (Nat.ble pc 8) (cond (Nat.beq pc 8) (some (.inl (g_br1 (fun x => decide (¬ x = 0)) 13 11))) none) (cond (Nat.beq pc 11) (some (.inl (g_push (-1) 12))) none)) (cond (Nat.ble pc 12) (cond (Nat.beq pc 12) (some (.inr (.inr 1))) none) (cond (Nat.ble pc 13) (cond (Nat.beq pc 13) (some (.inl (g_ald 0 14))) none) (cond (Nat.beq pc 14) (some (.inl (g_gfr 3 0 17))) none))))) (cond (Nat.ble pc 25) (cond (Nat.ble pc 20) (cond (Nat.ble pc 17) (cond (Nat.beq pc 17) (some (.inl (g_gfi 1 10 20))) none) (cond (Nat.beq pc 20) (some (.inl (g_br1 (fun x => decide (¬ x = 0)) 26 23))) none)) (cond (Nat.ble pc 23) (cond (Nat.beq pc 23) (some (.inl (g_push (-2) 25))) none) (cond (Nat.beq pc 25) (some (.inr (.inr 1))) none))) (cond (Nat.ble pc 27) (cond (Nat.ble pc 26) (cond (Nat.beq pc 26) (some (.inl (g_ald 0 27))) none) (cond (Nat.beq pc 27) (some (.inl (g_gfr 3 1 30))) none)) (cond (Nat.ble pc 30) (cond (Nat.beq pc 30) (some (.inl (g_ald 0 31))) none) (cond (Nat.ble pc 31) (cond (Nat.beq pc 31) (some (.inl (g_gfr 3 0 34))) none) (cond (Nat.beq pc 34) (some (.inr (.inl (8, 2, 37)))) none)))))) (cond (Nat.ble pc 51) (cond (Nat.ble pc 40) (cond (Nat.ble pc 38) (cond (Nat.ble pc 37) (cond (Nat.beq pc 37) (some (.inl (g_push 0 38))) none) (cond (Nat.beq pc 38) (some (.inl (g_ist 2 39))) none)) (cond (Nat.ble pc 39) (cond (Nat.beq pc 39) (some (.inl (g_ild 2 40))) none) (cond (Nat.beq pc 40) (some (.inl (g_ild 1 41))) none))) (cond (Nat.ble pc 44) (cond (Nat.ble pc 41) (cond (Nat.beq pc 41) (some (.inl (g_br2 (fun x y => decide (y ≤ x)) 58 44))) none) (cond (Nat.beq pc 44) (some (.inl (g_ald 0 45))) none)) (cond (Nat.ble pc 45) (cond (Nat.beq pc 45) (some (.inl (g_gfr 3 1 48))) none) (cond (Nat.ble pc 48) (cond (Nat.beq pc 48) (some (.inr (.inl (17, 1, 51)))) none) (cond (Nat.beq pc 51) (some (.inl (g_pop 52))) none))))) (cond (Nat.ble pc 62) (cond (Nat.ble pc 55) (cond (Nat.ble pc 52) (cond (Nat.beq pc 52) (some (.inl (g_iinc 2 1 55))) none) (cond (Nat.beq pc 55) (some (.inl (g_goto 39))) none)) (cond (Nat.ble pc 58) (cond (Nat.beq pc 58) (some (.inl (g_ald 0 59))) none) (cond (Nat.ble pc 59) (cond (Nat.beq pc 59) (some (.inl (g_gfr 3 1 62))) none) (cond (Nat.beq pc 62) (some (.inr (.inl (18, 1, 65)))) none)))) (cond (Nat.ble pc 66) (cond (Nat.ble pc 65) (cond (Nat.beq pc 65) (some (.inl (g_ald 0 66))) none) (cond (Nat.beq pc 66) (some (.inl (g_gfr 3 0 69))) none)) (cond (Nat.ble pc 69) (cond (Nat.beq pc 69) (some (.inr (.inl (18, 1, 72)))) none) (cond (Nat.ble pc 72) (cond (Nat.beq pc 72) (some (.inl (g_iop (fun x y => x - y) 73))) none) (cond (Nat.beq pc 73) (some (.inr (.inr 1))) none))))))
def kp_57 (pc : Nat) : Option KOp := cond (Nat.ble pc 28) (cond (Nat.ble pc 12) (cond (Nat.ble pc 7) (cond (Nat.ble pc 1) (cond (Nat.ble pc 0) (cond (Nat.beq pc 0) (some (.inl (g_ald 0 1))) none) (cond (Nat.beq pc 1) (some (.inl (g_gfi 3 5 4))) none)) (cond (Nat.ble pc 4) (cond (Nat.beq pc 4) (some (.inl (g_br1 (fun x => decide (¬ x = 0)) 10 7))) none) (cond (Nat.beq pc 7) (some (.inl (g_push (-2) 9))) none))) (cond (Nat.ble pc 10) (cond (Nat.ble pc 9) (cond (Nat.beq pc 9) (some (.inr (.inr 1))) none) (cond (Nat.beq pc 10) (some (.inl (g_ald 0 11))) none)) (cond (Nat.ble pc 11) (cond (Nat.beq pc 11) (some (.inl (g_ald 0 12))) none) (cond (Nat.beq pc 12) (some (.inl (g_gfi 3 4 15))) none)))) (cond (Nat.ble pc 22) (cond (Nat.ble pc 18) (cond (Nat.ble pc 15) (cond (Nat.beq pc 15) (some (.inl (g_br1 (fun x => decide (¬ x = 0)) 22 18))) none) (cond (Nat.beq pc 18) (some (.inl (g_push 5 19))) none)) (cond (Nat.ble pc 19) (cond (Nat.beq pc 19) (some (.inl (g_goto 28))) none) (cond (Nat.beq pc 22) (some (.inl (g_ald 0 23))) none))) (cond (Nat.ble pc 26) (cond (Nat.ble pc 23) (cond (Nat.beq pc 23) (some (.inl (g_gfi 3 4 26))) none) (cond (Nat.beq pc 26) (some (.inl (g_push 1 27))) none)) (cond (Nat.ble pc 27) (cond (Nat.beq pc 27) (some (.inl (g_iop (fun x y => x - y) 28))) none) (cond (Nat.beq pc 28) (some (.inl (g_pfi 3 4 31))) none))))) (cond (Nat.ble pc 44) (cond (Nat.ble pc 36) (cond (Nat.ble pc 32) (cond (Nat.ble pc 31) (cond (Nat.beq pc 31) (some (.inl (g_ald 0 32))) none) (cond (Nat.beq pc 32) (some (.inl (g_gfr 3 0 35))) none)) (cond (Nat.ble pc 35) (cond (Nat.beq pc 35) (some (.inl (g_ald 0 36))) none) (cond (Nat.beq pc 36) (some (.inl (g_gfr 3 2 39))) none))) (cond (Nat.ble pc 40) (cond (Nat.ble pc 39) (cond (Nat.beq pc 39) (some (.inl (g_ald 0 40))) none) (cond (Nat.beq pc 40) (some (.inl (g_gfi 3 4 43))) none)) (cond (Nat.ble pc 43) (cond (Nat.beq pc 43) (some (.inl (g_aald 10 44))) none) (cond (Nat.beq pc 44) (some (.inr (.inl (8, 2, 47)))) none)))) (cond (Nat.ble pc 52) (cond (Nat.ble pc 48) (cond (Nat.ble pc 47) (cond (Nat.beq pc 47) (some (.inl (g_ald 0 48))) none) (cond (Nat.beq pc 48) (some (.inl (g_dup 49))) none)) (cond (Nat.ble pc 49) (cond (Nat.beq pc 49) (some (.inl (g_gfi 3 5 52))) none) (cond (Nat.beq pc 52) (some (.inl (g_push 1 53))) none))) (cond (Nat.ble pc 54) (cond (Nat.ble pc 53) (cond (Nat.beq pc 53) (some (.inl (g_iop (fun x y => x - y) 54))) none) (cond (Nat.beq pc 54) (some (.inl (g_pfi 3 5 57))) none)) (cond (Nat.ble pc 57) (cond (Nat.beq pc 57) (some (.inl (g_ald 0 58))) none) (cond (Nat.ble pc 58) (cond (Nat.beq pc 58) (some (.inl (g_gfi 3 5 61))) none) (cond (Nat.beq pc 61) (some (.inr (.inr 1))) none))))))
def kp_58 (pc : Nat) : Option KOp := cond (Nat.ble pc 26) (cond (Nat.ble pc 10) (cond (Nat.ble pc 4) (cond (Nat.ble pc 0) (cond (Nat.beq pc 0) (some (.inl (g_ald 0 1))) none) (cond (Nat.ble pc 1) (cond (Nat.beq pc 1) (some (.inl (g_gfr 3 2 4))) none) (cond (Nat.beq pc 4) (some (.inl (g_ald 0 5))) none))) (cond (Nat.ble pc 8) (cond (Nat.ble pc 5) (cond (Nat.beq pc 5) (some (.inl (g_gfi 3 4 8))) none) (cond (Nat.beq pc 8) (some (.inl (g_aald 10 9))) none)) (cond (Nat.ble pc 9) (cond (Nat.beq pc 9) (some (.inl (g_ald 0 10))) none) (cond (Nat.beq pc 10) (some (.inl (g_gfr 3 0 13))) none)))) (cond (Nat.ble pc 18) (cond (Nat.ble pc 16) (cond (Nat.ble pc 13) (cond (Nat.beq pc 13) (some (.inr (.inl (8, 2, 16)))) none) (cond (Nat.beq pc 16) (some (.inl (g_ald 0 17))) none)) (cond (Nat.ble pc 17) (cond (Nat.beq pc 17) (some (.inl (g_ald 0 18))) none) (cond (Nat.beq pc 18) (some (.inl (g_gfi 3 4 21))) none))) (cond (Nat.ble pc 22) (cond (Nat.ble pc 21) (cond (Nat.beq pc 21) (some (.inl (g_push 5 22))) none) (cond (Nat.beq pc 22) (some (.inl (g_br2 (fun x y => decide (¬ x = y)) 29 25))) none)) (cond (Nat.ble pc 25) (cond (Nat.beq pc 25) (some (.inl (g_push 0 26))) none) (cond (Nat.beq pc 26) (some (.inl (g_goto 35))) none))))) (cond (Nat.ble pc 42) (cond (Nat.ble pc 34) (cond (Nat.ble pc 30) (cond (Nat.ble pc 29) (cond (Nat.beq pc 29) (some (.inl (g_ald 0 30))) none) (cond (Nat.beq pc 30) (some (.inl (g_gfi 3 4 33))) none)) (cond (Nat.ble pc 33) (cond (Nat.beq pc 33) (some (.inl (g_push 1 34))) none) (cond (Nat.beq pc 34) (some (.inl (g_iop (fun x y => x + y) 35))) none))) (cond (Nat.ble pc 38) (cond (Nat.ble pc 35) (cond (Nat.beq pc 35) (some (.inl (g_pfi 3 4 38))) none) (cond (Nat.beq pc 38) (some (.inl (g_ald 0 39))) none)) (cond (Nat.ble pc 39) (cond (Nat.beq pc 39) (some (.inl (g_gfi 3 5 42))) none) (cond (Nat.beq pc 42) (some (.inl (g_push 6 44))) none)))) (cond (Nat.ble pc 49) (cond (Nat.ble pc 47) (cond (Nat.ble pc 44) (cond (Nat.beq pc 44) (some (.inl (g_br2 (fun x y => decide (y ≤ x)) 57 47))) none) (cond (Nat.beq pc 47) (some (.inl (g_ald 0 48))) none)) (cond (Nat.ble pc 48) (cond (Nat.beq pc 48) (some (.inl (g_dup 49))) none) (cond (Nat.beq pc 49) (some (.inl (g_gfi 3 5 52))) none))) (cond (Nat.ble pc 53) (cond (Nat.ble pc 52) (cond (Nat.beq pc 52) (some (.inl (g_push 1 53))) none) (cond (Nat.beq pc 53) (some (.inl (g_iop (fun x y => x + y) 54))) none)) (cond (Nat.ble pc 54) (cond (Nat.beq pc 54) (some (.inl (g_pfi 3 5 57))) none) (cond (Nat.beq pc 57) (some (.inr (.inr 0))) none)))))
def kp_59 (pc : Nat) : Option KOp := cond (Nat.ble pc 6) (cond (Nat.ble pc 1) (cond (Nat.ble pc 0) (cond (Nat.beq pc 0) (some (.inl (g_ild 0 1))) none) (cond (Nat.beq pc 1) (some (.inl (g_ild 1 2))) none)) (cond (Nat.ble pc 2) (cond (Nat.beq pc 2) (some (.inl (g_br2 (fun x y => decide (x < y)) 14 5))) none) (cond (Nat.ble pc 5) (cond (Nat.beq pc 5) (some (.inl (g_ild 0 6))) none) (cond (Nat.beq pc 6) (some (.inl (g_ild 2 7))) none)))) (cond (Nat.ble pc 10) (cond (Nat.ble pc 7) (cond (Nat.beq pc 7) (some (.inl (g_br2 (fun x y => decide (y < x)) 14 10))) none) (cond (Nat.beq pc 10) (some (.inl (g_push 1 11))) none)) (cond (Nat.ble pc 11) (cond (Nat.beq pc 11) (some (.inl (g_goto 15))) none) (cond (Nat.ble pc 14) (cond (Nat.beq pc 14) (some (.inl (g_push 0 15))) none) (cond (Nat.beq pc 15) (some (.inr (.inr 2))) none))))
def kp_60 (pc : Nat) : Option KOp := cond (Nat.ble pc 1) (cond (Nat.ble pc 0) (cond (Nat.beq pc 0) (some (.inl (g_ild 0 1))) none) (cond (Nat.beq pc 1) (some (.inl (g_push 0 2))) none)) (cond (Nat.ble pc 2) (cond (Nat.beq pc 2) (some (.inl (g_push 9 4))) none) (cond (Nat.ble pc 4) (cond (Nat.beq pc 4) (some (.inr (.inl (59, 3, 7)))) none) (cond (Nat.beq pc 7) (some (.inr (.inr 2))) none)))
def kp_61 (pc : Nat) : Option KOp := cond (Nat.ble pc 10) (cond (Nat.ble pc 2) (cond (Nat.ble pc 0) (cond (Nat.beq pc 0) (some (.inl (g_ild 1 1))) none) (cond (Nat.ble pc 1) (cond (Nat.beq pc 1) (some (.inl (g_push (-1) 2))) none) (cond (Nat.beq pc 2) (some (.inl (g_br2 (fun x y => decide (¬ x = y)) 10 5))) none))) (cond (Nat.ble pc 6) (cond (Nat.ble pc 5) (cond (Nat.beq pc 5) (some (.inl (g_ald 0 6))) none) (cond (Nat.beq pc 6) (some (.inr (.inl (62, 1, 9)))) none)) (cond (Nat.ble pc 9) (cond (Nat.beq pc 9) (some (.inr (.inr 1))) none) (cond (Nat.beq pc 10) (some (.inl (g_ild 1 11))) none)))) (cond (Nat.ble pc 18) (cond (Nat.ble pc 14) (cond (Nat.ble pc 11) (cond (Nat.beq pc 11) (some (.inr (.inl (60, 1, 14)))) none) (cond (Nat.beq pc 14) (some (.inl (g_br1 (fun x => decide (x = 0)) 23 17))) none)) (cond (Nat.ble pc 17) (cond (Nat.beq pc 17) (some (.inl (g_ald 0 18))) none) (cond (Nat.beq pc 18) (some (.inl (g_ild 1 19))) none))) (cond (Nat.ble pc 20) (cond (Nat.ble pc 19) (cond (Nat.beq pc 19) (some (.inl (g_pald 5 20))) none) (cond (Nat.beq pc 20) (some (.inl (g_goto 24))) none)) (cond (Nat.ble pc 23) (cond (Nat.beq pc 23) (some (.inl (g_push (-1) 24))) none) (cond (Nat.beq pc 24) (some (.inr (.inr 1))) none))))
def kp_62 (pc : Nat) : Option KOp := cond (Nat.ble pc 13) (cond (Nat.ble pc 5) (cond (Nat.ble pc 2) (cond (Nat.ble pc 0) (cond (Nat.beq pc 0) (some (.inl (g_push 0 1))) none) (cond (Nat.ble pc 1) (cond (Nat.beq pc 1) (some (.inl (g_ist 1 2))) none) (cond (Nat.beq pc 2) (some (.inl (g_ald 0 3))) none))) (cond (Nat.ble pc 3) (cond (Nat.beq pc 3) (some (.inl (g_ast 2 4))) none) (cond (Nat.ble pc 4) (cond (Nat.beq pc 4) (some (.inl (g_ald 2 5))) none) (cond (Nat.beq pc 5) (some (.inl (g_alen 6))) none)))) (cond (Nat.ble pc 8) (cond (Nat.ble pc 6) (cond (Nat.beq pc 6) (some (.inl (g_ist 3 7))) none) (cond (Nat.ble pc 7) (cond (Nat.beq pc 7) (some (.inl (g_push 0 8))) none) (cond (Nat.beq pc 8) (some (.inl (g_ist 4 10))) none))) (cond (Nat.ble pc 10) (cond (Nat.beq pc 10) (some (.inl (g_ild 4 12))) none) (cond (Nat.ble pc 12) (cond (Nat.beq pc 12) (some (.inl (g_ild 3 13))) none) (cond (Nat.beq pc 13) (some (.inl (g_br2 (fun x y => decide (y ≤ x)) 33 16))) none))))) (cond (Nat.ble pc 23) (cond (Nat.ble pc 19) (cond (Nat.ble pc 16) (cond (Nat.beq pc 16) (some (.inl (g_ald 2 17))) none) (cond (Nat.ble pc 17) (cond (Nat.beq pc 17) (some (.inl (g_ild 4 19))) none) (cond (Nat.beq pc 19) (some (.inl (g_pald 5 20))) none))) (cond (Nat.ble pc 20) (cond (Nat.beq pc 20) (some (.inl (g_ist 5 22))) none) (cond (Nat.ble pc 22) (cond (Nat.beq pc 22) (some (.inl (g_ild 1 23))) none) (cond (Nat.beq pc 23) (some (.inl (g_ild 5 25))) none)))) (cond (Nat.ble pc 27) (cond (Nat.ble pc 25) (cond (Nat.beq pc 25) (some (.inl (g_iop (fun x y => x + y) 26))) none) (cond (Nat.ble pc 26) (cond (Nat.beq pc 26) (some (.inl (g_ist 1 27))) none) (cond (Nat.beq pc 27) (some (.inl (g_iinc 4 1 30))) none))) (cond (Nat.ble pc 30) (cond (Nat.beq pc 30) (some (.inl (g_goto 10))) none) (cond (Nat.ble pc 33) (cond (Nat.beq pc 33) (some (.inl (g_ild 1 34))) none) (cond (Nat.beq pc 34) (some (.inr (.inr 1))) none)))))
def kp_63 (pc : Nat) : Option KOp := cond (Nat.ble pc 5) (cond (Nat.ble pc 2) (cond (Nat.ble pc 0) (cond (Nat.beq pc 0) (some (.inl (g_push 0 1))) none) (cond (Nat.ble pc 1) (cond (Nat.beq pc 1) (some (.inl (g_ist 1 2))) none) (cond (Nat.beq pc 2) (some (.inl (g_ild 1 3))) none))) (cond (Nat.ble pc 3) (cond (Nat.beq pc 3) (some (.inl (g_ald 0 4))) none) (cond (Nat.ble pc 4) (cond (Nat.beq pc 4) (some (.inl (g_alen 5))) none) (cond (Nat.beq pc 5) (some (.inl (g_br2 (fun x y => decide (y ≤ x)) 18 8))) none)))) (cond (Nat.ble pc 10) (cond (Nat.ble pc 8) (cond (Nat.beq pc 8) (some (.inl (g_ald 0 9))) none) (cond (Nat.ble pc 9) (cond (Nat.beq pc 9) (some (.inl (g_ild 1 10))) none) (cond (Nat.beq pc 10) (some (.inl (g_push 0 11))) none))) (cond (Nat.ble pc 12) (cond (Nat.ble pc 11) (cond (Nat.beq pc 11) (some (.inl (g_past 5 12))) none) (cond (Nat.beq pc 12) (some (.inl (g_iinc 1 1 15))) none)) (cond (Nat.ble pc 15) (cond (Nat.beq pc 15) (some (.inl (g_goto 2))) none) (cond (Nat.beq pc 18) (some (.inr (.inr 0))) none))))
def kp_64 (pc : Nat) : Option KOp := cond (Nat.ble pc 4) (cond (Nat.ble pc 1) (cond (Nat.ble pc 0) (cond (Nat.beq pc 0) (some (.inl (g_ald 0 1))) none) (cond (Nat.beq pc 1) (some (.inl (g_push 0 2))) none)) (cond (Nat.ble pc 2) (cond (Nat.beq pc 2) (some (.inl (g_ald 1 3))) none) (cond (Nat.ble pc 3) (cond (Nat.beq pc 3) (some (.inl (g_push 0 4))) none) (cond (Nat.beq pc 4) (some (.inl (g_ald 0 5))) none)))) (cond (Nat.ble pc 7) (cond (Nat.ble pc 5) (cond (Nat.beq pc 5) (some (.inl (g_alen 6))) none) (cond (Nat.ble pc 6) (cond (Nat.beq pc 6) (some (.inl (g_ald 1 7))) none) (cond (Nat.beq pc 7) (some (.inl (g_alen 8))) none))) (cond (Nat.ble pc 8) (cond (Nat.beq pc 8) (some (.inl (g_imin 11))) none) (cond (Nat.ble pc 11) (cond (Nat.beq pc 11) (some (.inl (g_acp 14))) none) (cond (Nat.beq pc 14) (some (.inr (.inr 0))) none))))
def kp_65 (pc : Nat) : Option KOp := cond (Nat.ble pc 8) (cond (Nat.ble pc 1) (cond (Nat.ble pc 0) (cond (Nat.beq pc 0) (some (.inl (g_ild 1 1))) none) (cond (Nat.beq pc 1) (some (.inl (g_br1 (fun x => decide (x ≤ 0)) 14 4))) none)) (cond (Nat.ble pc 4) (cond (Nat.beq pc 4) (some (.inl (g_ild 0 5))) none) (cond (Nat.ble pc 5) (cond (Nat.beq pc 5) (some (.inl (g_push 1000 8))) none) (cond (Nat.beq pc 8) (some (.inl (g_iop (fun x y => x * y) 9))) none)))) (cond (Nat.ble pc 10) (cond (Nat.ble pc 9) (cond (Nat.beq pc 9) (some (.inl (g_ild 1 10))) none) (cond (Nat.beq pc 10) (some (.inl (g_idiv (fun x y => x / y) 11))) none)) (cond (Nat.ble pc 11) (cond (Nat.beq pc 11) (some (.inl (g_goto 15))) none) (cond (Nat.ble pc 14) (cond (Nat.beq pc 14) (some (.inl (g_push 0 15))) none) (cond (Nat.beq pc 15) (some (.inr (.inr 1))) none))))
def kp_66 (pc : Nat) : Option KOp := cond (Nat.ble pc 6) (cond (Nat.ble pc 1) (cond (Nat.ble pc 0) (cond (Nat.beq pc 0) (some (.inl (g_ild 0 1))) none) (cond (Nat.beq pc 1) (some (.inl (g_ild 1 2))) none)) (cond (Nat.ble pc 2) (cond (Nat.beq pc 2) (some (.inl (g_br2 (fun x y => decide (x < y)) 14 5))) none) (cond (Nat.ble pc 5) (cond (Nat.beq pc 5) (some (.inl (g_ild 0 6))) none) (cond (Nat.beq pc 6) (some (.inl (g_ild 2 7))) none)))) (cond (Nat.ble pc 10) (cond (Nat.ble pc 7) (cond (Nat.beq pc 7) (some (.inl (g_br2 (fun x y => decide (y < x)) 14 10))) none) (cond (Nat.beq pc 10) (some (.inl (g_push 1 11))) none)) (cond (Nat.ble pc 11) (cond (Nat.beq pc 11) (some (.inl (g_goto 15))) none) (cond (Nat.ble pc 14) (cond (Nat.beq pc 14) (some (.inl (g_push 0 15))) none) (cond (Nat.beq pc 15) (some (.inr (.inr 2))) none))))
def kp_67 (pc : Nat) : Option KOp := cond (Nat.ble pc 47) (cond (Nat.ble pc 23) (cond (Nat.ble pc 10) (cond (Nat.ble pc 4) (cond (Nat.ble pc 0) (cond (Nat.beq pc 0) (some (.inl (g_ald 0 1))) none) (cond (Nat.ble pc 1) (cond (Nat.beq pc 1) (some (.inl (g_gfi 4 2 4))) none) (cond (Nat.beq pc 4) (some (.inl (g_push 6 6))) none))) (cond (Nat.ble pc 6) (cond (Nat.beq pc 6) (some (.inl (g_br2 (fun x y => decide (¬ x = y)) 50 9))) none) (cond (Nat.ble pc 9) (cond (Nat.beq pc 9) (some (.inl (g_push 0 10))) none) (cond (Nat.beq pc 10) (some (.inl (g_ist 1 11))) none)))) (cond (Nat.ble pc 15) (cond (Nat.ble pc 11) (cond (Nat.beq pc 11) (some (.inl (g_ild 1 12))) none) (cond (Nat.ble pc 12) (cond (Nat.beq pc 12) (some (.inl (g_push 685 15))) none) (cond (Nat.beq pc 15) (some (.inl (g_br2 (fun x y => decide (y ≤ x)) 40 18))) none))) (cond (Nat.ble pc 19) (cond (Nat.ble pc 18) (cond (Nat.beq pc 18) (some (.inl (g_ald 0 19))) none) (cond (Nat.beq pc 19) (some (.inl (g_gfr 4 1 22))) none)) (cond (Nat.ble pc 22) (cond (Nat.beq pc 22) (some (.inl (g_ild 1 23))) none) (cond (Nat.beq pc 23) (some (.inl (g_ald 0 24))) none))))) (cond (Nat.ble pc 34) (cond (Nat.ble pc 28) (cond (Nat.ble pc 24) (cond (Nat.beq pc 24) (some (.inl (g_gfr 4 1 27))) none) (cond (Nat.ble pc 27) (cond (Nat.beq pc 27) (some (.inl (g_ild 1 28))) none) (cond (Nat.beq pc 28) (some (.inl (g_push 137 31))) none))) (cond (Nat.ble pc 32) (cond (Nat.ble pc 31) (cond (Nat.beq pc 31) (some (.inl (g_iop (fun x y => x + y) 32))) none) (cond (Nat.beq pc 32) (some (.inl (g_pald 5 33))) none)) (cond (Nat.ble pc 33) (cond (Nat.beq pc 33) (some (.inl (g_past 5 34))) none) (cond (Nat.beq pc 34) (some (.inl (g_iinc 1 1 37))) none)))) (cond (Nat.ble pc 41) (cond (Nat.ble pc 37) (cond (Nat.beq pc 37) (some (.inl (g_goto 11))) none) (cond (Nat.ble pc 40) (cond (Nat.beq pc 40) (some (.inl (g_ald 0 41))) none) (cond (Nat.beq pc 41) (some (.inl (g_dup 42))) none))) (cond (Nat.ble pc 45) (cond (Nat.ble pc 42) (cond (Nat.beq pc 42) (some (.inl (g_gfi 4 2 45))) none) (cond (Nat.beq pc 45) (some (.inl (g_push 1 46))) none)) (cond (Nat.ble pc 46) (cond (Nat.beq pc 46) (some (.inl (g_iop (fun x y => x - y) 47))) none) (cond (Nat.beq pc 47) (some (.inl (g_pfi 4 2 50))) none)))))) (cond (Nat.ble pc 72) (cond (Nat.ble pc 59) (cond (Nat.ble pc 52) (cond (Nat.ble pc 50) (cond (Nat.beq pc 50) (some (.inl (g_push 0 51))) none) (cond (Nat.ble pc 51) (cond (Nat.beq pc 51) (some (.inl (g_ist 1 52))) none) (cond (Nat.beq pc 52) (some (.inl (g_ild 1 53))) none))) (cond (Nat.ble pc 53) (cond (Nat.beq pc 53) (some (.inl (g_push 137 56))) none) (cond (Nat.ble pc 56) (cond (Nat.beq pc 56) (some (.inl (g_br2 (fun x y => decide (y ≤ x)) 86 59))) none) (cond (Nat.beq pc 59) (some (.inl (g_ald 0 60))) none)))) (cond (Nat.ble pc 66) (cond (Nat.ble pc 60) (cond (Nat.beq pc 60) (some (.inl (g_gfr 4 1 63))) none) (cond (Nat.ble pc 63) (cond (Nat.beq pc 63) (some (.inl (g_push 137 66))) none) (cond (Nat.beq pc 66) (some (.inl (g_ald 0 67))) none))) (cond (Nat.ble pc 70) (cond (Nat.ble pc 67) (cond (Nat.beq pc 67) (some (.inl (g_gfi 4 2 70))) none) (cond (Nat.beq pc 70) (some (.inl (g_iop (fun x y => x * y) 71))) none)) (cond (Nat.ble pc 71) (cond (Nat.beq pc 71) (some (.inl (g_ild 1 72))) none) (cond (Nat.beq pc 72) (some (.inl (g_iop (fun x y => x + y) 73))) none))))) (cond (Nat.ble pc 83) (cond (Nat.ble pc 77) (cond (Nat.ble pc 73) (cond (Nat.beq pc 73) (some (.inl (g_ald 0 74))) none) (cond (Nat.ble pc 74) (cond (Nat.beq pc 74) (some (.inl (g_gfr 4 0 77))) none) (cond (Nat.beq pc 77) (some (.inl (g_ild 1 78))) none))) (cond (Nat.ble pc 79) (cond (Nat.ble pc 78) (cond (Nat.beq pc 78) (some (.inl (g_pald 5 79))) none) (cond (Nat.beq pc 79) (some (.inl (g_past 5 80))) none)) (cond (Nat.ble pc 80) (cond (Nat.beq pc 80) (some (.inl (g_iinc 1 1 83))) none) (cond (Nat.beq pc 83) (some (.inl (g_goto 52))) none)))) (cond (Nat.ble pc 88) (cond (Nat.ble pc 86) (cond (Nat.beq pc 86) (some (.inl (g_ald 0 87))) none) (cond (Nat.ble pc 87) (cond (Nat.beq pc 87) (some (.inl (g_dup 88))) none) (cond (Nat.beq pc 88) (some (.inl (g_gfi 4 2 91))) none))) (cond (Nat.ble pc 92) (cond (Nat.ble pc 91) (cond (Nat.beq pc 91) (some (.inl (g_push 1 92))) none) (cond (Nat.beq pc 92) (some (.inl (g_iop (fun x y => x + y) 93))) none)) (cond (Nat.ble pc 93) (cond (Nat.beq pc 93) (some (.inl (g_pfi 4 2 96))) none) (cond (Nat.beq pc 96) (some (.inr (.inr 0))) none))))))
def kp_68 (pc : Nat) : Option KOp := cond (Nat.ble pc 29) (cond (Nat.ble pc 12) (cond (Nat.ble pc 7) (cond (Nat.ble pc 1) (cond (Nat.ble pc 0) (cond (Nat.beq pc 0) (some (.inl (g_ald 0 1))) none) (cond (Nat.beq pc 1) (some (.inl (g_gfi 4 2 4))) none)) (cond (Nat.ble pc 4) (cond (Nat.beq pc 4) (some (.inl (g_br1 (fun x => decide (¬ x = 0)) 10 7))) none) (cond (Nat.beq pc 7) (some (.inl (g_push (-2) 9))) none))) (cond (Nat.ble pc 10) (cond (Nat.ble pc 9) (cond (Nat.beq pc 9) (some (.inr (.inr 1))) none) (cond (Nat.beq pc 10) (some (.inl (g_ald 0 11))) none)) (cond (Nat.ble pc 11) (cond (Nat.beq pc 11) (some (.inl (g_dup 12))) none) (cond (Nat.beq pc 12) (some (.inl (g_gfi 4 2 15))) none)))) (cond (Nat.ble pc 20) (cond (Nat.ble pc 16) (cond (Nat.ble pc 15) (cond (Nat.beq pc 15) (some (.inl (g_push 1 16))) none) (cond (Nat.beq pc 16) (some (.inl (g_iop (fun x y => x - y) 17))) none)) (cond (Nat.ble pc 17) (cond (Nat.beq pc 17) (some (.inl (g_pfi 4 2 20))) none) (cond (Nat.beq pc 20) (some (.inl (g_push 0 21))) none))) (cond (Nat.ble pc 22) (cond (Nat.ble pc 21) (cond (Nat.beq pc 21) (some (.inl (g_ist 1 22))) none) (cond (Nat.beq pc 22) (some (.inl (g_ild 1 23))) none)) (cond (Nat.ble pc 23) (cond (Nat.beq pc 23) (some (.inl (g_push 137 26))) none) (cond (Nat.ble pc 26) (cond (Nat.beq pc 26) (some (.inl (g_br2 (fun x y => decide (y ≤ x)) 56 29))) none) (cond (Nat.beq pc 29) (some (.inl (g_ald 0 30))) none)))))) (cond (Nat.ble pc 45) (cond (Nat.ble pc 35) (cond (Nat.ble pc 33) (cond (Nat.ble pc 30) (cond (Nat.beq pc 30) (some (.inl (g_gfr 4 0 33))) none) (cond (Nat.beq pc 33) (some (.inl (g_ild 1 34))) none)) (cond (Nat.ble pc 34) (cond (Nat.beq pc 34) (some (.inl (g_ald 0 35))) none) (cond (Nat.beq pc 35) (some (.inl (g_gfr 4 1 38))) none))) (cond (Nat.ble pc 41) (cond (Nat.ble pc 38) (cond (Nat.beq pc 38) (some (.inl (g_push 137 41))) none) (cond (Nat.beq pc 41) (some (.inl (g_ald 0 42))) none)) (cond (Nat.ble pc 42) (cond (Nat.beq pc 42) (some (.inl (g_gfi 4 2 45))) none) (cond (Nat.beq pc 45) (some (.inl (g_iop (fun x y => x * y) 46))) none)))) (cond (Nat.ble pc 49) (cond (Nat.ble pc 47) (cond (Nat.ble pc 46) (cond (Nat.beq pc 46) (some (.inl (g_ild 1 47))) none) (cond (Nat.beq pc 47) (some (.inl (g_iop (fun x y => x + y) 48))) none)) (cond (Nat.ble pc 48) (cond (Nat.beq pc 48) (some (.inl (g_pald 5 49))) none) (cond (Nat.beq pc 49) (some (.inl (g_past 5 50))) none))) (cond (Nat.ble pc 53) (cond (Nat.ble pc 50) (cond (Nat.beq pc 50) (some (.inl (g_iinc 1 1 53))) none) (cond (Nat.beq pc 53) (some (.inl (g_goto 22))) none)) (cond (Nat.ble pc 56) (cond (Nat.beq pc 56) (some (.inl (g_ald 0 57))) none) (cond (Nat.ble pc 57) (cond (Nat.beq pc 57) (some (.inl (g_gfi 4 2 60))) none) (cond (Nat.beq pc 60) (some (.inr (.inr 1))) none))))))
def kp_69 (pc : Nat) : Option KOp := cond (Nat.ble pc 12) (cond (Nat.ble pc 4) (cond (Nat.ble pc 1) (cond (Nat.ble pc 0) (cond (Nat.beq pc 0) (some (.inl (g_push 0 1))) none) (cond (Nat.beq pc 1) (some (.inl (g_ist 2 2))) none)) (cond (Nat.ble pc 2) (cond (Nat.beq pc 2) (some (.inl (g_push 0 3))) none) (cond (Nat.ble pc 3) (cond (Nat.beq pc 3) (some (.inl (g_ist 3 4))) none) (cond (Nat.beq pc 4) (some (.inl (g_ild 3 5))) none)))) (cond (Nat.ble pc 7) (cond (Nat.ble pc 5) (cond (Nat.beq pc 5) (some (.inl (g_push 10 7))) none) (cond (Nat.beq pc 7) (some (.inl (g_br2 (fun x y => decide (y ≤ x)) 27 10))) none)) (cond (Nat.ble pc 10) (cond (Nat.beq pc 10) (some (.inl (g_ild 2 11))) none) (cond (Nat.ble pc 11) (cond (Nat.beq pc 11) (some (.inl (g_ald 0 12))) none) (cond (Nat.beq pc 12) (some (.inl (g_gfr 4 0 15))) none))))) (cond (Nat.ble pc 19) (cond (Nat.ble pc 16) (cond (Nat.ble pc 15) (cond (Nat.beq pc 15) (some (.inl (g_ild 1 16))) none) (cond (Nat.beq pc 16) (some (.inl (g_ild 3 17))) none)) (cond (Nat.ble pc 17) (cond (Nat.beq pc 17) (some (.inl (g_iop (fun x y => x + y) 18))) none) (cond (Nat.ble pc 18) (cond (Nat.beq pc 18) (some (.inl (g_pald 5 19))) none) (cond (Nat.beq pc 19) (some (.inl (g_iop (fun x y => x + y) 20))) none)))) (cond (Nat.ble pc 21) (cond (Nat.ble pc 20) (cond (Nat.beq pc 20) (some (.inl (g_ist 2 21))) none) (cond (Nat.beq pc 21) (some (.inl (g_iinc 3 1 24))) none)) (cond (Nat.ble pc 24) (cond (Nat.beq pc 24) (some (.inl (g_goto 4))) none) (cond (Nat.ble pc 27) (cond (Nat.beq pc 27) (some (.inl (g_ild 2 28))) none) (cond (Nat.beq pc 28) (some (.inr (.inr 1))) none)))))
def kp_70 (pc : Nat) : Option KOp := cond (Nat.ble pc 27) (cond (Nat.ble pc 11) (cond (Nat.ble pc 2) (cond (Nat.ble pc 0) (cond (Nat.beq pc 0) (some (.inl (g_ild 1 1))) none) (cond (Nat.ble pc 1) (cond (Nat.beq pc 1) (some (.inl (g_push 0 2))) none) (cond (Nat.beq pc 2) (some (.inl (g_push 9 4))) none))) (cond (Nat.ble pc 7) (cond (Nat.ble pc 4) (cond (Nat.beq pc 4) (some (.inr (.inl (66, 3, 7)))) none) (cond (Nat.beq pc 7) (some (.inl (g_br1 (fun x => decide (x = 0)) 21 10))) none)) (cond (Nat.ble pc 10) (cond (Nat.beq pc 10) (some (.inl (g_ild 2 11))) none) (cond (Nat.beq pc 11) (some (.inl (g_push 0 12))) none)))) (cond (Nat.ble pc 21) (cond (Nat.ble pc 15) (cond (Nat.ble pc 12) (cond (Nat.beq pc 12) (some (.inl (g_push 9999 15))) none) (cond (Nat.beq pc 15) (some (.inr (.inl (66, 3, 18)))) none)) (cond (Nat.ble pc 18) (cond (Nat.beq pc 18) (some (.inl (g_br1 (fun x => decide (¬ x = 0)) 23 21))) none) (cond (Nat.beq pc 21) (some (.inl (g_push (-1) 22))) none))) (cond (Nat.ble pc 23) (cond (Nat.ble pc 22) (cond (Nat.beq pc 22) (some (.inr (.inr 1))) none) (cond (Nat.beq pc 23) (some (.inl (g_ald 0 24))) none)) (cond (Nat.ble pc 24) (cond (Nat.beq pc 24) (some (.inr (.inl (67, 1, 27)))) none) (cond (Nat.beq pc 27) (some (.inl (g_ald 0 28))) none))))) (cond (Nat.ble pc 36) (cond (Nat.ble pc 32) (cond (Nat.ble pc 28) (cond (Nat.beq pc 28) (some (.inl (g_gfr 4 0 31))) none) (cond (Nat.ble pc 31) (cond (Nat.beq pc 31) (some (.inl (g_push 0 32))) none) (cond (Nat.beq pc 32) (some (.inl (g_ild 1 33))) none))) (cond (Nat.ble pc 34) (cond (Nat.ble pc 33) (cond (Nat.beq pc 33) (some (.inl (g_iop (fun x y => x + y) 34))) none) (cond (Nat.beq pc 34) (some (.inl (g_pald 5 35))) none)) (cond (Nat.ble pc 35) (cond (Nat.beq pc 35) (some (.inl (g_ist 3 36))) none) (cond (Nat.beq pc 36) (some (.inl (g_ald 0 37))) none)))) (cond (Nat.ble pc 42) (cond (Nat.ble pc 40) (cond (Nat.ble pc 37) (cond (Nat.beq pc 37) (some (.inl (g_gfr 4 0 40))) none) (cond (Nat.beq pc 40) (some (.inl (g_push 0 41))) none)) (cond (Nat.ble pc 41) (cond (Nat.beq pc 41) (some (.inl (g_ild 1 42))) none) (cond (Nat.beq pc 42) (some (.inl (g_iop (fun x y => x + y) 43))) none))) (cond (Nat.ble pc 44) (cond (Nat.ble pc 43) (cond (Nat.beq pc 43) (some (.inl (g_ild 2 44))) none) (cond (Nat.beq pc 44) (some (.inl (g_past 5 45))) none)) (cond (Nat.ble pc 45) (cond (Nat.beq pc 45) (some (.inl (g_ild 3 46))) none) (cond (Nat.beq pc 46) (some (.inr (.inr 1))) none)))))
def kp_71 (pc : Nat) : Option KOp := cond (Nat.ble pc 18) (cond (Nat.ble pc 7) (cond (Nat.ble pc 1) (cond (Nat.ble pc 0) (cond (Nat.beq pc 0) (some (.inl (g_ild 2 1))) none) (cond (Nat.beq pc 1) (some (.inl (g_push (-1) 2))) none)) (cond (Nat.ble pc 2) (cond (Nat.beq pc 2) (some (.inl (g_push 9 4))) none) (cond (Nat.ble pc 4) (cond (Nat.beq pc 4) (some (.inr (.inl (66, 3, 7)))) none) (cond (Nat.beq pc 7) (some (.inl (g_br1 (fun x => decide (¬ x = 0)) 14 10))) none)))) (cond (Nat.ble pc 11) (cond (Nat.ble pc 10) (cond (Nat.beq pc 10) (some (.inl (g_push (-1) 11))) none) (cond (Nat.beq pc 11) (some (.inl (g_goto 34))) none)) (cond (Nat.ble pc 14) (cond (Nat.beq pc 14) (some (.inl (g_ild 2 15))) none) (cond (Nat.ble pc 15) (cond (Nat.beq pc 15) (some (.inl (g_br1 (fun x => decide (0 ≤ x)) 26 18))) none) (cond (Nat.beq pc 18) (some (.inl (g_ald 0 19))) none))))) (cond (Nat.ble pc 27) (cond (Nat.ble pc 20) (cond (Nat.ble pc 19) (cond (Nat.beq pc 19) (some (.inl (g_ild 1 20))) none) (cond (Nat.beq pc 20) (some (.inr (.inl (69, 2, 23)))) none)) (cond (Nat.ble pc 23) (cond (Nat.beq pc 23) (some (.inl (g_goto 34))) none) (cond (Nat.ble pc 26) (cond (Nat.beq pc 26) (some (.inl (g_ald 0 27))) none) (cond (Nat.beq pc 27) (some (.inl (g_gfr 4 0 30))) none)))) (cond (Nat.ble pc 31) (cond (Nat.ble pc 30) (cond (Nat.beq pc 30) (some (.inl (g_ild 1 31))) none) (cond (Nat.beq pc 31) (some (.inl (g_ild 2 32))) none)) (cond (Nat.ble pc 32) (cond (Nat.beq pc 32) (some (.inl (g_iop (fun x y => x + y) 33))) none) (cond (Nat.ble pc 33) (cond (Nat.beq pc 33) (some (.inl (g_pald 5 34))) none) (cond (Nat.beq pc 34) (some (.inr (.inr 1))) none)))))
def kp_72 (pc : Nat) : Option KOp := cond (Nat.ble pc 1) (cond (Nat.ble pc 0) (cond (Nat.beq pc 0) (some (.inl (g_ald 0 1))) none) (cond (Nat.beq pc 1) (some (.inl (g_push 0 2))) none)) (cond (Nat.ble pc 2) (cond (Nat.beq pc 2) (some (.inl (g_ild 1 3))) none) (cond (Nat.ble pc 3) (cond (Nat.beq pc 3) (some (.inr (.inl (71, 3, 6)))) none) (cond (Nat.beq pc 6) (some (.inr (.inr 1))) none)))
def kp_73 (pc : Nat) : Option KOp := cond (Nat.ble pc 1) (cond (Nat.ble pc 0) (cond (Nat.beq pc 0) (some (.inl (g_ald 0 1))) none) (cond (Nat.beq pc 1) (some (.inl (g_push 10 3))) none)) (cond (Nat.ble pc 3) (cond (Nat.beq pc 3) (some (.inl (g_ild 1 4))) none) (cond (Nat.ble pc 4) (cond (Nat.beq pc 4) (some (.inr (.inl (71, 3, 7)))) none) (cond (Nat.beq pc 7) (some (.inr (.inr 1))) none)))
def kp_74 (pc : Nat) : Option KOp := cond (Nat.ble pc 49) (cond (Nat.ble pc 23) (cond (Nat.ble pc 10) (cond (Nat.ble pc 3) (cond (Nat.ble pc 1) (cond (Nat.ble pc 0) (cond (Nat.beq pc 0) (some (.inl (g_push 0 1))) none) (cond (Nat.beq pc 1) (some (.inl (g_ist 2 2))) none)) (cond (Nat.ble pc 2) (cond (Nat.beq pc 2) (some (.inl (g_push 0 3))) none) (cond (Nat.beq pc 3) (some (.inl (g_ist 3 4))) none))) (cond (Nat.ble pc 5) (cond (Nat.ble pc 4) (cond (Nat.beq pc 4) (some (.inl (g_ild 3 5))) none) (cond (Nat.beq pc 5) (some (.inl (g_push 10 7))) none)) (cond (Nat.ble pc 7) (cond (Nat.beq pc 7) (some (.inl (g_br2 (fun x y => decide (y ≤ x)) 107 10))) none) (cond (Nat.beq pc 10) (some (.inl (g_ald 0 11))) none)))) (cond (Nat.ble pc 16) (cond (Nat.ble pc 14) (cond (Nat.ble pc 11) (cond (Nat.beq pc 11) (some (.inl (g_gfr 4 0 14))) none) (cond (Nat.beq pc 14) (some (.inl (g_push 0 15))) none)) (cond (Nat.ble pc 15) (cond (Nat.beq pc 15) (some (.inl (g_ild 3 16))) none) (cond (Nat.beq pc 16) (some (.inl (g_iop (fun x y => x + y) 17))) none))) (cond (Nat.ble pc 18) (cond (Nat.ble pc 17) (cond (Nat.beq pc 17) (some (.inl (g_pald 5 18))) none) (cond (Nat.beq pc 18) (some (.inl (g_ist 4 20))) none)) (cond (Nat.ble pc 20) (cond (Nat.beq pc 20) (some (.inl (g_ild 4 22))) none) (cond (Nat.ble pc 22) (cond (Nat.beq pc 22) (some (.inl (g_push 2 23))) none) (cond (Nat.beq pc 23) (some (.inl (g_idiv (fun x y => x / y) 24))) none)))))) (cond (Nat.ble pc 34) (cond (Nat.ble pc 28) (cond (Nat.ble pc 26) (cond (Nat.ble pc 24) (cond (Nat.beq pc 24) (some (.inl (g_ild 4 26))) none) (cond (Nat.beq pc 26) (some (.inl (g_push 2 27))) none)) (cond (Nat.ble pc 27) (cond (Nat.beq pc 27) (some (.inl (g_idiv k_irem 28))) none) (cond (Nat.beq pc 28) (some (.inl (g_push 1 29))) none))) (cond (Nat.ble pc 32) (cond (Nat.ble pc 29) (cond (Nat.beq pc 29) (some (.inl (g_br2 (fun x y => decide (¬ x = y)) 42 32))) none) (cond (Nat.beq pc 32) (some (.inl (g_ild 2 33))) none)) (cond (Nat.ble pc 33) (cond (Nat.beq pc 33) (some (.inl (g_push 2 34))) none) (cond (Nat.beq pc 34) (some (.inl (g_idiv k_irem 35))) none)))) (cond (Nat.ble pc 42) (cond (Nat.ble pc 38) (cond (Nat.ble pc 35) (cond (Nat.beq pc 35) (some (.inl (g_br1 (fun x => decide (¬ x = 0)) 42 38))) none) (cond (Nat.beq pc 38) (some (.inl (g_push 1 39))) none)) (cond (Nat.ble pc 39) (cond (Nat.beq pc 39) (some (.inl (g_goto 43))) none) (cond (Nat.beq pc 42) (some (.inl (g_push 0 43))) none))) (cond (Nat.ble pc 44) (cond (Nat.ble pc 43) (cond (Nat.beq pc 43) (some (.inl (g_iop (fun x y => x + y) 44))) none) (cond (Nat.beq pc 44) (some (.inl (g_ist 5 46))) none)) (cond (Nat.ble pc 46) (cond (Nat.beq pc 46) (some (.inl (g_ild 2 47))) none) (cond (Nat.ble pc 47) (cond (Nat.beq pc 47) (some (.inl (g_ild 4 49))) none) (cond (Nat.beq pc 49) (some (.inl (g_push 2 50))) none))))))) (cond (Nat.ble pc 75) (cond (Nat.ble pc 59) (cond (Nat.ble pc 53) (cond (Nat.ble pc 51) (cond (Nat.ble pc 50) (cond (Nat.beq pc 50) (some (.inl (g_idiv k_irem 51))) none) (cond (Nat.beq pc 51) (some (.inl (g_iop (fun x y => x + y) 52))) none)) (cond (Nat.ble pc 52) (cond (Nat.beq pc 52) (some (.inl (g_ist 2 53))) none) (cond (Nat.beq pc 53) (some (.inl (g_ald 0 54))) none))) (cond (Nat.ble pc 57) (cond (Nat.ble pc 54) (cond (Nat.beq pc 54) (some (.inl (g_gfr 4 0 57))) none) (cond (Nat.beq pc 57) (some (.inl (g_push 0 58))) none)) (cond (Nat.ble pc 58) (cond (Nat.beq pc 58) (some (.inl (g_ild 3 59))) none) (cond (Nat.beq pc 59) (some (.inl (g_iop (fun x y => x + y) 60))) none)))) (cond (Nat.ble pc 66) (cond (Nat.ble pc 61) (cond (Nat.ble pc 60) (cond (Nat.beq pc 60) (some (.inl (g_ild 1 61))) none) (cond (Nat.beq pc 61) (some (.inl (g_br1 (fun x => decide (¬ x = 0)) 69 64))) none)) (cond (Nat.ble pc 64) (cond (Nat.beq pc 64) (some (.inl (g_ild 5 66))) none) (cond (Nat.beq pc 66) (some (.inl (g_goto 74))) none))) (cond (Nat.ble pc 71) (cond (Nat.ble pc 69) (cond (Nat.beq pc 69) (some (.inl (g_ild 4 71))) none) (cond (Nat.beq pc 71) (some (.inl (g_ild 5 73))) none)) (cond (Nat.ble pc 73) (cond (Nat.beq pc 73) (some (.inl (g_iop (fun x y => x - y) 74))) none) (cond (Nat.ble pc 74) (cond (Nat.beq pc 74) (some (.inl (g_past 5 75))) none) (cond (Nat.beq pc 75) (some (.inl (g_ald 0 76))) none)))))) (cond (Nat.ble pc 89) (cond (Nat.ble pc 82) (cond (Nat.ble pc 79) (cond (Nat.ble pc 76) (cond (Nat.beq pc 76) (some (.inl (g_gfr 4 0 79))) none) (cond (Nat.beq pc 79) (some (.inl (g_push 10 81))) none)) (cond (Nat.ble pc 81) (cond (Nat.beq pc 81) (some (.inl (g_ild 3 82))) none) (cond (Nat.beq pc 82) (some (.inl (g_iop (fun x y => x + y) 83))) none))) (cond (Nat.ble pc 84) (cond (Nat.ble pc 83) (cond (Nat.beq pc 83) (some (.inl (g_dup2 84))) none) (cond (Nat.beq pc 84) (some (.inl (g_pald 5 85))) none)) (cond (Nat.ble pc 85) (cond (Nat.beq pc 85) (some (.inl (g_ild 1 86))) none) (cond (Nat.ble pc 86) (cond (Nat.beq pc 86) (some (.inl (g_br1 (fun x => decide (¬ x = 0)) 97 89))) none) (cond (Nat.beq pc 89) (some (.inl (g_ild 4 91))) none))))) (cond (Nat.ble pc 97) (cond (Nat.ble pc 93) (cond (Nat.ble pc 91) (cond (Nat.beq pc 91) (some (.inl (g_ild 5 93))) none) (cond (Nat.beq pc 93) (some (.inl (g_iop (fun x y => x - y) 94))) none)) (cond (Nat.ble pc 94) (cond (Nat.beq pc 94) (some (.inl (g_goto 99))) none) (cond (Nat.beq pc 97) (some (.inl (g_ild 5 99))) none))) (cond (Nat.ble pc 100) (cond (Nat.ble pc 99) (cond (Nat.beq pc 99) (some (.inl (g_iop (fun x y => x + y) 100))) none) (cond (Nat.beq pc 100) (some (.inl (g_past 5 101))) none)) (cond (Nat.ble pc 101) (cond (Nat.beq pc 101) (some (.inl (g_iinc 3 1 104))) none) (cond (Nat.ble pc 104) (cond (Nat.beq pc 104) (some (.inl (g_goto 4))) none) (cond (Nat.beq pc 107) (some (.inr (.inr 0))) none)))))))
def kp_75 (pc : Nat) : Option KOp := cond (Nat.ble pc 16) (cond (Nat.ble pc 6) (cond (Nat.ble pc 1) (cond (Nat.ble pc 0) (cond (Nat.beq pc 0) (some (.inl (g_ild 1 1))) none) (cond (Nat.beq pc 1) (some (.inl (g_push 0 2))) none)) (cond (Nat.ble pc 2) (cond (Nat.beq pc 2) (some (.inl (g_push 1 3))) none) (cond (Nat.ble pc 3) (cond (Nat.beq pc 3) (some (.inr (.inl (66, 3, 6)))) none) (cond (Nat.beq pc 6) (some (.inl (g_br1 (fun x => decide (¬ x = 0)) 11 9))) none)))) (cond (Nat.ble pc 11) (cond (Nat.ble pc 9) (cond (Nat.beq pc 9) (some (.inl (g_push (-1) 10))) none) (cond (Nat.ble pc 10) (cond (Nat.beq pc 10) (some (.inr (.inr 1))) none) (cond (Nat.beq pc 11) (some (.inl (g_ald 0 12))) none))) (cond (Nat.ble pc 12) (cond (Nat.beq pc 12) (some (.inl (g_push 0 13))) none) (cond (Nat.ble pc 13) (cond (Nat.beq pc 13) (some (.inr (.inl (69, 2, 16)))) none) (cond (Nat.beq pc 16) (some (.inl (g_br1 (fun x => decide (¬ x = 0)) 22 19))) none))))) (cond (Nat.ble pc 26) (cond (Nat.ble pc 21) (cond (Nat.ble pc 19) (cond (Nat.beq pc 19) (some (.inl (g_push (-2) 21))) none) (cond (Nat.beq pc 21) (some (.inr (.inr 1))) none)) (cond (Nat.ble pc 22) (cond (Nat.beq pc 22) (some (.inl (g_ald 0 23))) none) (cond (Nat.ble pc 23) (cond (Nat.beq pc 23) (some (.inr (.inl (67, 1, 26)))) none) (cond (Nat.beq pc 26) (some (.inl (g_ald 0 27))) none)))) (cond (Nat.ble pc 31) (cond (Nat.ble pc 27) (cond (Nat.beq pc 27) (some (.inl (g_ild 1 28))) none) (cond (Nat.ble pc 28) (cond (Nat.beq pc 28) (some (.inr (.inl (74, 2, 31)))) none) (cond (Nat.beq pc 31) (some (.inl (g_ald 0 32))) none))) (cond (Nat.ble pc 32) (cond (Nat.beq pc 32) (some (.inl (g_push 0 33))) none) (cond (Nat.ble pc 33) (cond (Nat.beq pc 33) (some (.inr (.inl (69, 2, 36)))) none) (cond (Nat.beq pc 36) (some (.inr (.inr 1))) none)))))
def kp_76 (pc : Nat) : Option KOp := cond (Nat.ble pc 18) (cond (Nat.ble pc 8) (cond (Nat.ble pc 1) (cond (Nat.ble pc 0) (cond (Nat.beq pc 0) (some (.inl (g_ild 1 1))) none) (cond (Nat.beq pc 1) (some (.inl (g_push 1 2))) none)) (cond (Nat.ble pc 2) (cond (Nat.beq pc 2) (some (.inl (g_push 9999 5))) none) (cond (Nat.ble pc 5) (cond (Nat.beq pc 5) (some (.inr (.inl (66, 3, 8)))) none) (cond (Nat.beq pc 8) (some (.inl (g_br1 (fun x => decide (¬ x = 0)) 13 11))) none)))) (cond (Nat.ble pc 13) (cond (Nat.ble pc 11) (cond (Nat.beq pc 11) (some (.inl (g_push (-1) 12))) none) (cond (Nat.ble pc 12) (cond (Nat.beq pc 12) (some (.inr (.inr 1))) none) (cond (Nat.beq pc 13) (some (.inl (g_ald 0 14))) none))) (cond (Nat.ble pc 14) (cond (Nat.beq pc 14) (some (.inr (.inl (67, 1, 17)))) none) (cond (Nat.ble pc 17) (cond (Nat.beq pc 17) (some (.inl (g_push 0 18))) none) (cond (Nat.beq pc 18) (some (.inl (g_ist 2 19))) none))))) (cond (Nat.ble pc 28) (cond (Nat.ble pc 21) (cond (Nat.ble pc 19) (cond (Nat.beq pc 19) (some (.inl (g_ald 0 20))) none) (cond (Nat.ble pc 20) (cond (Nat.beq pc 20) (some (.inl (g_push 0 21))) none) (cond (Nat.beq pc 21) (some (.inr (.inl (69, 2, 24)))) none))) (cond (Nat.ble pc 24) (cond (Nat.beq pc 24) (some (.inl (g_ild 1 25))) none) (cond (Nat.ble pc 25) (cond (Nat.beq pc 25) (some (.inl (g_br2 (fun x y => decide (x ≤ y)) 39 28))) none) (cond (Nat.beq pc 28) (some (.inl (g_ald 0 29))) none)))) (cond (Nat.ble pc 33) (cond (Nat.ble pc 29) (cond (Nat.beq pc 29) (some (.inl (g_push 0 30))) none) (cond (Nat.ble pc 30) (cond (Nat.beq pc 30) (some (.inr (.inl (74, 2, 33)))) none) (cond (Nat.beq pc 33) (some (.inl (g_iinc 2 1 36))) none))) (cond (Nat.ble pc 36) (cond (Nat.beq pc 36) (some (.inl (g_goto 19))) none) (cond (Nat.ble pc 39) (cond (Nat.beq pc 39) (some (.inl (g_ild 2 40))) none) (cond (Nat.beq pc 40) (some (.inr (.inr 1))) none)))))
def kp_77 (pc : Nat) : Option KOp := cond (Nat.ble pc 47) (cond (Nat.ble pc 20) (cond (Nat.ble pc 9) (cond (Nat.ble pc 2) (cond (Nat.ble pc 0) (cond (Nat.beq pc 0) (some (.inl (g_push 0 1))) none) (cond (Nat.ble pc 1) (cond (Nat.beq pc 1) (some (.inl (g_ist 1 2))) none) (cond (Nat.beq pc 2) (some (.inl (g_ild 1 3))) none))) (cond (Nat.ble pc 5) (cond (Nat.ble pc 3) (cond (Nat.beq pc 3) (some (.inl (g_push 10 5))) none) (cond (Nat.beq pc 5) (some (.inl (g_br2 (fun x y => decide (y ≤ x)) 41 8))) none)) (cond (Nat.ble pc 8) (cond (Nat.beq pc 8) (some (.inl (g_ald 0 9))) none) (cond (Nat.beq pc 9) (some (.inl (g_gfr 4 0 12))) none)))) (cond (Nat.ble pc 14) (cond (Nat.ble pc 12) (cond (Nat.beq pc 12) (some (.inl (g_push 0 13))) none) (cond (Nat.ble pc 13) (cond (Nat.beq pc 13) (some (.inl (g_ild 1 14))) none) (cond (Nat.beq pc 14) (some (.inl (g_iop (fun x y => x + y) 15))) none))) (cond (Nat.ble pc 16) (cond (Nat.ble pc 15) (cond (Nat.beq pc 15) (some (.inl (g_pald 5 16))) none) (cond (Nat.beq pc 16) (some (.inl (g_ald 0 17))) none)) (cond (Nat.ble pc 17) (cond (Nat.beq pc 17) (some (.inl (g_gfr 4 0 20))) none) (cond (Nat.beq pc 20) (some (.inl (g_push 10 22))) none))))) (cond (Nat.ble pc 32) (cond (Nat.ble pc 24) (cond (Nat.ble pc 22) (cond (Nat.beq pc 22) (some (.inl (g_ild 1 23))) none) (cond (Nat.ble pc 23) (cond (Nat.beq pc 23) (some (.inl (g_iop (fun x y => x + y) 24))) none) (cond (Nat.beq pc 24) (some (.inl (g_pald 5 25))) none))) (cond (Nat.ble pc 26) (cond (Nat.ble pc 25) (cond (Nat.beq pc 25) (some (.inl (g_iop (fun x y => x + y) 26))) none) (cond (Nat.beq pc 26) (some (.inl (g_push 9999 29))) none)) (cond (Nat.ble pc 29) (cond (Nat.beq pc 29) (some (.inl (g_br2 (fun x y => decide (x ≤ y)) 35 32))) none) (cond (Nat.beq pc 32) (some (.inl (g_push (-3) 34))) none)))) (cond (Nat.ble pc 41) (cond (Nat.ble pc 35) (cond (Nat.ble pc 34) (cond (Nat.beq pc 34) (some (.inr (.inr 1))) none) (cond (Nat.beq pc 35) (some (.inl (g_iinc 1 1 38))) none)) (cond (Nat.ble pc 38) (cond (Nat.beq pc 38) (some (.inl (g_goto 2))) none) (cond (Nat.beq pc 41) (some (.inl (g_ald 0 42))) none))) (cond (Nat.ble pc 45) (cond (Nat.ble pc 42) (cond (Nat.beq pc 42) (some (.inr (.inl (67, 1, 45)))) none) (cond (Nat.beq pc 45) (some (.inl (g_push 0 46))) none)) (cond (Nat.ble pc 46) (cond (Nat.beq pc 46) (some (.inl (g_ist 1 47))) none) (cond (Nat.beq pc 47) (some (.inl (g_ild 1 48))) none)))))) (cond (Nat.ble pc 70) (cond (Nat.ble pc 59) (cond (Nat.ble pc 53) (cond (Nat.ble pc 48) (cond (Nat.beq pc 48) (some (.inl (g_push 10 50))) none) (cond (Nat.ble pc 50) (cond (Nat.beq pc 50) (some (.inl (g_br2 (fun x y => decide (y ≤ x)) 89 53))) none) (cond (Nat.beq pc 53) (some (.inl (g_ald 0 54))) none))) (cond (Nat.ble pc 57) (cond (Nat.ble pc 54) (cond (Nat.beq pc 54) (some (.inl (g_gfr 4 0 57))) none) (cond (Nat.beq pc 57) (some (.inl (g_push 0 58))) none)) (cond (Nat.ble pc 58) (cond (Nat.beq pc 58) (some (.inl (g_ild 1 59))) none) (cond (Nat.beq pc 59) (some (.inl (g_iop (fun x y => x + y) 60))) none)))) (cond (Nat.ble pc 63) (cond (Nat.ble pc 61) (cond (Nat.ble pc 60) (cond (Nat.beq pc 60) (some (.inl (g_dup2 61))) none) (cond (Nat.beq pc 61) (some (.inl (g_pald 5 62))) none)) (cond (Nat.ble pc 62) (cond (Nat.beq pc 62) (some (.inl (g_ald 0 63))) none) (cond (Nat.beq pc 63) (some (.inl (g_gfr 4 0 66))) none))) (cond (Nat.ble pc 68) (cond (Nat.ble pc 66) (cond (Nat.beq pc 66) (some (.inl (g_push 10 68))) none) (cond (Nat.beq pc 68) (some (.inl (g_ild 1 69))) none)) (cond (Nat.ble pc 69) (cond (Nat.beq pc 69) (some (.inl (g_iop (fun x y => x + y) 70))) none) (cond (Nat.beq pc 70) (some (.inl (g_pald 5 71))) none))))) (cond (Nat.ble pc 80) (cond (Nat.ble pc 73) (cond (Nat.ble pc 71) (cond (Nat.beq pc 71) (some (.inl (g_iop (fun x y => x + y) 72))) none) (cond (Nat.ble pc 72) (cond (Nat.beq pc 72) (some (.inl (g_past 5 73))) none) (cond (Nat.beq pc 73) (some (.inl (g_ald 0 74))) none))) (cond (Nat.ble pc 77) (cond (Nat.ble pc 74) (cond (Nat.beq pc 74) (some (.inl (g_gfr 4 0 77))) none) (cond (Nat.beq pc 77) (some (.inl (g_push 10 79))) none)) (cond (Nat.ble pc 79) (cond (Nat.beq pc 79) (some (.inl (g_ild 1 80))) none) (cond (Nat.beq pc 80) (some (.inl (g_iop (fun x y => x + y) 81))) none)))) (cond (Nat.ble pc 86) (cond (Nat.ble pc 82) (cond (Nat.ble pc 81) (cond (Nat.beq pc 81) (some (.inl (g_push 0 82))) none) (cond (Nat.beq pc 82) (some (.inl (g_past 5 83))) none)) (cond (Nat.ble pc 83) (cond (Nat.beq pc 83) (some (.inl (g_iinc 1 1 86))) none) (cond (Nat.beq pc 86) (some (.inl (g_goto 47))) none))) (cond (Nat.ble pc 90) (cond (Nat.ble pc 89) (cond (Nat.beq pc 89) (some (.inl (g_ald 0 90))) none) (cond (Nat.beq pc 90) (some (.inl (g_push 0 91))) none)) (cond (Nat.ble pc 91) (cond (Nat.beq pc 91) (some (.inr (.inl (69, 2, 94)))) none) (cond (Nat.beq pc 94) (some (.inr (.inr 1))) none))))))
def kp_78 (pc : Nat) : Option KOp := cond (Nat.ble pc 25) (cond (Nat.ble pc 12) (cond (Nat.ble pc 2) (cond (Nat.ble pc 0) (cond (Nat.beq pc 0) (some (.inl (g_ild 1 1))) none) (cond (Nat.ble pc 1) (cond (Nat.beq pc 1) (some (.inl (g_push 0 2))) none) (cond (Nat.beq pc 2) (some (.inl (g_push 255 5))) none))) (cond (Nat.ble pc 8) (cond (Nat.ble pc 5) (cond (Nat.beq pc 5) (some (.inr (.inl (66, 3, 8)))) none) (cond (Nat.beq pc 8) (some (.inl (g_br1 (fun x => decide (¬ x = 0)) 13 11))) none)) (cond (Nat.ble pc 11) (cond (Nat.beq pc 11) (some (.inl (g_push (-1) 12))) none) (cond (Nat.beq pc 12) (some (.inr (.inr 1))) none)))) (cond (Nat.ble pc 17) (cond (Nat.ble pc 13) (cond (Nat.beq pc 13) (some (.inl (g_ald 0 14))) none) (cond (Nat.ble pc 14) (cond (Nat.beq pc 14) (some (.inl (g_gfi 4 4 17))) none) (cond (Nat.beq pc 17) (some (.inl (g_push 80 19))) none))) (cond (Nat.ble pc 22) (cond (Nat.ble pc 19) (cond (Nat.beq pc 19) (some (.inl (g_br2 (fun x y => decide (¬ x = y)) 25 22))) none) (cond (Nat.beq pc 22) (some (.inl (g_push (-3) 24))) none)) (cond (Nat.ble pc 24) (cond (Nat.beq pc 24) (some (.inr (.inr 1))) none) (cond (Nat.beq pc 25) (some (.inl (g_ald 0 26))) none))))) (cond (Nat.ble pc 36) (cond (Nat.ble pc 30) (cond (Nat.ble pc 26) (cond (Nat.beq pc 26) (some (.inl (g_gfr 4 3 29))) none) (cond (Nat.ble pc 29) (cond (Nat.beq pc 29) (some (.inl (g_ald 0 30))) none) (cond (Nat.beq pc 30) (some (.inl (g_gfi 4 4 33))) none))) (cond (Nat.ble pc 34) (cond (Nat.ble pc 33) (cond (Nat.beq pc 33) (some (.inl (g_ild 1 34))) none) (cond (Nat.beq pc 34) (some (.inl (g_i2i k_i2b 35))) none)) (cond (Nat.ble pc 35) (cond (Nat.beq pc 35) (some (.inl (g_past 8 36))) none) (cond (Nat.beq pc 36) (some (.inl (g_ald 0 37))) none)))) (cond (Nat.ble pc 42) (cond (Nat.ble pc 38) (cond (Nat.ble pc 37) (cond (Nat.beq pc 37) (some (.inl (g_dup 38))) none) (cond (Nat.beq pc 38) (some (.inl (g_gfi 4 4 41))) none)) (cond (Nat.ble pc 41) (cond (Nat.beq pc 41) (some (.inl (g_push 1 42))) none) (cond (Nat.beq pc 42) (some (.inl (g_iop (fun x y => x + y) 43))) none))) (cond (Nat.ble pc 46) (cond (Nat.ble pc 43) (cond (Nat.beq pc 43) (some (.inl (g_pfi 4 4 46))) none) (cond (Nat.beq pc 46) (some (.inl (g_ald 0 47))) none)) (cond (Nat.ble pc 47) (cond (Nat.beq pc 47) (some (.inl (g_gfi 4 4 50))) none) (cond (Nat.beq pc 50) (some (.inr (.inr 1))) none)))))
def kp_79 (pc : Nat) : Option KOp := cond (Nat.ble pc 5) (cond (Nat.ble pc 1) (cond (Nat.ble pc 0) (cond (Nat.beq pc 0) (some (.inl (g_ald 0 1))) none) (cond (Nat.beq pc 1) (some (.inl (g_gfi 4 4 4))) none)) (cond (Nat.ble pc 4) (cond (Nat.beq pc 4) (some (.inl (g_ist 1 5))) none) (cond (Nat.beq pc 5) (some (.inl (g_ald 0 6))) none))) (cond (Nat.ble pc 7) (cond (Nat.ble pc 6) (cond (Nat.beq pc 6) (some (.inl (g_push 0 7))) none) (cond (Nat.beq pc 7) (some (.inl (g_pfi 4 4 10))) none)) (cond (Nat.ble pc 10) (cond (Nat.beq pc 10) (some (.inl (g_ild 1 11))) none) (cond (Nat.beq pc 11) (some (.inr (.inr 1))) none)))
def kp_80 (pc : Nat) : Option KOp := cond (Nat.ble pc 31) (cond (Nat.ble pc 15) (cond (Nat.ble pc 5) (cond (Nat.ble pc 1) (cond (Nat.ble pc 0) (cond (Nat.beq pc 0) (some (.inl (g_ald 0 1))) none) (cond (Nat.beq pc 1) (some (.inl (g_gfi 4 7 4))) none)) (cond (Nat.ble pc 4) (cond (Nat.beq pc 4) (some (.inl (g_ald 0 5))) none) (cond (Nat.beq pc 5) (some (.inl (g_gfi 4 4 8))) none))) (cond (Nat.ble pc 11) (cond (Nat.ble pc 8) (cond (Nat.beq pc 8) (some (.inl (g_br2 (fun x y => decide (y ≤ x)) 38 11))) none) (cond (Nat.beq pc 11) (some (.inl (g_ald 0 12))) none)) (cond (Nat.ble pc 12) (cond (Nat.beq pc 12) (some (.inl (g_gfr 4 3 15))) none) (cond (Nat.beq pc 15) (some (.inl (g_ald 0 16))) none)))) (cond (Nat.ble pc 22) (cond (Nat.ble pc 19) (cond (Nat.ble pc 16) (cond (Nat.beq pc 16) (some (.inl (g_gfi 4 7 19))) none) (cond (Nat.beq pc 19) (some (.inl (g_pald 8 20))) none)) (cond (Nat.ble pc 20) (cond (Nat.beq pc 20) (some (.inl (g_push 32 22))) none) (cond (Nat.beq pc 22) (some (.inl (g_br2 (fun x y => decide (¬ x = y)) 38 25))) none))) (cond (Nat.ble pc 26) (cond (Nat.ble pc 25) (cond (Nat.beq pc 25) (some (.inl (g_ald 0 26))) none) (cond (Nat.beq pc 26) (some (.inl (g_dup 27))) none)) (cond (Nat.ble pc 27) (cond (Nat.beq pc 27) (some (.inl (g_gfi 4 7 30))) none) (cond (Nat.ble pc 30) (cond (Nat.beq pc 30) (some (.inl (g_push 1 31))) none) (cond (Nat.beq pc 31) (some (.inl (g_iop (fun x y => x + y) 32))) none)))))) (cond (Nat.ble pc 49) (cond (Nat.ble pc 39) (cond (Nat.ble pc 35) (cond (Nat.ble pc 32) (cond (Nat.beq pc 32) (some (.inl (g_pfi 4 7 35))) none) (cond (Nat.beq pc 35) (some (.inl (g_goto 0))) none)) (cond (Nat.ble pc 38) (cond (Nat.beq pc 38) (some (.inl (g_ald 0 39))) none) (cond (Nat.beq pc 39) (some (.inl (g_gfi 4 7 42))) none))) (cond (Nat.ble pc 43) (cond (Nat.ble pc 42) (cond (Nat.beq pc 42) (some (.inl (g_ald 0 43))) none) (cond (Nat.beq pc 43) (some (.inl (g_gfi 4 4 46))) none)) (cond (Nat.ble pc 46) (cond (Nat.beq pc 46) (some (.inl (g_br2 (fun x y => decide (y ≤ x)) 65 49))) none) (cond (Nat.beq pc 49) (some (.inl (g_ald 0 50))) none)))) (cond (Nat.ble pc 57) (cond (Nat.ble pc 53) (cond (Nat.ble pc 50) (cond (Nat.beq pc 50) (some (.inl (g_gfr 4 3 53))) none) (cond (Nat.beq pc 53) (some (.inl (g_ald 0 54))) none)) (cond (Nat.ble pc 54) (cond (Nat.beq pc 54) (some (.inl (g_gfi 4 7 57))) none) (cond (Nat.beq pc 57) (some (.inl (g_pald 8 58))) none))) (cond (Nat.ble pc 61) (cond (Nat.ble pc 58) (cond (Nat.beq pc 58) (some (.inl (g_push 255 61))) none) (cond (Nat.beq pc 61) (some (.inl (g_iop (fun x y => x &&& y) 62))) none)) (cond (Nat.ble pc 62) (cond (Nat.beq pc 62) (some (.inl (g_goto 66))) none) (cond (Nat.ble pc 65) (cond (Nat.beq pc 65) (some (.inl (g_push (-1) 66))) none) (cond (Nat.beq pc 66) (some (.inr (.inr 1))) none))))))
def kp_81 (pc : Nat) : Option KOp := cond (Nat.ble pc 107) (cond (Nat.ble pc 50) (cond (Nat.ble pc 24) (cond (Nat.ble pc 9) (cond (Nat.ble pc 4) (cond (Nat.ble pc 0) (cond (Nat.beq pc 0) (some (.inl (g_ald 0 1))) none) (cond (Nat.ble pc 1) (cond (Nat.beq pc 1) (some (.inr (.inl (80, 1, 4)))) none) (cond (Nat.beq pc 4) (some (.inl (g_push 48 6))) none))) (cond (Nat.ble pc 7) (cond (Nat.ble pc 6) (cond (Nat.beq pc 6) (some (.inl (g_iop (fun x y => x - y) 7))) none) (cond (Nat.beq pc 7) (some (.inl (g_ist 1 8))) none)) (cond (Nat.ble pc 8) (cond (Nat.beq pc 8) (some (.inl (g_ild 1 9))) none) (cond (Nat.beq pc 9) (some (.inl (g_push 0 10))) none)))) (cond (Nat.ble pc 18) (cond (Nat.ble pc 12) (cond (Nat.ble pc 10) (cond (Nat.beq pc 10) (some (.inl (g_push 9 12))) none) (cond (Nat.beq pc 12) (some (.inr (.inl (66, 3, 15)))) none)) (cond (Nat.ble pc 15) (cond (Nat.beq pc 15) (some (.inl (g_br1 (fun x => decide (x = 0)) 27 18))) none) (cond (Nat.beq pc 18) (some (.inl (g_ald 0 19))) none))) (cond (Nat.ble pc 22) (cond (Nat.ble pc 19) (cond (Nat.beq pc 19) (some (.inl (g_gfr 4 6 22))) none) (cond (Nat.beq pc 22) (some (.inl (g_ild 1 23))) none)) (cond (Nat.ble pc 23) (cond (Nat.beq pc 23) (some (.inl (g_pald 5 24))) none) (cond (Nat.beq pc 24) (some (.inl (g_br1 (fun x => decide (x < 0)) 29 27))) none))))) (cond (Nat.ble pc 35) (cond (Nat.ble pc 29) (cond (Nat.ble pc 27) (cond (Nat.beq pc 27) (some (.inl (g_push 0 28))) none) (cond (Nat.ble pc 28) (cond (Nat.beq pc 28) (some (.inr (.inr 2))) none) (cond (Nat.beq pc 29) (some (.inl (g_ald 0 30))) none))) (cond (Nat.ble pc 31) (cond (Nat.ble pc 30) (cond (Nat.beq pc 30) (some (.inl (g_dup 31))) none) (cond (Nat.beq pc 31) (some (.inl (g_gfi 4 7 34))) none)) (cond (Nat.ble pc 34) (cond (Nat.beq pc 34) (some (.inl (g_push 1 35))) none) (cond (Nat.beq pc 35) (some (.inl (g_iop (fun x y => x + y) 36))) none)))) (cond (Nat.ble pc 43) (cond (Nat.ble pc 39) (cond (Nat.ble pc 36) (cond (Nat.beq pc 36) (some (.inl (g_pfi 4 7 39))) none) (cond (Nat.beq pc 39) (some (.inl (g_ald 0 40))) none)) (cond (Nat.ble pc 40) (cond (Nat.beq pc 40) (some (.inr (.inl (80, 1, 43)))) none) (cond (Nat.beq pc 43) (some (.inl (g_push 58 45))) none))) (cond (Nat.ble pc 48) (cond (Nat.ble pc 45) (cond (Nat.beq pc 45) (some (.inl (g_br2 (fun x y => decide (x = y)) 50 48))) none) (cond (Nat.beq pc 48) (some (.inl (g_push 0 49))) none)) (cond (Nat.ble pc 49) (cond (Nat.beq pc 49) (some (.inr (.inr 2))) none) (cond (Nat.beq pc 50) (some (.inl (g_ald 0 51))) none)))))) (cond (Nat.ble pc 74) (cond (Nat.ble pc 61) (cond (Nat.ble pc 55) (cond (Nat.ble pc 51) (cond (Nat.beq pc 51) (some (.inl (g_dup 52))) none) (cond (Nat.ble pc 52) (cond (Nat.beq pc 52) (some (.inl (g_gfi 4 7 55))) none) (cond (Nat.beq pc 55) (some (.inl (g_push 1 56))) none))) (cond (Nat.ble pc 57) (cond (Nat.ble pc 56) (cond (Nat.beq pc 56) (some (.inl (g_iop (fun x y => x + y) 57))) none) (cond (Nat.beq pc 57) (some (.inl (g_pfi 4 7 60))) none)) (cond (Nat.ble pc 60) (cond (Nat.beq pc 60) (some (.inl (g_ald 0 61))) none) (cond (Nat.beq pc 61) (some (.inr (.inl (80, 1, 64)))) none)))) (cond (Nat.ble pc 69) (cond (Nat.ble pc 65) (cond (Nat.ble pc 64) (cond (Nat.beq pc 64) (some (.inl (g_ist 2 65))) none) (cond (Nat.beq pc 65) (some (.inl (g_ald 0 66))) none)) (cond (Nat.ble pc 66) (cond (Nat.beq pc 66) (some (.inl (g_gfi 4 7 69))) none) (cond (Nat.beq pc 69) (some (.inl (g_ist 3 70))) none))) (cond (Nat.ble pc 71) (cond (Nat.ble pc 70) (cond (Nat.beq pc 70) (some (.inl (g_push 0 71))) none) (cond (Nat.beq pc 71) (some (.inl (g_ist 4 73))) none)) (cond (Nat.ble pc 73) (cond (Nat.beq pc 73) (some (.inl (g_ald 0 74))) none) (cond (Nat.beq pc 74) (some (.inl (g_gfi 4 7 77))) none))))) (cond (Nat.ble pc 89) (cond (Nat.ble pc 81) (cond (Nat.ble pc 77) (cond (Nat.beq pc 77) (some (.inl (g_ald 0 78))) none) (cond (Nat.ble pc 78) (cond (Nat.beq pc 78) (some (.inl (g_gfi 4 4 81))) none) (cond (Nat.beq pc 81) (some (.inl (g_br2 (fun x y => decide (y ≤ x)) 148 84))) none))) (cond (Nat.ble pc 85) (cond (Nat.ble pc 84) (cond (Nat.beq pc 84) (some (.inl (g_ald 0 85))) none) (cond (Nat.beq pc 85) (some (.inl (g_gfr 4 3 88))) none)) (cond (Nat.ble pc 88) (cond (Nat.beq pc 88) (some (.inl (g_ald 0 89))) none) (cond (Nat.beq pc 89) (some (.inl (g_gfi 4 7 92))) none)))) (cond (Nat.ble pc 97) (cond (Nat.ble pc 93) (cond (Nat.ble pc 92) (cond (Nat.beq pc 92) (some (.inl (g_pald 8 93))) none) (cond (Nat.beq pc 93) (some (.inl (g_push 48 95))) none)) (cond (Nat.ble pc 95) (cond (Nat.beq pc 95) (some (.inl (g_push 57 97))) none) (cond (Nat.beq pc 97) (some (.inr (.inl (66, 3, 100)))) none))) (cond (Nat.ble pc 103) (cond (Nat.ble pc 100) (cond (Nat.beq pc 100) (some (.inl (g_br1 (fun x => decide (x = 0)) 148 103))) none) (cond (Nat.beq pc 103) (some (.inl (g_ild 4 105))) none)) (cond (Nat.ble pc 105) (cond (Nat.beq pc 105) (some (.inl (g_push 100000 107))) none) (cond (Nat.beq pc 107) (some (.inl (g_br2 (fun x y => decide (y ≤ x)) 131 110))) none))))))) (cond (Nat.ble pc 162) (cond (Nat.ble pc 135) (cond (Nat.ble pc 120) (cond (Nat.ble pc 114) (cond (Nat.ble pc 110) (cond (Nat.beq pc 110) (some (.inl (g_push 10 112))) none) (cond (Nat.ble pc 112) (cond (Nat.beq pc 112) (some (.inl (g_ild 4 114))) none) (cond (Nat.beq pc 114) (some (.inl (g_iop (fun x y => x * y) 115))) none))) (cond (Nat.ble pc 116) (cond (Nat.ble pc 115) (cond (Nat.beq pc 115) (some (.inl (g_ald 0 116))) none) (cond (Nat.beq pc 116) (some (.inl (g_gfr 4 3 119))) none)) (cond (Nat.ble pc 119) (cond (Nat.beq pc 119) (some (.inl (g_ald 0 120))) none) (cond (Nat.beq pc 120) (some (.inl (g_gfi 4 7 123))) none)))) (cond (Nat.ble pc 127) (cond (Nat.ble pc 124) (cond (Nat.ble pc 123) (cond (Nat.beq pc 123) (some (.inl (g_pald 8 124))) none) (cond (Nat.beq pc 124) (some (.inl (g_iop (fun x y => x + y) 125))) none)) (cond (Nat.ble pc 125) (cond (Nat.beq pc 125) (some (.inl (g_push 48 127))) none) (cond (Nat.beq pc 127) (some (.inl (g_iop (fun x y => x - y) 128))) none))) (cond (Nat.ble pc 131) (cond (Nat.ble pc 128) (cond (Nat.beq pc 128) (some (.inl (g_goto 133))) none) (cond (Nat.beq pc 131) (some (.inl (g_ild 4 133))) none)) (cond (Nat.ble pc 133) (cond (Nat.beq pc 133) (some (.inl (g_ist 4 135))) none) (cond (Nat.beq pc 135) (some (.inl (g_ald 0 136))) none))))) (cond (Nat.ble pc 148) (cond (Nat.ble pc 140) (cond (Nat.ble pc 136) (cond (Nat.beq pc 136) (some (.inl (g_dup 137))) none) (cond (Nat.ble pc 137) (cond (Nat.beq pc 137) (some (.inl (g_gfi 4 7 140))) none) (cond (Nat.beq pc 140) (some (.inl (g_push 1 141))) none))) (cond (Nat.ble pc 142) (cond (Nat.ble pc 141) (cond (Nat.beq pc 141) (some (.inl (g_iop (fun x y => x + y) 142))) none) (cond (Nat.beq pc 142) (some (.inl (g_pfi 4 7 145))) none)) (cond (Nat.ble pc 145) (cond (Nat.beq pc 145) (some (.inl (g_goto 73))) none) (cond (Nat.beq pc 148) (some (.inl (g_ald 0 149))) none)))) (cond (Nat.ble pc 154) (cond (Nat.ble pc 152) (cond (Nat.ble pc 149) (cond (Nat.beq pc 149) (some (.inl (g_gfi 4 7 152))) none) (cond (Nat.beq pc 152) (some (.inl (g_ild 3 153))) none)) (cond (Nat.ble pc 153) (cond (Nat.beq pc 153) (some (.inl (g_iop (fun x y => x - y) 154))) none) (cond (Nat.beq pc 154) (some (.inl (g_push 1 155))) none))) (cond (Nat.ble pc 156) (cond (Nat.ble pc 155) (cond (Nat.beq pc 155) (some (.inl (g_push 4 156))) none) (cond (Nat.beq pc 156) (some (.inr (.inl (66, 3, 159)))) none)) (cond (Nat.ble pc 159) (cond (Nat.beq pc 159) (some (.inl (g_br1 (fun x => decide (x = 0)) 182 162))) none) (cond (Nat.beq pc 162) (some (.inl (g_ild 2 163))) none)))))) (cond (Nat.ble pc 189) (cond (Nat.ble pc 174) (cond (Nat.ble pc 168) (cond (Nat.ble pc 163) (cond (Nat.beq pc 163) (some (.inl (g_push 48 165))) none) (cond (Nat.ble pc 165) (cond (Nat.beq pc 165) (some (.inl (g_br2 (fun x y => decide (¬ x = y)) 178 168))) none) (cond (Nat.beq pc 168) (some (.inl (g_ald 0 169))) none))) (cond (Nat.ble pc 172) (cond (Nat.ble pc 169) (cond (Nat.beq pc 169) (some (.inl (g_gfi 4 7 172))) none) (cond (Nat.beq pc 172) (some (.inl (g_ild 3 173))) none)) (cond (Nat.ble pc 173) (cond (Nat.beq pc 173) (some (.inl (g_push 1 174))) none) (cond (Nat.beq pc 174) (some (.inl (g_iop (fun x y => x + y) 175))) none)))) (cond (Nat.ble pc 182) (cond (Nat.ble pc 178) (cond (Nat.ble pc 175) (cond (Nat.beq pc 175) (some (.inl (g_br2 (fun x y => decide (¬ x = y)) 182 178))) none) (cond (Nat.beq pc 178) (some (.inl (g_push 1 179))) none)) (cond (Nat.ble pc 179) (cond (Nat.beq pc 179) (some (.inl (g_goto 183))) none) (cond (Nat.beq pc 182) (some (.inl (g_push 0 183))) none))) (cond (Nat.ble pc 185) (cond (Nat.ble pc 183) (cond (Nat.beq pc 183) (some (.inl (g_ist 5 185))) none) (cond (Nat.beq pc 185) (some (.inl (g_ald 0 186))) none)) (cond (Nat.ble pc 186) (cond (Nat.beq pc 186) (some (.inl (g_gfr 4 6 189))) none) (cond (Nat.beq pc 189) (some (.inl (g_ild 1 190))) none))))) (cond (Nat.ble pc 203) (cond (Nat.ble pc 197) (cond (Nat.ble pc 192) (cond (Nat.ble pc 190) (cond (Nat.beq pc 190) (some (.inl (g_ild 5 192))) none) (cond (Nat.beq pc 192) (some (.inl (g_br1 (fun x => decide (x = 0)) 200 195))) none)) (cond (Nat.ble pc 195) (cond (Nat.beq pc 195) (some (.inl (g_ild 4 197))) none) (cond (Nat.beq pc 197) (some (.inl (g_goto 201))) none))) (cond (Nat.ble pc 201) (cond (Nat.ble pc 200) (cond (Nat.beq pc 200) (some (.inl (g_push (-1) 201))) none) (cond (Nat.beq pc 201) (some (.inl (g_past 5 202))) none)) (cond (Nat.ble pc 202) (cond (Nat.beq pc 202) (some (.inl (g_ald 0 203))) none) (cond (Nat.beq pc 203) (some (.inl (g_ild 5 205))) none)))) (cond (Nat.ble pc 212) (cond (Nat.ble pc 208) (cond (Nat.ble pc 205) (cond (Nat.beq pc 205) (some (.inl (g_br1 (fun x => decide (x = 0)) 215 208))) none) (cond (Nat.beq pc 208) (some (.inl (g_ald 0 209))) none)) (cond (Nat.ble pc 209) (cond (Nat.beq pc 209) (some (.inl (g_gfi 4 7 212))) none) (cond (Nat.beq pc 212) (some (.inl (g_goto 216))) none))) (cond (Nat.ble pc 216) (cond (Nat.ble pc 215) (cond (Nat.beq pc 215) (some (.inl (g_ild 3 216))) none) (cond (Nat.beq pc 216) (some (.inl (g_pfi 4 7 219))) none)) (cond (Nat.ble pc 219) (cond (Nat.beq pc 219) (some (.inl (g_ild 5 221))) none) (cond (Nat.beq pc 221) (some (.inr (.inr 2))) none)))))))
def kp_82 (pc : Nat) : Option KOp := cond (Nat.ble pc 50) (cond (Nat.ble pc 20) (cond (Nat.ble pc 8) (cond (Nat.ble pc 2) (cond (Nat.ble pc 0) (cond (Nat.beq pc 0) (some (.inl (g_ald 0 1))) none) (cond (Nat.ble pc 1) (cond (Nat.beq pc 1) (some (.inl (g_push 0 2))) none) (cond (Nat.beq pc 2) (some (.inl (g_pfi 4 7 5))) none))) (cond (Nat.ble pc 6) (cond (Nat.ble pc 5) (cond (Nat.beq pc 5) (some (.inl (g_push 0 6))) none) (cond (Nat.beq pc 6) (some (.inl (g_ist 1 7))) none)) (cond (Nat.ble pc 7) (cond (Nat.beq pc 7) (some (.inl (g_ild 1 8))) none) (cond (Nat.beq pc 8) (some (.inl (g_push 10 10))) none)))) (cond (Nat.ble pc 14) (cond (Nat.ble pc 10) (cond (Nat.beq pc 10) (some (.inl (g_br2 (fun x y => decide (y ≤ x)) 26 13))) none) (cond (Nat.ble pc 13) (cond (Nat.beq pc 13) (some (.inl (g_ald 0 14))) none) (cond (Nat.beq pc 14) (some (.inl (g_gfr 4 6 17))) none))) (cond (Nat.ble pc 18) (cond (Nat.ble pc 17) (cond (Nat.beq pc 17) (some (.inl (g_ild 1 18))) none) (cond (Nat.beq pc 18) (some (.inl (g_push (-1) 19))) none)) (cond (Nat.ble pc 19) (cond (Nat.beq pc 19) (some (.inl (g_past 5 20))) none) (cond (Nat.beq pc 20) (some (.inl (g_iinc 1 1 23))) none))))) (cond (Nat.ble pc 37) (cond (Nat.ble pc 27) (cond (Nat.ble pc 23) (cond (Nat.beq pc 23) (some (.inl (g_goto 7))) none) (cond (Nat.ble pc 26) (cond (Nat.beq pc 26) (some (.inl (g_ald 0 27))) none) (cond (Nat.beq pc 27) (some (.inr (.inl (80, 1, 30)))) none))) (cond (Nat.ble pc 33) (cond (Nat.ble pc 30) (cond (Nat.beq pc 30) (some (.inl (g_br1 (fun x => decide (x < 0)) 37 33))) none) (cond (Nat.beq pc 33) (some (.inl (g_push 1 34))) none)) (cond (Nat.ble pc 34) (cond (Nat.beq pc 34) (some (.inl (g_goto 38))) none) (cond (Nat.beq pc 37) (some (.inl (g_push 0 38))) none)))) (cond (Nat.ble pc 40) (cond (Nat.ble pc 38) (cond (Nat.beq pc 38) (some (.inl (g_ist 1 39))) none) (cond (Nat.ble pc 39) (cond (Nat.beq pc 39) (some (.inl (g_ild 1 40))) none) (cond (Nat.beq pc 40) (some (.inl (g_br1 (fun x => decide (x = 0)) 101 43))) none))) (cond (Nat.ble pc 44) (cond (Nat.ble pc 43) (cond (Nat.beq pc 43) (some (.inl (g_ald 0 44))) none) (cond (Nat.beq pc 44) (some (.inr (.inl (81, 1, 47)))) none)) (cond (Nat.ble pc 47) (cond (Nat.beq pc 47) (some (.inl (g_br1 (fun x => decide (¬ x = 0)) 52 50))) none) (cond (Nat.beq pc 50) (some (.inl (g_push 0 51))) none)))))) (cond (Nat.ble pc 75) (cond (Nat.ble pc 63) (cond (Nat.ble pc 53) (cond (Nat.ble pc 51) (cond (Nat.beq pc 51) (some (.inr (.inr 2))) none) (cond (Nat.ble pc 52) (cond (Nat.beq pc 52) (some (.inl (g_ald 0 53))) none) (cond (Nat.beq pc 53) (some (.inr (.inl (80, 1, 56)))) none))) (cond (Nat.ble pc 59) (cond (Nat.ble pc 56) (cond (Nat.beq pc 56) (some (.inl (g_br1 (fun x => decide (x < 0)) 63 59))) none) (cond (Nat.beq pc 59) (some (.inl (g_push 1 60))) none)) (cond (Nat.ble pc 60) (cond (Nat.beq pc 60) (some (.inl (g_goto 64))) none) (cond (Nat.beq pc 63) (some (.inl (g_push 0 64))) none)))) (cond (Nat.ble pc 66) (cond (Nat.ble pc 64) (cond (Nat.beq pc 64) (some (.inl (g_ist 1 65))) none) (cond (Nat.ble pc 65) (cond (Nat.beq pc 65) (some (.inl (g_ild 1 66))) none) (cond (Nat.beq pc 66) (some (.inl (g_br1 (fun x => decide (x = 0)) 80 69))) none))) (cond (Nat.ble pc 70) (cond (Nat.ble pc 69) (cond (Nat.beq pc 69) (some (.inl (g_ald 0 70))) none) (cond (Nat.beq pc 70) (some (.inr (.inl (80, 1, 73)))) none)) (cond (Nat.ble pc 73) (cond (Nat.beq pc 73) (some (.inl (g_push 44 75))) none) (cond (Nat.beq pc 75) (some (.inl (g_br2 (fun x y => decide (x = y)) 80 78))) none))))) (cond (Nat.ble pc 86) (cond (Nat.ble pc 80) (cond (Nat.ble pc 78) (cond (Nat.beq pc 78) (some (.inl (g_push 0 79))) none) (cond (Nat.ble pc 79) (cond (Nat.beq pc 79) (some (.inr (.inr 2))) none) (cond (Nat.beq pc 80) (some (.inl (g_ald 0 81))) none))) (cond (Nat.ble pc 82) (cond (Nat.ble pc 81) (cond (Nat.beq pc 81) (some (.inl (g_dup 82))) none) (cond (Nat.beq pc 82) (some (.inl (g_gfi 4 7 85))) none)) (cond (Nat.ble pc 85) (cond (Nat.beq pc 85) (some (.inl (g_ild 1 86))) none) (cond (Nat.beq pc 86) (some (.inl (g_br1 (fun x => decide (x = 0)) 93 89))) none)))) (cond (Nat.ble pc 94) (cond (Nat.ble pc 90) (cond (Nat.ble pc 89) (cond (Nat.beq pc 89) (some (.inl (g_push 1 90))) none) (cond (Nat.beq pc 90) (some (.inl (g_goto 94))) none)) (cond (Nat.ble pc 93) (cond (Nat.beq pc 93) (some (.inl (g_push 0 94))) none) (cond (Nat.beq pc 94) (some (.inl (g_iop (fun x y => x + y) 95))) none))) (cond (Nat.ble pc 98) (cond (Nat.ble pc 95) (cond (Nat.beq pc 95) (some (.inl (g_pfi 4 7 98))) none) (cond (Nat.beq pc 98) (some (.inl (g_goto 39))) none)) (cond (Nat.ble pc 101) (cond (Nat.beq pc 101) (some (.inl (g_push 1 102))) none) (cond (Nat.beq pc 102) (some (.inr (.inr 2))) none))))))
def kp_83 (pc : Nat) : Option KOp := cond (Nat.ble pc 33) (cond (Nat.ble pc 16) (cond (Nat.ble pc 9) (cond (Nat.ble pc 1) (cond (Nat.ble pc 0) (cond (Nat.beq pc 0) (some (.inl (g_ald 0 1))) none) (cond (Nat.beq pc 1) (some (.inr (.inl (82, 1, 4)))) none)) (cond (Nat.ble pc 4) (cond (Nat.beq pc 4) (some (.inl (g_br1 (fun x => decide (¬ x = 0)) 15 7))) none) (cond (Nat.ble pc 7) (cond (Nat.beq pc 7) (some (.inl (g_push (-10) 9))) none) (cond (Nat.beq pc 9) (some (.inl (g_ald 0 10))) none)))) (cond (Nat.ble pc 13) (cond (Nat.ble pc 10) (cond (Nat.beq pc 10) (some (.inl (g_gfi 4 7 13))) none) (cond (Nat.beq pc 13) (some (.inl (g_iop (fun x y => x - y) 14))) none)) (cond (Nat.ble pc 14) (cond (Nat.beq pc 14) (some (.inr (.inr 1))) none) (cond (Nat.ble pc 15) (cond (Nat.beq pc 15) (some (.inl (g_ald 0 16))) none) (cond (Nat.beq pc 16) (some (.inr (.inl (67, 1, 19)))) none))))) (cond (Nat.ble pc 24) (cond (Nat.ble pc 20) (cond (Nat.ble pc 19) (cond (Nat.beq pc 19) (some (.inl (g_push 0 20))) none) (cond (Nat.beq pc 20) (some (.inl (g_ist 1 21))) none)) (cond (Nat.ble pc 21) (cond (Nat.beq pc 21) (some (.inl (g_ild 1 22))) none) (cond (Nat.ble pc 22) (cond (Nat.beq pc 22) (some (.inl (g_push 10 24))) none) (cond (Nat.beq pc 24) (some (.inl (g_br2 (fun x y => decide (y ≤ x)) 60 27))) none)))) (cond (Nat.ble pc 28) (cond (Nat.ble pc 27) (cond (Nat.beq pc 27) (some (.inl (g_ald 0 28))) none) (cond (Nat.beq pc 28) (some (.inl (g_gfr 4 0 31))) none)) (cond (Nat.ble pc 31) (cond (Nat.beq pc 31) (some (.inl (g_push 0 32))) none) (cond (Nat.ble pc 32) (cond (Nat.beq pc 32) (some (.inl (g_ild 1 33))) none) (cond (Nat.beq pc 33) (some (.inl (g_iop (fun x y => x + y) 34))) none)))))) (cond (Nat.ble pc 51) (cond (Nat.ble pc 40) (cond (Nat.ble pc 35) (cond (Nat.ble pc 34) (cond (Nat.beq pc 34) (some (.inl (g_ald 0 35))) none) (cond (Nat.beq pc 35) (some (.inl (g_gfr 4 6 38))) none)) (cond (Nat.ble pc 38) (cond (Nat.beq pc 38) (some (.inl (g_ild 1 39))) none) (cond (Nat.ble pc 39) (cond (Nat.beq pc 39) (some (.inl (g_pald 5 40))) none) (cond (Nat.beq pc 40) (some (.inl (g_br1 (fun x => decide (0 ≤ x)) 47 43))) none)))) (cond (Nat.ble pc 44) (cond (Nat.ble pc 43) (cond (Nat.beq pc 43) (some (.inl (g_push 0 44))) none) (cond (Nat.beq pc 44) (some (.inl (g_goto 53))) none)) (cond (Nat.ble pc 47) (cond (Nat.beq pc 47) (some (.inl (g_ald 0 48))) none) (cond (Nat.ble pc 48) (cond (Nat.beq pc 48) (some (.inl (g_gfr 4 6 51))) none) (cond (Nat.beq pc 51) (some (.inl (g_ild 1 52))) none))))) (cond (Nat.ble pc 60) (cond (Nat.ble pc 53) (cond (Nat.ble pc 52) (cond (Nat.beq pc 52) (some (.inl (g_pald 5 53))) none) (cond (Nat.beq pc 53) (some (.inl (g_past 5 54))) none)) (cond (Nat.ble pc 54) (cond (Nat.beq pc 54) (some (.inl (g_iinc 1 1 57))) none) (cond (Nat.ble pc 57) (cond (Nat.beq pc 57) (some (.inl (g_goto 21))) none) (cond (Nat.beq pc 60) (some (.inl (g_ald 0 61))) none)))) (cond (Nat.ble pc 65) (cond (Nat.ble pc 61) (cond (Nat.beq pc 61) (some (.inl (g_push 0 62))) none) (cond (Nat.ble pc 62) (cond (Nat.beq pc 62) (some (.inl (g_pfi 4 4 65))) none) (cond (Nat.beq pc 65) (some (.inl (g_ald 0 66))) none))) (cond (Nat.ble pc 66) (cond (Nat.beq pc 66) (some (.inl (g_push 0 67))) none) (cond (Nat.ble pc 67) (cond (Nat.beq pc 67) (some (.inr (.inl (69, 2, 70)))) none) (cond (Nat.beq pc 70) (some (.inr (.inr 1))) none))))))
def kp_84 (pc : Nat) : Option KOp := cond (Nat.ble pc 4) (cond (Nat.ble pc 0) (cond (Nat.beq pc 0) (some (.inl (g_push 53 2))) none) (cond (Nat.ble pc 2) (cond (Nat.beq pc 2) (some (.inl (g_push 12 4))) none) (cond (Nat.beq pc 4) (some (.inl (g_ild 1 5))) none))) (cond (Nat.ble pc 5) (cond (Nat.beq pc 5) (some (.inl (g_iop (fun x y => x * y) 6))) none) (cond (Nat.ble pc 6) (cond (Nat.beq pc 6) (some (.inl (g_iop (fun x y => x + y) 7))) none) (cond (Nat.beq pc 7) (some (.inr (.inr 1))) none)))
def kp_85 (pc : Nat) : Option KOp := cond (Nat.ble pc 17) (cond (Nat.ble pc 4) (cond (Nat.ble pc 1) (cond (Nat.ble pc 0) (cond (Nat.beq pc 0) (some (.inl (g_push 0 1))) none) (cond (Nat.beq pc 1) (some (.inl (g_ist 2 2))) none)) (cond (Nat.ble pc 2) (cond (Nat.beq pc 2) (some (.inl (g_ild 2 3))) none) (cond (Nat.ble pc 3) (cond (Nat.beq pc 3) (some (.inl (g_ald 0 4))) none) (cond (Nat.beq pc 4) (some (.inl (g_gfr 4 0 7))) none)))) (cond (Nat.ble pc 10) (cond (Nat.ble pc 7) (cond (Nat.beq pc 7) (some (.inl (g_push 24 9))) none) (cond (Nat.ble pc 9) (cond (Nat.beq pc 9) (some (.inl (g_pald 5 10))) none) (cond (Nat.beq pc 10) (some (.inl (g_br2 (fun x y => decide (y ≤ x)) 34 13))) none))) (cond (Nat.ble pc 13) (cond (Nat.beq pc 13) (some (.inl (g_ald 0 14))) none) (cond (Nat.ble pc 14) (cond (Nat.beq pc 14) (some (.inl (g_gfr 4 0 17))) none) (cond (Nat.beq pc 17) (some (.inl (g_push 25 19))) none))))) (cond (Nat.ble pc 23) (cond (Nat.ble pc 20) (cond (Nat.ble pc 19) (cond (Nat.beq pc 19) (some (.inl (g_ild 2 20))) none) (cond (Nat.beq pc 20) (some (.inl (g_iop (fun x y => x + y) 21))) none)) (cond (Nat.ble pc 21) (cond (Nat.beq pc 21) (some (.inl (g_pald 5 22))) none) (cond (Nat.ble pc 22) (cond (Nat.beq pc 22) (some (.inl (g_ild 1 23))) none) (cond (Nat.beq pc 23) (some (.inl (g_br2 (fun x y => decide (¬ x = y)) 28 26))) none)))) (cond (Nat.ble pc 28) (cond (Nat.ble pc 26) (cond (Nat.beq pc 26) (some (.inl (g_ild 2 27))) none) (cond (Nat.ble pc 27) (cond (Nat.beq pc 27) (some (.inr (.inr 1))) none) (cond (Nat.beq pc 28) (some (.inl (g_iinc 2 1 31))) none))) (cond (Nat.ble pc 31) (cond (Nat.beq pc 31) (some (.inl (g_goto 2))) none) (cond (Nat.ble pc 34) (cond (Nat.beq pc 34) (some (.inl (g_push (-9) 36))) none) (cond (Nat.beq pc 36) (some (.inr (.inr 1))) none)))))
def kp_86 (pc : Nat) : Option KOp := cond (Nat.ble pc 10) (cond (Nat.ble pc 3) (cond (Nat.ble pc 0) (cond (Nat.beq pc 0) (some (.inl (g_push 49 2))) none) (cond (Nat.ble pc 2) (cond (Nat.beq pc 2) (some (.inl (g_ist 1 3))) none) (cond (Nat.beq pc 3) (some (.inl (g_ild 1 4))) none))) (cond (Nat.ble pc 4) (cond (Nat.beq pc 4) (some (.inl (g_push 137 7))) none) (cond (Nat.ble pc 7) (cond (Nat.beq pc 7) (some (.inl (g_br2 (fun x y => decide (y ≤ x)) 23 10))) none) (cond (Nat.beq pc 10) (some (.inl (g_ald 0 11))) none)))) (cond (Nat.ble pc 15) (cond (Nat.ble pc 11) (cond (Nat.beq pc 11) (some (.inl (g_gfr 4 0 14))) none) (cond (Nat.ble pc 14) (cond (Nat.beq pc 14) (some (.inl (g_ild 1 15))) none) (cond (Nat.beq pc 15) (some (.inl (g_push 0 16))) none))) (cond (Nat.ble pc 17) (cond (Nat.ble pc 16) (cond (Nat.beq pc 16) (some (.inl (g_past 5 17))) none) (cond (Nat.beq pc 17) (some (.inl (g_iinc 1 1 20))) none)) (cond (Nat.ble pc 20) (cond (Nat.beq pc 20) (some (.inl (g_goto 3))) none) (cond (Nat.beq pc 23) (some (.inr (.inr 0))) none))))
def kp_87 (pc : Nat) : Option KOp := cond (Nat.ble pc 67) (cond (Nat.ble pc 32) (cond (Nat.ble pc 13) (cond (Nat.ble pc 4) (cond (Nat.ble pc 1) (cond (Nat.ble pc 0) (cond (Nat.beq pc 0) (some (.inl (g_ild 1 1))) none) (cond (Nat.beq pc 1) (some (.inl (g_push 1 2))) none)) (cond (Nat.ble pc 2) (cond (Nat.beq pc 2) (some (.inl (g_push 9 4))) none) (cond (Nat.beq pc 4) (some (.inr (.inl (66, 3, 7)))) none))) (cond (Nat.ble pc 10) (cond (Nat.ble pc 7) (cond (Nat.beq pc 7) (some (.inl (g_br1 (fun x => decide (¬ x = 0)) 12 10))) none) (cond (Nat.beq pc 10) (some (.inl (g_push (-1) 11))) none)) (cond (Nat.ble pc 11) (cond (Nat.beq pc 11) (some (.inr (.inr 1))) none) (cond (Nat.ble pc 12) (cond (Nat.beq pc 12) (some (.inl (g_ald 0 13))) none) (cond (Nat.beq pc 13) (some (.inl (g_ild 1 14))) none))))) (cond (Nat.ble pc 24) (cond (Nat.ble pc 17) (cond (Nat.ble pc 14) (cond (Nat.beq pc 14) (some (.inr (.inl (85, 2, 17)))) none) (cond (Nat.beq pc 17) (some (.inl (g_push (-9) 19))) none)) (cond (Nat.ble pc 19) (cond (Nat.beq pc 19) (some (.inl (g_br2 (fun x y => decide (x = y)) 25 22))) none) (cond (Nat.ble pc 22) (cond (Nat.beq pc 22) (some (.inl (g_push (-2) 24))) none) (cond (Nat.beq pc 24) (some (.inr (.inr 1))) none)))) (cond (Nat.ble pc 26) (cond (Nat.ble pc 25) (cond (Nat.beq pc 25) (some (.inl (g_ald 0 26))) none) (cond (Nat.beq pc 26) (some (.inl (g_gfr 4 0 29))) none)) (cond (Nat.ble pc 29) (cond (Nat.beq pc 29) (some (.inl (g_push 24 31))) none) (cond (Nat.ble pc 31) (cond (Nat.beq pc 31) (some (.inl (g_pald 5 32))) none) (cond (Nat.beq pc 32) (some (.inl (g_push 6 34))) none)))))) (cond (Nat.ble pc 49) (cond (Nat.ble pc 40) (cond (Nat.ble pc 37) (cond (Nat.ble pc 34) (cond (Nat.beq pc 34) (some (.inl (g_br2 (fun x y => decide (¬ x = y)) 40 37))) none) (cond (Nat.beq pc 37) (some (.inl (g_push (-3) 39))) none)) (cond (Nat.ble pc 39) (cond (Nat.beq pc 39) (some (.inr (.inr 1))) none) (cond (Nat.beq pc 40) (some (.inl (g_ald 0 41))) none))) (cond (Nat.ble pc 44) (cond (Nat.ble pc 41) (cond (Nat.beq pc 41) (some (.inr (.inl (67, 1, 44)))) none) (cond (Nat.beq pc 44) (some (.inl (g_ald 0 45))) none)) (cond (Nat.ble pc 45) (cond (Nat.beq pc 45) (some (.inr (.inl (86, 1, 48)))) none) (cond (Nat.ble pc 48) (cond (Nat.beq pc 48) (some (.inl (g_ald 0 49))) none) (cond (Nat.beq pc 49) (some (.inl (g_gfr 4 0 52))) none))))) (cond (Nat.ble pc 57) (cond (Nat.ble pc 54) (cond (Nat.ble pc 52) (cond (Nat.beq pc 52) (some (.inl (g_push 24 54))) none) (cond (Nat.beq pc 54) (some (.inl (g_pald 5 55))) none)) (cond (Nat.ble pc 55) (cond (Nat.beq pc 55) (some (.inl (g_ist 2 56))) none) (cond (Nat.ble pc 56) (cond (Nat.beq pc 56) (some (.inl (g_ild 2 57))) none) (cond (Nat.beq pc 57) (some (.inl (g_br1 (fun x => decide (x ≤ 0)) 101 60))) none)))) (cond (Nat.ble pc 61) (cond (Nat.ble pc 60) (cond (Nat.beq pc 60) (some (.inl (g_ald 0 61))) none) (cond (Nat.beq pc 61) (some (.inl (g_gfr 4 0 64))) none)) (cond (Nat.ble pc 64) (cond (Nat.beq pc 64) (some (.inl (g_push 25 66))) none) (cond (Nat.ble pc 66) (cond (Nat.beq pc 66) (some (.inl (g_ild 2 67))) none) (cond (Nat.beq pc 67) (some (.inl (g_iop (fun x y => x + y) 68))) none))))))) (cond (Nat.ble pc 94) (cond (Nat.ble pc 81) (cond (Nat.ble pc 71) (cond (Nat.ble pc 69) (cond (Nat.ble pc 68) (cond (Nat.beq pc 68) (some (.inl (g_push 1 69))) none) (cond (Nat.beq pc 69) (some (.inl (g_iop (fun x y => x - y) 70))) none)) (cond (Nat.ble pc 70) (cond (Nat.beq pc 70) (some (.inl (g_pald 5 71))) none) (cond (Nat.beq pc 71) (some (.inl (g_ild 1 72))) none))) (cond (Nat.ble pc 75) (cond (Nat.ble pc 72) (cond (Nat.beq pc 72) (some (.inl (g_br2 (fun x y => decide (y ≤ x)) 101 75))) none) (cond (Nat.beq pc 75) (some (.inl (g_ald 0 76))) none)) (cond (Nat.ble pc 76) (cond (Nat.beq pc 76) (some (.inl (g_gfr 4 0 79))) none) (cond (Nat.ble pc 79) (cond (Nat.beq pc 79) (some (.inl (g_push 25 81))) none) (cond (Nat.beq pc 81) (some (.inl (g_ild 2 82))) none))))) (cond (Nat.ble pc 89) (cond (Nat.ble pc 83) (cond (Nat.ble pc 82) (cond (Nat.beq pc 82) (some (.inl (g_iop (fun x y => x + y) 83))) none) (cond (Nat.beq pc 83) (some (.inl (g_ald 0 84))) none)) (cond (Nat.ble pc 84) (cond (Nat.beq pc 84) (some (.inl (g_gfr 4 0 87))) none) (cond (Nat.ble pc 87) (cond (Nat.beq pc 87) (some (.inl (g_push 25 89))) none) (cond (Nat.beq pc 89) (some (.inl (g_ild 2 90))) none)))) (cond (Nat.ble pc 91) (cond (Nat.ble pc 90) (cond (Nat.beq pc 90) (some (.inl (g_iop (fun x y => x + y) 91))) none) (cond (Nat.beq pc 91) (some (.inl (g_push 1 92))) none)) (cond (Nat.ble pc 92) (cond (Nat.beq pc 92) (some (.inl (g_iop (fun x y => x - y) 93))) none) (cond (Nat.ble pc 93) (cond (Nat.beq pc 93) (some (.inl (g_pald 5 94))) none) (cond (Nat.beq pc 94) (some (.inl (g_past 5 95))) none)))))) (cond (Nat.ble pc 110) (cond (Nat.ble pc 102) (cond (Nat.ble pc 98) (cond (Nat.ble pc 95) (cond (Nat.beq pc 95) (some (.inl (g_iinc 2 (-1) 98))) none) (cond (Nat.beq pc 98) (some (.inl (g_goto 56))) none)) (cond (Nat.ble pc 101) (cond (Nat.beq pc 101) (some (.inl (g_ald 0 102))) none) (cond (Nat.beq pc 102) (some (.inl (g_gfr 4 0 105))) none))) (cond (Nat.ble pc 107) (cond (Nat.ble pc 105) (cond (Nat.beq pc 105) (some (.inl (g_push 25 107))) none) (cond (Nat.beq pc 107) (some (.inl (g_ild 2 108))) none)) (cond (Nat.ble pc 108) (cond (Nat.beq pc 108) (some (.inl (g_iop (fun x y => x + y) 109))) none) (cond (Nat.ble pc 109) (cond (Nat.beq pc 109) (some (.inl (g_ild 1 110))) none) (cond (Nat.beq pc 110) (some (.inl (g_past 5 111))) none))))) (cond (Nat.ble pc 118) (cond (Nat.ble pc 112) (cond (Nat.ble pc 111) (cond (Nat.beq pc 111) (some (.inl (g_ald 0 112))) none) (cond (Nat.beq pc 112) (some (.inl (g_gfr 4 0 115))) none)) (cond (Nat.ble pc 115) (cond (Nat.beq pc 115) (some (.inl (g_push 24 117))) none) (cond (Nat.ble pc 117) (cond (Nat.beq pc 117) (some (.inl (g_dup2 118))) none) (cond (Nat.beq pc 118) (some (.inl (g_pald 5 119))) none)))) (cond (Nat.ble pc 120) (cond (Nat.ble pc 119) (cond (Nat.beq pc 119) (some (.inl (g_push 1 120))) none) (cond (Nat.beq pc 120) (some (.inl (g_iop (fun x y => x + y) 121))) none)) (cond (Nat.ble pc 121) (cond (Nat.beq pc 121) (some (.inl (g_past 5 122))) none) (cond (Nat.ble pc 122) (cond (Nat.beq pc 122) (some (.inl (g_ild 2 123))) none) (cond (Nat.beq pc 123) (some (.inr (.inr 1))) none)))))))
def kp_88 (pc : Nat) : Option KOp := cond (Nat.ble pc 45) (cond (Nat.ble pc 21) (cond (Nat.ble pc 11) (cond (Nat.ble pc 2) (cond (Nat.ble pc 0) (cond (Nat.beq pc 0) (some (.inl (g_ild 1 1))) none) (cond (Nat.ble pc 1) (cond (Nat.beq pc 1) (some (.inl (g_push 1 2))) none) (cond (Nat.beq pc 2) (some (.inl (g_push 9 4))) none))) (cond (Nat.ble pc 7) (cond (Nat.ble pc 4) (cond (Nat.beq pc 4) (some (.inr (.inl (66, 3, 7)))) none) (cond (Nat.beq pc 7) (some (.inl (g_br1 (fun x => decide (¬ x = 0)) 12 10))) none)) (cond (Nat.ble pc 10) (cond (Nat.beq pc 10) (some (.inl (g_push (-1) 11))) none) (cond (Nat.beq pc 11) (some (.inr (.inr 1))) none)))) (cond (Nat.ble pc 14) (cond (Nat.ble pc 12) (cond (Nat.beq pc 12) (some (.inl (g_ald 0 13))) none) (cond (Nat.ble pc 13) (cond (Nat.beq pc 13) (some (.inl (g_ild 1 14))) none) (cond (Nat.beq pc 14) (some (.inr (.inl (85, 2, 17)))) none))) (cond (Nat.ble pc 18) (cond (Nat.ble pc 17) (cond (Nat.beq pc 17) (some (.inl (g_ist 2 18))) none) (cond (Nat.beq pc 18) (some (.inl (g_ild 2 19))) none)) (cond (Nat.ble pc 19) (cond (Nat.beq pc 19) (some (.inl (g_push (-9) 21))) none) (cond (Nat.beq pc 21) (some (.inl (g_br2 (fun x y => decide (¬ x = y)) 27 24))) none))))) (cond (Nat.ble pc 35) (cond (Nat.ble pc 27) (cond (Nat.ble pc 24) (cond (Nat.beq pc 24) (some (.inl (g_push (-2) 26))) none) (cond (Nat.ble pc 26) (cond (Nat.beq pc 26) (some (.inr (.inr 1))) none) (cond (Nat.beq pc 27) (some (.inl (g_ald 0 28))) none))) (cond (Nat.ble pc 31) (cond (Nat.ble pc 28) (cond (Nat.beq pc 28) (some (.inr (.inl (67, 1, 31)))) none) (cond (Nat.beq pc 31) (some (.inl (g_ald 0 32))) none)) (cond (Nat.ble pc 32) (cond (Nat.beq pc 32) (some (.inr (.inl (86, 1, 35)))) none) (cond (Nat.beq pc 35) (some (.inl (g_ald 0 36))) none)))) (cond (Nat.ble pc 41) (cond (Nat.ble pc 36) (cond (Nat.beq pc 36) (some (.inl (g_gfr 4 0 39))) none) (cond (Nat.ble pc 39) (cond (Nat.beq pc 39) (some (.inl (g_push 24 41))) none) (cond (Nat.beq pc 41) (some (.inl (g_dup2 42))) none))) (cond (Nat.ble pc 43) (cond (Nat.ble pc 42) (cond (Nat.beq pc 42) (some (.inl (g_pald 5 43))) none) (cond (Nat.beq pc 43) (some (.inl (g_push 1 44))) none)) (cond (Nat.ble pc 44) (cond (Nat.beq pc 44) (some (.inl (g_iop (fun x y => x - y) 45))) none) (cond (Nat.beq pc 45) (some (.inl (g_past 5 46))) none)))))) (cond (Nat.ble pc 67) (cond (Nat.ble pc 55) (cond (Nat.ble pc 48) (cond (Nat.ble pc 46) (cond (Nat.beq pc 46) (some (.inl (g_ild 2 47))) none) (cond (Nat.ble pc 47) (cond (Nat.beq pc 47) (some (.inl (g_ist 3 48))) none) (cond (Nat.beq pc 48) (some (.inl (g_ild 3 49))) none))) (cond (Nat.ble pc 50) (cond (Nat.ble pc 49) (cond (Nat.beq pc 49) (some (.inl (g_ald 0 50))) none) (cond (Nat.beq pc 50) (some (.inl (g_gfr 4 0 53))) none)) (cond (Nat.ble pc 53) (cond (Nat.beq pc 53) (some (.inl (g_push 24 55))) none) (cond (Nat.beq pc 55) (some (.inl (g_pald 5 56))) none)))) (cond (Nat.ble pc 60) (cond (Nat.ble pc 56) (cond (Nat.beq pc 56) (some (.inl (g_br2 (fun x y => decide (y ≤ x)) 85 59))) none) (cond (Nat.ble pc 59) (cond (Nat.beq pc 59) (some (.inl (g_ald 0 60))) none) (cond (Nat.beq pc 60) (some (.inl (g_gfr 4 0 63))) none))) (cond (Nat.ble pc 65) (cond (Nat.ble pc 63) (cond (Nat.beq pc 63) (some (.inl (g_push 25 65))) none) (cond (Nat.beq pc 65) (some (.inl (g_ild 3 66))) none)) (cond (Nat.ble pc 66) (cond (Nat.beq pc 66) (some (.inl (g_iop (fun x y => x + y) 67))) none) (cond (Nat.beq pc 67) (some (.inl (g_ald 0 68))) none))))) (cond (Nat.ble pc 77) (cond (Nat.ble pc 73) (cond (Nat.ble pc 68) (cond (Nat.beq pc 68) (some (.inl (g_gfr 4 0 71))) none) (cond (Nat.ble pc 71) (cond (Nat.beq pc 71) (some (.inl (g_push 25 73))) none) (cond (Nat.beq pc 73) (some (.inl (g_ild 3 74))) none))) (cond (Nat.ble pc 75) (cond (Nat.ble pc 74) (cond (Nat.beq pc 74) (some (.inl (g_iop (fun x y => x + y) 75))) none) (cond (Nat.beq pc 75) (some (.inl (g_push 1 76))) none)) (cond (Nat.ble pc 76) (cond (Nat.beq pc 76) (some (.inl (g_iop (fun x y => x + y) 77))) none) (cond (Nat.beq pc 77) (some (.inl (g_pald 5 78))) none)))) (cond (Nat.ble pc 85) (cond (Nat.ble pc 79) (cond (Nat.ble pc 78) (cond (Nat.beq pc 78) (some (.inl (g_past 5 79))) none) (cond (Nat.beq pc 79) (some (.inl (g_iinc 3 1 82))) none)) (cond (Nat.ble pc 82) (cond (Nat.beq pc 82) (some (.inl (g_goto 48))) none) (cond (Nat.beq pc 85) (some (.inl (g_ald 0 86))) none))) (cond (Nat.ble pc 89) (cond (Nat.ble pc 86) (cond (Nat.beq pc 86) (some (.inl (g_gfr 4 0 89))) none) (cond (Nat.beq pc 89) (some (.inl (g_push 24 91))) none)) (cond (Nat.ble pc 91) (cond (Nat.beq pc 91) (some (.inl (g_pald 5 92))) none) (cond (Nat.beq pc 92) (some (.inr (.inr 1))) none))))))
def kp_89 (pc : Nat) : Option KOp := cond (Nat.ble pc 11) (cond (Nat.ble pc 5) (cond (Nat.ble pc 1) (cond (Nat.ble pc 0) (cond (Nat.beq pc 0) (some (.inl (g_ald 0 1))) none) (cond (Nat.beq pc 1) (some (.inl (g_gfr 4 0 4))) none)) (cond (Nat.ble pc 4) (cond (Nat.beq pc 4) (some (.inl (g_ild 1 5))) none) (cond (Nat.beq pc 5) (some (.inl (g_pald 5 6))) none))) (cond (Nat.ble pc 7) (cond (Nat.ble pc 6) (cond (Nat.beq pc 6) (some (.inl (g_ild 2 7))) none) (cond (Nat.beq pc 7) (some (.inl (g_br2 (fun x y => decide (¬ x = y)) 14 10))) none)) (cond (Nat.ble pc 10) (cond (Nat.beq pc 10) (some (.inl (g_push 0 11))) none) (cond (Nat.beq pc 11) (some (.inl (g_goto 15))) none)))) (cond (Nat.ble pc 17) (cond (Nat.ble pc 15) (cond (Nat.ble pc 14) (cond (Nat.beq pc 14) (some (.inl (g_push 1 15))) none) (cond (Nat.beq pc 15) (some (.inl (g_ist 3 16))) none)) (cond (Nat.ble pc 16) (cond (Nat.beq pc 16) (some (.inl (g_ald 0 17))) none) (cond (Nat.beq pc 17) (some (.inl (g_gfr 4 0 20))) none))) (cond (Nat.ble pc 21) (cond (Nat.ble pc 20) (cond (Nat.beq pc 20) (some (.inl (g_ild 1 21))) none) (cond (Nat.beq pc 21) (some (.inl (g_ild 2 22))) none)) (cond (Nat.ble pc 22) (cond (Nat.beq pc 22) (some (.inl (g_past 5 23))) none) (cond (Nat.ble pc 23) (cond (Nat.beq pc 23) (some (.inl (g_ild 3 24))) none) (cond (Nat.beq pc 24) (some (.inr (.inr 1))) none)))))
def kp_90 (pc : Nat) : Option KOp := cond (Nat.ble pc 49) (cond (Nat.ble pc 23) (cond (Nat.ble pc 11) (cond (Nat.ble pc 2) (cond (Nat.ble pc 0) (cond (Nat.beq pc 0) (some (.inl (g_ild 1 1))) none) (cond (Nat.ble pc 1) (cond (Nat.beq pc 1) (some (.inl (g_push 1 2))) none) (cond (Nat.beq pc 2) (some (.inl (g_push 9999 5))) none))) (cond (Nat.ble pc 5) (cond (Nat.beq pc 5) (some (.inr (.inl (66, 3, 8)))) none) (cond (Nat.ble pc 8) (cond (Nat.beq pc 8) (some (.inl (g_br1 (fun x => decide (x = 0)) 43 11))) none) (cond (Nat.beq pc 11) (some (.inl (g_ild 2 12))) none)))) (cond (Nat.ble pc 16) (cond (Nat.ble pc 12) (cond (Nat.beq pc 12) (some (.inl (g_push 0 13))) none) (cond (Nat.ble pc 13) (cond (Nat.beq pc 13) (some (.inl (g_push 200 16))) none) (cond (Nat.beq pc 16) (some (.inr (.inl (66, 3, 19)))) none))) (cond (Nat.ble pc 19) (cond (Nat.beq pc 19) (some (.inl (g_br1 (fun x => decide (x = 0)) 43 22))) none) (cond (Nat.ble pc 22) (cond (Nat.beq pc 22) (some (.inl (g_ild 3 23))) none) (cond (Nat.beq pc 23) (some (.inl (g_push 0 24))) none))))) (cond (Nat.ble pc 35) (cond (Nat.ble pc 29) (cond (Nat.ble pc 24) (cond (Nat.beq pc 24) (some (.inl (g_push 100 26))) none) (cond (Nat.ble pc 26) (cond (Nat.beq pc 26) (some (.inr (.inl (66, 3, 29)))) none) (cond (Nat.beq pc 29) (some (.inl (g_br1 (fun x => decide (x = 0)) 43 32))) none))) (cond (Nat.ble pc 32) (cond (Nat.beq pc 32) (some (.inl (g_ild 4 34))) none) (cond (Nat.ble pc 34) (cond (Nat.beq pc 34) (some (.inl (g_push 0 35))) none) (cond (Nat.beq pc 35) (some (.inl (g_push 100 37))) none)))) (cond (Nat.ble pc 43) (cond (Nat.ble pc 37) (cond (Nat.beq pc 37) (some (.inr (.inl (66, 3, 40)))) none) (cond (Nat.ble pc 40) (cond (Nat.beq pc 40) (some (.inl (g_br1 (fun x => decide (¬ x = 0)) 45 43))) none) (cond (Nat.beq pc 43) (some (.inl (g_push (-1) 44))) none))) (cond (Nat.ble pc 45) (cond (Nat.ble pc 44) (cond (Nat.beq pc 44) (some (.inr (.inr 1))) none) (cond (Nat.beq pc 45) (some (.inl (g_ald 0 46))) none)) (cond (Nat.ble pc 46) (cond (Nat.beq pc 46) (some (.inr (.inl (67, 1, 49)))) none) (cond (Nat.beq pc 49) (some (.inl (g_ald 0 50))) none)))))) (cond (Nat.ble pc 68) (cond (Nat.ble pc 59) (cond (Nat.ble pc 53) (cond (Nat.ble pc 50) (cond (Nat.beq pc 50) (some (.inl (g_push 20 52))) none) (cond (Nat.ble pc 52) (cond (Nat.beq pc 52) (some (.inl (g_ild 1 53))) none) (cond (Nat.beq pc 53) (some (.inr (.inl (89, 3, 56)))) none))) (cond (Nat.ble pc 56) (cond (Nat.beq pc 56) (some (.inl (g_ald 0 57))) none) (cond (Nat.ble pc 57) (cond (Nat.beq pc 57) (some (.inl (g_push 21 59))) none) (cond (Nat.beq pc 59) (some (.inl (g_ild 2 60))) none)))) (cond (Nat.ble pc 64) (cond (Nat.ble pc 60) (cond (Nat.beq pc 60) (some (.inr (.inl (89, 3, 63)))) none) (cond (Nat.ble pc 63) (cond (Nat.beq pc 63) (some (.inl (g_iop (fun x y => x + y) 64))) none) (cond (Nat.beq pc 64) (some (.inl (g_ald 0 65))) none))) (cond (Nat.ble pc 65) (cond (Nat.beq pc 65) (some (.inl (g_push 22 67))) none) (cond (Nat.ble pc 67) (cond (Nat.beq pc 67) (some (.inl (g_ild 3 68))) none) (cond (Nat.beq pc 68) (some (.inr (.inl (89, 3, 71)))) none))))) (cond (Nat.ble pc 80) (cond (Nat.ble pc 73) (cond (Nat.ble pc 71) (cond (Nat.beq pc 71) (some (.inl (g_iop (fun x y => x + y) 72))) none) (cond (Nat.ble pc 72) (cond (Nat.beq pc 72) (some (.inl (g_ald 0 73))) none) (cond (Nat.beq pc 73) (some (.inl (g_push 23 75))) none))) (cond (Nat.ble pc 75) (cond (Nat.beq pc 75) (some (.inl (g_ild 4 77))) none) (cond (Nat.ble pc 77) (cond (Nat.beq pc 77) (some (.inr (.inl (89, 3, 80)))) none) (cond (Nat.beq pc 80) (some (.inl (g_iop (fun x y => x + y) 81))) none)))) (cond (Nat.ble pc 85) (cond (Nat.ble pc 81) (cond (Nat.beq pc 81) (some (.inl (g_ist 5 83))) none) (cond (Nat.ble pc 83) (cond (Nat.beq pc 83) (some (.inl (g_ild 5 85))) none) (cond (Nat.beq pc 85) (some (.inl (g_br1 (fun x => decide (x ≤ 0)) 92 88))) none))) (cond (Nat.ble pc 89) (cond (Nat.ble pc 88) (cond (Nat.beq pc 88) (some (.inl (g_push 1 89))) none) (cond (Nat.beq pc 89) (some (.inl (g_goto 93))) none)) (cond (Nat.ble pc 92) (cond (Nat.beq pc 92) (some (.inl (g_push 0 93))) none) (cond (Nat.beq pc 93) (some (.inr (.inr 1))) none))))))
def kp_91 (pc : Nat) : Option KOp := cond (Nat.ble pc 42) (cond (Nat.ble pc 21) (cond (Nat.ble pc 7) (cond (Nat.ble pc 1) (cond (Nat.ble pc 0) (cond (Nat.beq pc 0) (some (.inl (g_ild 1 1))) none) (cond (Nat.beq pc 1) (some (.inl (g_push 1 2))) none)) (cond (Nat.ble pc 2) (cond (Nat.beq pc 2) (some (.inl (g_push 9 4))) none) (cond (Nat.ble pc 4) (cond (Nat.beq pc 4) (some (.inr (.inl (66, 3, 7)))) none) (cond (Nat.beq pc 7) (some (.inl (g_br1 (fun x => decide (x = 0)) 32 10))) none)))) (cond (Nat.ble pc 12) (cond (Nat.ble pc 10) (cond (Nat.beq pc 10) (some (.inl (g_ild 2 11))) none) (cond (Nat.ble pc 11) (cond (Nat.beq pc 11) (some (.inl (g_push 0 12))) none) (cond (Nat.beq pc 12) (some (.inl (g_push 1000 15))) none))) (cond (Nat.ble pc 15) (cond (Nat.beq pc 15) (some (.inr (.inl (66, 3, 18)))) none) (cond (Nat.ble pc 18) (cond (Nat.beq pc 18) (some (.inl (g_br1 (fun x => decide (x = 0)) 32 21))) none) (cond (Nat.beq pc 21) (some (.inl (g_ild 3 22))) none))))) (cond (Nat.ble pc 33) (cond (Nat.ble pc 26) (cond (Nat.ble pc 22) (cond (Nat.beq pc 22) (some (.inl (g_ild 2 23))) none) (cond (Nat.ble pc 23) (cond (Nat.beq pc 23) (some (.inl (g_push 1000 26))) none) (cond (Nat.beq pc 26) (some (.inr (.inl (66, 3, 29)))) none))) (cond (Nat.ble pc 29) (cond (Nat.beq pc 29) (some (.inl (g_br1 (fun x => decide (¬ x = 0)) 34 32))) none) (cond (Nat.ble pc 32) (cond (Nat.beq pc 32) (some (.inl (g_push (-1) 33))) none) (cond (Nat.beq pc 33) (some (.inr (.inr 1))) none)))) (cond (Nat.ble pc 38) (cond (Nat.ble pc 34) (cond (Nat.beq pc 34) (some (.inl (g_ald 0 35))) none) (cond (Nat.ble pc 35) (cond (Nat.beq pc 35) (some (.inr (.inl (67, 1, 38)))) none) (cond (Nat.beq pc 38) (some (.inl (g_ald 0 39))) none))) (cond (Nat.ble pc 39) (cond (Nat.beq pc 39) (some (.inl (g_push 31 41))) none) (cond (Nat.ble pc 41) (cond (Nat.beq pc 41) (some (.inl (g_push 2 42))) none) (cond (Nat.beq pc 42) (some (.inl (g_ild 1 43))) none)))))) (cond (Nat.ble pc 57) (cond (Nat.ble pc 48) (cond (Nat.ble pc 45) (cond (Nat.ble pc 43) (cond (Nat.beq pc 43) (some (.inl (g_iop (fun x y => x * y) 44))) none) (cond (Nat.ble pc 44) (cond (Nat.beq pc 44) (some (.inl (g_iop (fun x y => x + y) 45))) none) (cond (Nat.beq pc 45) (some (.inl (g_push 2 46))) none))) (cond (Nat.ble pc 46) (cond (Nat.beq pc 46) (some (.inl (g_iop (fun x y => x - y) 47))) none) (cond (Nat.ble pc 47) (cond (Nat.beq pc 47) (some (.inl (g_ild 2 48))) none) (cond (Nat.beq pc 48) (some (.inr (.inl (89, 3, 51)))) none)))) (cond (Nat.ble pc 54) (cond (Nat.ble pc 51) (cond (Nat.beq pc 51) (some (.inl (g_ald 0 52))) none) (cond (Nat.ble pc 52) (cond (Nat.beq pc 52) (some (.inl (g_push 31 54))) none) (cond (Nat.beq pc 54) (some (.inl (g_push 2 55))) none))) (cond (Nat.ble pc 55) (cond (Nat.beq pc 55) (some (.inl (g_ild 1 56))) none) (cond (Nat.ble pc 56) (cond (Nat.beq pc 56) (some (.inl (g_iop (fun x y => x * y) 57))) none) (cond (Nat.beq pc 57) (some (.inl (g_iop (fun x y => x + y) 58))) none))))) (cond (Nat.ble pc 65) (cond (Nat.ble pc 60) (cond (Nat.ble pc 58) (cond (Nat.beq pc 58) (some (.inl (g_push 1 59))) none) (cond (Nat.ble pc 59) (cond (Nat.beq pc 59) (some (.inl (g_iop (fun x y => x - y) 60))) none) (cond (Nat.beq pc 60) (some (.inl (g_ild 3 61))) none))) (cond (Nat.ble pc 61) (cond (Nat.beq pc 61) (some (.inr (.inl (89, 3, 64)))) none) (cond (Nat.ble pc 64) (cond (Nat.beq pc 64) (some (.inl (g_iop (fun x y => x + y) 65))) none) (cond (Nat.beq pc 65) (some (.inl (g_ist 4 67))) none)))) (cond (Nat.ble pc 72) (cond (Nat.ble pc 67) (cond (Nat.beq pc 67) (some (.inl (g_ild 4 69))) none) (cond (Nat.ble pc 69) (cond (Nat.beq pc 69) (some (.inl (g_br1 (fun x => decide (x ≤ 0)) 76 72))) none) (cond (Nat.beq pc 72) (some (.inl (g_push 1 73))) none))) (cond (Nat.ble pc 73) (cond (Nat.beq pc 73) (some (.inl (g_goto 77))) none) (cond (Nat.ble pc 76) (cond (Nat.beq pc 76) (some (.inl (g_push 0 77))) none) (cond (Nat.beq pc 77) (some (.inr (.inr 1))) none))))))
def kp_92 (pc : Nat) : Option KOp := cond (Nat.ble pc 80) (cond (Nat.ble pc 65) (cond (Nat.ble pc 57) (cond (Nat.ble pc 1) (cond (Nat.ble pc 0) (cond (Nat.beq pc 0) (some (.inl (g_ild 1 1))) none) (cond (Nat.beq pc 1) (some (.inl (g_tsw 9 [56, 64, 64, 64, 64, 76, 84, 92, 100, 105] 110))) none)) (cond (Nat.ble pc 56) (cond (Nat.beq pc 56) (some (.inl (g_ald 0 57))) none) (cond (Nat.beq pc 57) (some (.inl (g_gfr 4 0 60))) none))) (cond (Nat.ble pc 62) (cond (Nat.ble pc 60) (cond (Nat.beq pc 60) (some (.inl (g_push 24 62))) none) (cond (Nat.beq pc 62) (some (.inl (g_pald 5 63))) none)) (cond (Nat.ble pc 63) (cond (Nat.beq pc 63) (some (.inr (.inr 1))) none) (cond (Nat.ble pc 64) (cond (Nat.beq pc 64) (some (.inl (g_ald 0 65))) none) (cond (Nat.beq pc 65) (some (.inl (g_gfr 4 0 68))) none))))) (cond (Nat.ble pc 73) (cond (Nat.ble pc 70) (cond (Nat.ble pc 68) (cond (Nat.beq pc 68) (some (.inl (g_push 20 70))) none) (cond (Nat.beq pc 70) (some (.inl (g_ild 1 71))) none)) (cond (Nat.ble pc 71) (cond (Nat.beq pc 71) (some (.inl (g_iop (fun x y => x + y) 72))) none) (cond (Nat.ble pc 72) (cond (Nat.beq pc 72) (some (.inl (g_push 1 73))) none) (cond (Nat.beq pc 73) (some (.inl (g_iop (fun x y => x - y) 74))) none)))) (cond (Nat.ble pc 75) (cond (Nat.ble pc 74) (cond (Nat.beq pc 74) (some (.inl (g_pald 5 75))) none) (cond (Nat.beq pc 75) (some (.inr (.inr 1))) none)) (cond (Nat.ble pc 76) (cond (Nat.beq pc 76) (some (.inl (g_ald 0 77))) none) (cond (Nat.ble pc 77) (cond (Nat.beq pc 77) (some (.inl (g_gfr 4 0 80))) none) (cond (Nat.beq pc 80) (some (.inl (g_push 49 82))) none)))))) (cond (Nat.ble pc 96) (cond (Nat.ble pc 88) (cond (Nat.ble pc 83) (cond (Nat.ble pc 82) (cond (Nat.beq pc 82) (some (.inl (g_pald 5 83))) none) (cond (Nat.beq pc 83) (some (.inr (.inr 1))) none)) (cond (Nat.ble pc 84) (cond (Nat.beq pc 84) (some (.inl (g_ald 0 85))) none) (cond (Nat.ble pc 85) (cond (Nat.beq pc 85) (some (.inl (g_gfr 4 0 88))) none) (cond (Nat.beq pc 88) (some (.inl (g_push 51 90))) none)))) (cond (Nat.ble pc 91) (cond (Nat.ble pc 90) (cond (Nat.beq pc 90) (some (.inl (g_pald 5 91))) none) (cond (Nat.beq pc 91) (some (.inr (.inr 1))) none)) (cond (Nat.ble pc 92) (cond (Nat.beq pc 92) (some (.inl (g_ald 0 93))) none) (cond (Nat.ble pc 93) (cond (Nat.beq pc 93) (some (.inl (g_gfr 4 0 96))) none) (cond (Nat.beq pc 96) (some (.inl (g_push 52 98))) none))))) (cond (Nat.ble pc 104) (cond (Nat.ble pc 99) (cond (Nat.ble pc 98) (cond (Nat.beq pc 98) (some (.inl (g_pald 5 99))) none) (cond (Nat.beq pc 99) (some (.inr (.inr 1))) none)) (cond (Nat.ble pc 100) (cond (Nat.beq pc 100) (some (.inl (g_ald 0 101))) none) (cond (Nat.ble pc 101) (cond (Nat.beq pc 101) (some (.inl (g_gfi 4 4 104))) none) (cond (Nat.beq pc 104) (some (.inr (.inr 1))) none)))) (cond (Nat.ble pc 106) (cond (Nat.ble pc 105) (cond (Nat.beq pc 105) (some (.inl (g_ald 0 106))) none) (cond (Nat.beq pc 106) (some (.inl (g_gfi 4 2 109))) none)) (cond (Nat.ble pc 109) (cond (Nat.beq pc 109) (some (.inr (.inr 1))) none) (cond (Nat.ble pc 110) (cond (Nat.beq pc 110) (some (.inl (g_push (-1) 111))) none) (cond (Nat.beq pc 111) (some (.inr (.inr 1))) none))))))
def kp_93 (pc : Nat) : Option KOp := cond (Nat.ble pc 3) (cond (Nat.ble pc 1) (cond (Nat.ble pc 0) (cond (Nat.beq pc 0) (some (.inl (g_ild 1 1))) none) (cond (Nat.beq pc 1) (some (.inl (g_push 0 2))) none)) (cond (Nat.ble pc 2) (cond (Nat.beq pc 2) (some (.inl (g_ald 0 3))) none) (cond (Nat.beq pc 3) (some (.inl (g_gfr 4 0 6))) none))) (cond (Nat.ble pc 8) (cond (Nat.ble pc 6) (cond (Nat.beq pc 6) (some (.inl (g_push 24 8))) none) (cond (Nat.beq pc 8) (some (.inl (g_pald 5 9))) none)) (cond (Nat.ble pc 9) (cond (Nat.beq pc 9) (some (.inr (.inl (66, 3, 12)))) none) (cond (Nat.beq pc 12) (some (.inr (.inr 2))) none)))
def kp_94 (pc : Nat) : Option KOp := cond (Nat.ble pc 6) (cond (Nat.ble pc 1) (cond (Nat.ble pc 0) (cond (Nat.beq pc 0) (some (.inl (g_ild 1 1))) none) (cond (Nat.beq pc 1) (some (.inl (g_push 0 2))) none)) (cond (Nat.ble pc 2) (cond (Nat.beq pc 2) (some (.inl (g_ald 0 3))) none) (cond (Nat.ble pc 3) (cond (Nat.beq pc 3) (some (.inl (g_gfr 4 0 6))) none) (cond (Nat.beq pc 6) (some (.inl (g_push 24 8))) none)))) (cond (Nat.ble pc 9) (cond (Nat.ble pc 8) (cond (Nat.beq pc 8) (some (.inl (g_pald 5 9))) none) (cond (Nat.beq pc 9) (some (.inl (g_push 1 10))) none)) (cond (Nat.ble pc 10) (cond (Nat.beq pc 10) (some (.inl (g_iop (fun x y => x - y) 11))) none) (cond (Nat.ble pc 11) (cond (Nat.beq pc 11) (some (.inr (.inl (66, 3, 14)))) none) (cond (Nat.beq pc 14) (some (.inr (.inr 2))) none))))
def kp_95 (pc : Nat) : Option KOp := cond (Nat.ble pc 27) (cond (Nat.ble pc 12) (cond (Nat.ble pc 2) (cond (Nat.ble pc 0) (cond (Nat.beq pc 0) (some (.inl (g_ald 0 1))) none) (cond (Nat.ble pc 1) (cond (Nat.beq pc 1) (some (.inl (g_ild 1 2))) none) (cond (Nat.beq pc 2) (some (.inr (.inl (94, 2, 5)))) none))) (cond (Nat.ble pc 8) (cond (Nat.ble pc 5) (cond (Nat.beq pc 5) (some (.inl (g_br1 (fun x => decide (¬ x = 0)) 12 8))) none) (cond (Nat.beq pc 8) (some (.inl (g_push 1000 11))) none)) (cond (Nat.ble pc 11) (cond (Nat.beq pc 11) (some (.inr (.inr 1))) none) (cond (Nat.beq pc 12) (some (.inl (g_push 1000 15))) none)))) (cond (Nat.ble pc 20) (cond (Nat.ble pc 16) (cond (Nat.ble pc 15) (cond (Nat.beq pc 15) (some (.inl (g_ald 0 16))) none) (cond (Nat.beq pc 16) (some (.inl (g_gfr 4 0 19))) none)) (cond (Nat.ble pc 19) (cond (Nat.beq pc 19) (some (.inl (g_ald 0 20))) none) (cond (Nat.beq pc 20) (some (.inl (g_ild 1 21))) none))) (cond (Nat.ble pc 24) (cond (Nat.ble pc 21) (cond (Nat.beq pc 21) (some (.inr (.inl (84, 2, 24)))) none) (cond (Nat.beq pc 24) (some (.inl (g_push 10 26))) none)) (cond (Nat.ble pc 26) (cond (Nat.beq pc 26) (some (.inl (g_iop (fun x y => x + y) 27))) none) (cond (Nat.beq pc 27) (some (.inl (g_pald 5 28))) none))))) (cond (Nat.ble pc 40) (cond (Nat.ble pc 33) (cond (Nat.ble pc 31) (cond (Nat.ble pc 28) (cond (Nat.beq pc 28) (some (.inl (g_push 1000 31))) none) (cond (Nat.beq pc 31) (some (.inl (g_iop (fun x y => x * y) 32))) none)) (cond (Nat.ble pc 32) (cond (Nat.beq pc 32) (some (.inl (g_ald 0 33))) none) (cond (Nat.beq pc 33) (some (.inl (g_gfr 4 0 36))) none))) (cond (Nat.ble pc 38) (cond (Nat.ble pc 36) (cond (Nat.beq pc 36) (some (.inl (g_push 20 38))) none) (cond (Nat.beq pc 38) (some (.inl (g_pald 5 39))) none)) (cond (Nat.ble pc 39) (cond (Nat.beq pc 39) (some (.inl (g_idiv (fun x y => x / y) 40))) none) (cond (Nat.beq pc 40) (some (.inl (g_iop (fun x y => x - y) 41))) none)))) (cond (Nat.ble pc 45) (cond (Nat.ble pc 42) (cond (Nat.ble pc 41) (cond (Nat.beq pc 41) (some (.inl (g_ist 2 42))) none) (cond (Nat.beq pc 42) (some (.inl (g_ild 2 43))) none)) (cond (Nat.ble pc 43) (cond (Nat.beq pc 43) (some (.inl (g_push 100 45))) none) (cond (Nat.beq pc 45) (some (.inl (g_br2 (fun x y => decide (y ≤ x)) 53 48))) none))) (cond (Nat.ble pc 50) (cond (Nat.ble pc 48) (cond (Nat.beq pc 48) (some (.inl (g_push 100 50))) none) (cond (Nat.beq pc 50) (some (.inl (g_goto 54))) none)) (cond (Nat.ble pc 53) (cond (Nat.beq pc 53) (some (.inl (g_ild 2 54))) none) (cond (Nat.beq pc 54) (some (.inr (.inr 1))) none)))))
def kp_96 (pc : Nat) : Option KOp := cond (Nat.ble pc 74) (cond (Nat.ble pc 20) (cond (Nat.ble pc 9) (cond (Nat.ble pc 2) (cond (Nat.ble pc 0) (cond (Nat.beq pc 0) (some (.inl (g_ald 0 1))) none) (cond (Nat.ble pc 1) (cond (Nat.beq pc 1) (some (.inl (g_ild 1 2))) none) (cond (Nat.beq pc 2) (some (.inr (.inl (93, 2, 5)))) none))) (cond (Nat.ble pc 5) (cond (Nat.beq pc 5) (some (.inl (g_br1 (fun x => decide (x = 0)) 17 8))) none) (cond (Nat.ble pc 8) (cond (Nat.beq pc 8) (some (.inl (g_ild 2 9))) none) (cond (Nat.beq pc 9) (some (.inl (g_push 0 10))) none)))) (cond (Nat.ble pc 14) (cond (Nat.ble pc 10) (cond (Nat.beq pc 10) (some (.inl (g_push 4 11))) none) (cond (Nat.ble pc 11) (cond (Nat.beq pc 11) (some (.inr (.inl (66, 3, 14)))) none) (cond (Nat.beq pc 14) (some (.inl (g_br1 (fun x => decide (¬ x = 0)) 19 17))) none))) (cond (Nat.ble pc 18) (cond (Nat.ble pc 17) (cond (Nat.beq pc 17) (some (.inl (g_push (-1) 18))) none) (cond (Nat.beq pc 18) (some (.inr (.inr 1))) none)) (cond (Nat.ble pc 19) (cond (Nat.beq pc 19) (some (.inl (g_ild 2 20))) none) (cond (Nat.beq pc 20) (some (.inl (g_tsw 3 [52, 74, 84, 98] 112))) none))))) (cond (Nat.ble pc 64) (cond (Nat.ble pc 54) (cond (Nat.ble pc 52) (cond (Nat.beq pc 52) (some (.inl (g_ald 0 53))) none) (cond (Nat.ble pc 53) (cond (Nat.beq pc 53) (some (.inl (g_ild 1 54))) none) (cond (Nat.beq pc 54) (some (.inr (.inl (94, 2, 57)))) none))) (cond (Nat.ble pc 60) (cond (Nat.ble pc 57) (cond (Nat.beq pc 57) (some (.inl (g_br1 (fun x => decide (x = 0)) 72 60))) none) (cond (Nat.beq pc 60) (some (.inl (g_ald 0 61))) none)) (cond (Nat.ble pc 61) (cond (Nat.beq pc 61) (some (.inl (g_gfr 4 0 64))) none) (cond (Nat.beq pc 64) (some (.inl (g_push 25 66))) none)))) (cond (Nat.ble pc 68) (cond (Nat.ble pc 66) (cond (Nat.beq pc 66) (some (.inl (g_ild 1 67))) none) (cond (Nat.ble pc 67) (cond (Nat.beq pc 67) (some (.inl (g_iop (fun x y => x + y) 68))) none) (cond (Nat.beq pc 68) (some (.inl (g_pald 5 69))) none))) (cond (Nat.ble pc 72) (cond (Nat.ble pc 69) (cond (Nat.beq pc 69) (some (.inl (g_goto 73))) none) (cond (Nat.beq pc 72) (some (.inl (g_push 0 73))) none)) (cond (Nat.ble pc 73) (cond (Nat.beq pc 73) (some (.inr (.inr 1))) none) (cond (Nat.beq pc 74) (some (.inl (g_ald 0 75))) none)))))) (cond (Nat.ble pc 96) (cond (Nat.ble pc 84) (cond (Nat.ble pc 77) (cond (Nat.ble pc 75) (cond (Nat.beq pc 75) (some (.inl (g_ald 0 76))) none) (cond (Nat.ble pc 76) (cond (Nat.beq pc 76) (some (.inl (g_ild 1 77))) none) (cond (Nat.beq pc 77) (some (.inr (.inl (84, 2, 80)))) none))) (cond (Nat.ble pc 80) (cond (Nat.beq pc 80) (some (.inr (.inl (69, 2, 83)))) none) (cond (Nat.ble pc 83) (cond (Nat.beq pc 83) (some (.inr (.inr 1))) none) (cond (Nat.beq pc 84) (some (.inl (g_ald 0 85))) none)))) (cond (Nat.ble pc 89) (cond (Nat.ble pc 85) (cond (Nat.beq pc 85) (some (.inl (g_gfr 4 0 88))) none) (cond (Nat.ble pc 88) (cond (Nat.beq pc 88) (some (.inl (g_ald 0 89))) none) (cond (Nat.beq pc 89) (some (.inl (g_ild 1 90))) none))) (cond (Nat.ble pc 93) (cond (Nat.ble pc 90) (cond (Nat.beq pc 90) (some (.inr (.inl (84, 2, 93)))) none) (cond (Nat.beq pc 93) (some (.inl (g_push 10 95))) none)) (cond (Nat.ble pc 95) (cond (Nat.beq pc 95) (some (.inl (g_iop (fun x y => x + y) 96))) none) (cond (Nat.beq pc 96) (some (.inl (g_pald 5 97))) none))))) (cond (Nat.ble pc 107) (cond (Nat.ble pc 99) (cond (Nat.ble pc 97) (cond (Nat.beq pc 97) (some (.inr (.inr 1))) none) (cond (Nat.ble pc 98) (cond (Nat.beq pc 98) (some (.inl (g_ald 0 99))) none) (cond (Nat.beq pc 99) (some (.inl (g_gfr 4 0 102))) none))) (cond (Nat.ble pc 103) (cond (Nat.ble pc 102) (cond (Nat.beq pc 102) (some (.inl (g_ald 0 103))) none) (cond (Nat.beq pc 103) (some (.inl (g_ild 1 104))) none)) (cond (Nat.ble pc 104) (cond (Nat.beq pc 104) (some (.inr (.inl (84, 2, 107)))) none) (cond (Nat.beq pc 107) (some (.inl (g_push 11 109))) none)))) (cond (Nat.ble pc 111) (cond (Nat.ble pc 109) (cond (Nat.beq pc 109) (some (.inl (g_iop (fun x y => x + y) 110))) none) (cond (Nat.ble pc 110) (cond (Nat.beq pc 110) (some (.inl (g_pald 5 111))) none) (cond (Nat.beq pc 111) (some (.inr (.inr 1))) none))) (cond (Nat.ble pc 113) (cond (Nat.ble pc 112) (cond (Nat.beq pc 112) (some (.inl (g_ald 0 113))) none) (cond (Nat.beq pc 113) (some (.inl (g_ild 1 114))) none)) (cond (Nat.ble pc 114) (cond (Nat.beq pc 114) (some (.inr (.inl (95, 2, 117)))) none) (cond (Nat.beq pc 117) (some (.inr (.inr 1))) none))))))
def kp_97 (pc : Nat) : Option KOp := cond (Nat.ble pc 18) (cond (Nat.ble pc 8) (cond (Nat.ble pc 1) (cond (Nat.ble pc 0) (cond (Nat.beq pc 0) (some (.inl (g_ald 0 1))) none) (cond (Nat.beq pc 1) (some (.inl (g_ild 1 2))) none)) (cond (Nat.ble pc 2) (cond (Nat.beq pc 2) (some (.inr (.inl (93, 2, 5)))) none) (cond (Nat.ble pc 5) (cond (Nat.beq pc 5) (some (.inl (g_br1 (fun x => decide (x = 0)) 18 8))) none) (cond (Nat.beq pc 8) (some (.inl (g_ild 2 9))) none)))) (cond (Nat.ble pc 10) (cond (Nat.ble pc 9) (cond (Nat.beq pc 9) (some (.inl (g_push 0 10))) none) (cond (Nat.beq pc 10) (some (.inl (g_push 9 12))) none)) (cond (Nat.ble pc 12) (cond (Nat.beq pc 12) (some (.inr (.inl (66, 3, 15)))) none) (cond (Nat.ble pc 15) (cond (Nat.beq pc 15) (some (.inl (g_br1 (fun x => decide (¬ x = 0)) 22 18))) none) (cond (Nat.beq pc 18) (some (.inl (g_push (-1) 19))) none))))) (cond (Nat.ble pc 27) (cond (Nat.ble pc 22) (cond (Nat.ble pc 19) (cond (Nat.beq pc 19) (some (.inl (g_goto 34))) none) (cond (Nat.beq pc 22) (some (.inl (g_ald 0 23))) none)) (cond (Nat.ble pc 23) (cond (Nat.beq pc 23) (some (.inl (g_gfr 4 0 26))) none) (cond (Nat.ble pc 26) (cond (Nat.beq pc 26) (some (.inl (g_ald 0 27))) none) (cond (Nat.beq pc 27) (some (.inl (g_ild 1 28))) none)))) (cond (Nat.ble pc 31) (cond (Nat.ble pc 28) (cond (Nat.beq pc 28) (some (.inr (.inl (84, 2, 31)))) none) (cond (Nat.beq pc 31) (some (.inl (g_ild 2 32))) none)) (cond (Nat.ble pc 32) (cond (Nat.beq pc 32) (some (.inl (g_iop (fun x y => x + y) 33))) none) (cond (Nat.ble pc 33) (cond (Nat.beq pc 33) (some (.inl (g_pald 5 34))) none) (cond (Nat.beq pc 34) (some (.inr (.inr 1))) none)))))
def kp_98 (pc : Nat) : Option KOp := cond (Nat.ble pc 48) (cond (Nat.ble pc 23) (cond (Nat.ble pc 10) (cond (Nat.ble pc 2) (cond (Nat.ble pc 0) (cond (Nat.beq pc 0) (some (.inl (g_ald 0 1))) none) (cond (Nat.ble pc 1) (cond (Nat.beq pc 1) (some (.inl (g_push 0 2))) none) (cond (Nat.beq pc 2) (some (.inr (.inl (69, 2, 5)))) none))) (cond (Nat.ble pc 6) (cond (Nat.ble pc 5) (cond (Nat.beq pc 5) (some (.inl (g_ist 1 6))) none) (cond (Nat.beq pc 6) (some (.inl (g_ald 0 7))) none)) (cond (Nat.ble pc 7) (cond (Nat.beq pc 7) (some (.inl (g_gfr 4 0 10))) none) (cond (Nat.beq pc 10) (some (.inl (g_push 24 12))) none)))) (cond (Nat.ble pc 16) (cond (Nat.ble pc 12) (cond (Nat.beq pc 12) (some (.inl (g_pald 5 13))) none) (cond (Nat.ble pc 13) (cond (Nat.beq pc 13) (some (.inl (g_br1 (fun x => decide (x = 0)) 20 16))) none) (cond (Nat.beq pc 16) (some (.inl (g_ild 1 17))) none))) (cond (Nat.ble pc 20) (cond (Nat.ble pc 17) (cond (Nat.beq pc 17) (some (.inl (g_br1 (fun x => decide (¬ x = 0)) 23 20))) none) (cond (Nat.beq pc 20) (some (.inl (g_push (-2) 22))) none)) (cond (Nat.ble pc 22) (cond (Nat.beq pc 22) (some (.inr (.inr 1))) none) (cond (Nat.beq pc 23) (some (.inl (g_ald 0 24))) none))))) (cond (Nat.ble pc 34) (cond (Nat.ble pc 28) (cond (Nat.ble pc 24) (cond (Nat.beq pc 24) (some (.inr (.inl (67, 1, 27)))) none) (cond (Nat.ble pc 27) (cond (Nat.beq pc 27) (some (.inl (g_ald 0 28))) none) (cond (Nat.beq pc 28) (some (.inr (.inl (86, 1, 31)))) none))) (cond (Nat.ble pc 32) (cond (Nat.ble pc 31) (cond (Nat.beq pc 31) (some (.inl (g_push 0 32))) none) (cond (Nat.beq pc 32) (some (.inl (g_ist 2 33))) none)) (cond (Nat.ble pc 33) (cond (Nat.beq pc 33) (some (.inl (g_ild 2 34))) none) (cond (Nat.beq pc 34) (some (.inl (g_push 10 36))) none)))) (cond (Nat.ble pc 40) (cond (Nat.ble pc 36) (cond (Nat.beq pc 36) (some (.inl (g_br2 (fun x y => decide (y ≤ x)) 74 39))) none) (cond (Nat.ble pc 39) (cond (Nat.beq pc 39) (some (.inl (g_ald 0 40))) none) (cond (Nat.beq pc 40) (some (.inl (g_gfr 4 0 43))) none))) (cond (Nat.ble pc 44) (cond (Nat.ble pc 43) (cond (Nat.beq pc 43) (some (.inl (g_ald 0 44))) none) (cond (Nat.beq pc 44) (some (.inl (g_push 0 45))) none)) (cond (Nat.ble pc 45) (cond (Nat.beq pc 45) (some (.inr (.inl (84, 2, 48)))) none) (cond (Nat.beq pc 48) (some (.inl (g_ild 2 49))) none)))))) (cond (Nat.ble pc 66) (cond (Nat.ble pc 57) (cond (Nat.ble pc 51) (cond (Nat.ble pc 49) (cond (Nat.beq pc 49) (some (.inl (g_iop (fun x y => x + y) 50))) none) (cond (Nat.ble pc 50) (cond (Nat.beq pc 50) (some (.inl (g_ald 0 51))) none) (cond (Nat.beq pc 51) (some (.inl (g_gfr 4 0 54))) none))) (cond (Nat.ble pc 55) (cond (Nat.ble pc 54) (cond (Nat.beq pc 54) (some (.inl (g_push 0 55))) none) (cond (Nat.beq pc 55) (some (.inl (g_ild 2 56))) none)) (cond (Nat.ble pc 56) (cond (Nat.beq pc 56) (some (.inl (g_iop (fun x y => x + y) 57))) none) (cond (Nat.beq pc 57) (some (.inl (g_pald 5 58))) none)))) (cond (Nat.ble pc 60) (cond (Nat.ble pc 58) (cond (Nat.beq pc 58) (some (.inl (g_past 5 59))) none) (cond (Nat.ble pc 59) (cond (Nat.beq pc 59) (some (.inl (g_ald 0 60))) none) (cond (Nat.beq pc 60) (some (.inl (g_gfr 4 0 63))) none))) (cond (Nat.ble pc 64) (cond (Nat.ble pc 63) (cond (Nat.beq pc 63) (some (.inl (g_push 0 64))) none) (cond (Nat.beq pc 64) (some (.inl (g_ild 2 65))) none)) (cond (Nat.ble pc 65) (cond (Nat.beq pc 65) (some (.inl (g_iop (fun x y => x + y) 66))) none) (cond (Nat.beq pc 66) (some (.inl (g_push 0 67))) none))))) (cond (Nat.ble pc 80) (cond (Nat.ble pc 71) (cond (Nat.ble pc 67) (cond (Nat.beq pc 67) (some (.inl (g_past 5 68))) none) (cond (Nat.ble pc 68) (cond (Nat.beq pc 68) (some (.inl (g_iinc 2 1 71))) none) (cond (Nat.beq pc 71) (some (.inl (g_goto 33))) none))) (cond (Nat.ble pc 75) (cond (Nat.ble pc 74) (cond (Nat.beq pc 74) (some (.inl (g_ald 0 75))) none) (cond (Nat.beq pc 75) (some (.inl (g_gfr 4 0 78))) none)) (cond (Nat.ble pc 78) (cond (Nat.beq pc 78) (some (.inl (g_push 49 80))) none) (cond (Nat.beq pc 80) (some (.inl (g_push 1 81))) none)))) (cond (Nat.ble pc 86) (cond (Nat.ble pc 82) (cond (Nat.ble pc 81) (cond (Nat.beq pc 81) (some (.inl (g_past 5 82))) none) (cond (Nat.beq pc 82) (some (.inl (g_ald 0 83))) none)) (cond (Nat.ble pc 83) (cond (Nat.beq pc 83) (some (.inl (g_gfr 4 0 86))) none) (cond (Nat.beq pc 86) (some (.inl (g_push 50 88))) none))) (cond (Nat.ble pc 89) (cond (Nat.ble pc 88) (cond (Nat.beq pc 88) (some (.inl (g_ild 1 89))) none) (cond (Nat.beq pc 89) (some (.inl (g_past 5 90))) none)) (cond (Nat.ble pc 90) (cond (Nat.beq pc 90) (some (.inl (g_ild 1 91))) none) (cond (Nat.beq pc 91) (some (.inr (.inr 1))) none))))))
def kp_99 (pc : Nat) : Option KOp := cond (Nat.ble pc 28) (cond (Nat.ble pc 12) (cond (Nat.ble pc 2) (cond (Nat.ble pc 0) (cond (Nat.beq pc 0) (some (.inl (g_ild 2 1))) none) (cond (Nat.ble pc 1) (cond (Nat.beq pc 1) (some (.inl (g_push 1 2))) none) (cond (Nat.beq pc 2) (some (.inl (g_br2 (fun x y => decide (¬ x = y)) 11 5))) none))) (cond (Nat.ble pc 8) (cond (Nat.ble pc 5) (cond (Nat.beq pc 5) (some (.inl (g_pushl 300 8))) none) (cond (Nat.beq pc 8) (some (.inl (g_goto 25))) none)) (cond (Nat.ble pc 11) (cond (Nat.beq pc 11) (some (.inl (g_ild 2 12))) none) (cond (Nat.beq pc 12) (some (.inl (g_push 2 13))) none)))) (cond (Nat.ble pc 22) (cond (Nat.ble pc 16) (cond (Nat.ble pc 13) (cond (Nat.beq pc 13) (some (.inl (g_br2 (fun x y => decide (¬ x = y)) 22 16))) none) (cond (Nat.beq pc 16) (some (.inl (g_pushl 600 19))) none)) (cond (Nat.ble pc 19) (cond (Nat.beq pc 19) (some (.inl (g_goto 25))) none) (cond (Nat.beq pc 22) (some (.inl (g_pushl 900 25))) none))) (cond (Nat.ble pc 26) (cond (Nat.ble pc 25) (cond (Nat.beq pc 25) (some (.inl (g_lst 3 26))) none) (cond (Nat.beq pc 26) (some (.inl (g_ild 0 27))) none)) (cond (Nat.ble pc 27) (cond (Nat.beq pc 27) (some (.inl (g_i2l 28))) none) (cond (Nat.beq pc 28) (some (.inl (g_ild 1 29))) none))))) (cond (Nat.ble pc 38) (cond (Nat.ble pc 32) (cond (Nat.ble pc 30) (cond (Nat.ble pc 29) (cond (Nat.beq pc 29) (some (.inl (g_i2l 30))) none) (cond (Nat.beq pc 30) (some (.inl (g_lld 3 31))) none)) (cond (Nat.ble pc 31) (cond (Nat.beq pc 31) (some (.inl (g_lop (fun x y => x * y) 32))) none) (cond (Nat.beq pc 32) (some (.inl (g_lop (fun x y => x * y) 33))) none))) (cond (Nat.ble pc 36) (cond (Nat.ble pc 33) (cond (Nat.beq pc 33) (some (.inl (g_pushl 1000000 36))) none) (cond (Nat.beq pc 36) (some (.inl (g_ldiv 37))) none)) (cond (Nat.ble pc 37) (cond (Nat.beq pc 37) (some (.inl (g_l2i 38))) none) (cond (Nat.beq pc 38) (some (.inl (g_ist 5 40))) none)))) (cond (Nat.ble pc 46) (cond (Nat.ble pc 41) (cond (Nat.ble pc 40) (cond (Nat.beq pc 40) (some (.inl (g_ild 0 41))) none) (cond (Nat.beq pc 41) (some (.inl (g_br1 (fun x => decide (x ≤ 0)) 53 44))) none)) (cond (Nat.ble pc 44) (cond (Nat.beq pc 44) (some (.inl (g_ild 5 46))) none) (cond (Nat.beq pc 46) (some (.inl (g_br1 (fun x => decide (¬ x = 0)) 53 49))) none))) (cond (Nat.ble pc 50) (cond (Nat.ble pc 49) (cond (Nat.beq pc 49) (some (.inl (g_push 1 50))) none) (cond (Nat.beq pc 50) (some (.inl (g_goto 55))) none)) (cond (Nat.ble pc 53) (cond (Nat.beq pc 53) (some (.inl (g_ild 5 55))) none) (cond (Nat.beq pc 55) (some (.inr (.inr 1))) none)))))
def kp_100 (pc : Nat) : Option KOp := cond (Nat.ble pc 114) (cond (Nat.ble pc 57) (cond (Nat.ble pc 26) (cond (Nat.ble pc 11) (cond (Nat.ble pc 3) (cond (Nat.ble pc 1) (cond (Nat.ble pc 0) (cond (Nat.beq pc 0) (some (.inl (g_push 0 1))) none) (cond (Nat.beq pc 1) (some (.inl (g_ist 1 2))) none)) (cond (Nat.ble pc 2) (cond (Nat.beq pc 2) (some (.inl (g_ald 0 3))) none) (cond (Nat.beq pc 3) (some (.inl (g_gfr 4 0 6))) none))) (cond (Nat.ble pc 8) (cond (Nat.ble pc 6) (cond (Nat.beq pc 6) (some (.inl (g_push 24 8))) none) (cond (Nat.beq pc 8) (some (.inl (g_pald 5 9))) none)) (cond (Nat.ble pc 9) (cond (Nat.beq pc 9) (some (.inl (g_push 1 10))) none) (cond (Nat.ble pc 10) (cond (Nat.beq pc 10) (some (.inl (g_iop (fun x y => x - y) 11))) none) (cond (Nat.beq pc 11) (some (.inl (g_ist 2 12))) none))))) (cond (Nat.ble pc 17) (cond (Nat.ble pc 13) (cond (Nat.ble pc 12) (cond (Nat.beq pc 12) (some (.inl (g_ild 2 13))) none) (cond (Nat.beq pc 13) (some (.inl (g_br1 (fun x => decide (x < 0)) 170 16))) none)) (cond (Nat.ble pc 16) (cond (Nat.beq pc 16) (some (.inl (g_ald 0 17))) none) (cond (Nat.beq pc 17) (some (.inl (g_ild 2 18))) none))) (cond (Nat.ble pc 21) (cond (Nat.ble pc 18) (cond (Nat.beq pc 18) (some (.inr (.inl (84, 2, 21)))) none) (cond (Nat.beq pc 21) (some (.inl (g_ist 3 22))) none)) (cond (Nat.ble pc 22) (cond (Nat.beq pc 22) (some (.inl (g_ald 0 23))) none) (cond (Nat.ble pc 23) (cond (Nat.beq pc 23) (some (.inl (g_gfr 4 0 26))) none) (cond (Nat.beq pc 26) (some (.inl (g_push 25 28))) none)))))) (cond (Nat.ble pc 40) (cond (Nat.ble pc 31) (cond (Nat.ble pc 29) (cond (Nat.ble pc 28) (cond (Nat.beq pc 28) (some (.inl (g_ild 2 29))) none) (cond (Nat.beq pc 29) (some (.inl (g_iop (fun x y => x + y) 30))) none)) (cond (Nat.ble pc 30) (cond (Nat.beq pc 30) (some (.inl (g_pald 5 31))) none) (cond (Nat.beq pc 31) (some (.inl (g_ist 4 33))) none))) (cond (Nat.ble pc 34) (cond (Nat.ble pc 33) (cond (Nat.beq pc 33) (some (.inl (g_ald 0 34))) none) (cond (Nat.beq pc 34) (some (.inl (g_ild 2 35))) none)) (cond (Nat.ble pc 35) (cond (Nat.beq pc 35) (some (.inr (.inl (95, 2, 38)))) none) (cond (Nat.ble pc 38) (cond (Nat.beq pc 38) (some (.inl (g_ist 5 40))) none) (cond (Nat.beq pc 40) (some (.inl (g_push 0 41))) none))))) (cond (Nat.ble pc 47) (cond (Nat.ble pc 43) (cond (Nat.ble pc 41) (cond (Nat.beq pc 41) (some (.inl (g_ist 6 43))) none) (cond (Nat.beq pc 43) (some (.inl (g_ild 6 45))) none)) (cond (Nat.ble pc 45) (cond (Nat.beq pc 45) (some (.inl (g_ild 4 47))) none) (cond (Nat.beq pc 47) (some (.inl (g_br2 (fun x y => decide (y ≤ x)) 113 50))) none))) (cond (Nat.ble pc 51) (cond (Nat.ble pc 50) (cond (Nat.beq pc 50) (some (.inl (g_ald 0 51))) none) (cond (Nat.beq pc 51) (some (.inl (g_gfr 4 0 54))) none)) (cond (Nat.ble pc 54) (cond (Nat.beq pc 54) (some (.inl (g_ild 3 55))) none) (cond (Nat.ble pc 55) (cond (Nat.beq pc 55) (some (.inl (g_ild 6 57))) none) (cond (Nat.beq pc 57) (some (.inl (g_iop (fun x y => x + y) 58))) none))))))) (cond (Nat.ble pc 85) (cond (Nat.ble pc 72) (cond (Nat.ble pc 63) (cond (Nat.ble pc 59) (cond (Nat.ble pc 58) (cond (Nat.beq pc 58) (some (.inl (g_pald 5 59))) none) (cond (Nat.beq pc 59) (some (.inl (g_ild 5 61))) none)) (cond (Nat.ble pc 61) (cond (Nat.beq pc 61) (some (.inl (g_ild 4 63))) none) (cond (Nat.beq pc 63) (some (.inl (g_ild 6 65))) none))) (cond (Nat.ble pc 66) (cond (Nat.ble pc 65) (cond (Nat.beq pc 65) (some (.inl (g_iop (fun x y => x - y) 66))) none) (cond (Nat.beq pc 66) (some (.inr (.inl (99, 3, 69)))) none)) (cond (Nat.ble pc 69) (cond (Nat.beq pc 69) (some (.inl (g_ist 7 71))) none) (cond (Nat.ble pc 71) (cond (Nat.beq pc 71) (some (.inl (g_ald 0 72))) none) (cond (Nat.beq pc 72) (some (.inl (g_gfr 4 0 75))) none))))) (cond (Nat.ble pc 79) (cond (Nat.ble pc 76) (cond (Nat.ble pc 75) (cond (Nat.beq pc 75) (some (.inl (g_ild 3 76))) none) (cond (Nat.beq pc 76) (some (.inl (g_ild 6 78))) none)) (cond (Nat.ble pc 78) (cond (Nat.beq pc 78) (some (.inl (g_iop (fun x y => x + y) 79))) none) (cond (Nat.beq pc 79) (some (.inl (g_dup2 80))) none))) (cond (Nat.ble pc 81) (cond (Nat.ble pc 80) (cond (Nat.beq pc 80) (some (.inl (g_pald 5 81))) none) (cond (Nat.beq pc 81) (some (.inl (g_ild 7 83))) none)) (cond (Nat.ble pc 83) (cond (Nat.beq pc 83) (some (.inl (g_iop (fun x y => x - y) 84))) none) (cond (Nat.ble pc 84) (cond (Nat.beq pc 84) (some (.inl (g_past 5 85))) none) (cond (Nat.beq pc 85) (some (.inl (g_ald 0 86))) none)))))) (cond (Nat.ble pc 98) (cond (Nat.ble pc 92) (cond (Nat.ble pc 89) (cond (Nat.ble pc 86) (cond (Nat.beq pc 86) (some (.inl (g_gfr 4 0 89))) none) (cond (Nat.beq pc 89) (some (.inl (g_ild 3 90))) none)) (cond (Nat.ble pc 90) (cond (Nat.beq pc 90) (some (.inl (g_push 12 92))) none) (cond (Nat.beq pc 92) (some (.inl (g_iop (fun x y => x + y) 93))) none))) (cond (Nat.ble pc 95) (cond (Nat.ble pc 93) (cond (Nat.beq pc 93) (some (.inl (g_ild 6 95))) none) (cond (Nat.beq pc 95) (some (.inl (g_iop (fun x y => x + y) 96))) none)) (cond (Nat.ble pc 96) (cond (Nat.beq pc 96) (some (.inl (g_dup2 97))) none) (cond (Nat.ble pc 97) (cond (Nat.beq pc 97) (some (.inl (g_pald 5 98))) none) (cond (Nat.beq pc 98) (some (.inl (g_ild 7 100))) none))))) (cond (Nat.ble pc 105) (cond (Nat.ble pc 101) (cond (Nat.ble pc 100) (cond (Nat.beq pc 100) (some (.inl (g_iop (fun x y => x + y) 101))) none) (cond (Nat.beq pc 101) (some (.inl (g_past 5 102))) none)) (cond (Nat.ble pc 102) (cond (Nat.beq pc 102) (some (.inl (g_ild 1 103))) none) (cond (Nat.ble pc 103) (cond (Nat.beq pc 103) (some (.inl (g_ild 7 105))) none) (cond (Nat.beq pc 105) (some (.inl (g_iop (fun x y => x + y) 106))) none)))) (cond (Nat.ble pc 107) (cond (Nat.ble pc 106) (cond (Nat.beq pc 106) (some (.inl (g_ist 1 107))) none) (cond (Nat.beq pc 107) (some (.inl (g_iinc 6 1 110))) none)) (cond (Nat.ble pc 110) (cond (Nat.beq pc 110) (some (.inl (g_goto 43))) none) (cond (Nat.ble pc 113) (cond (Nat.beq pc 113) (some (.inl (g_ald 0 114))) none) (cond (Nat.beq pc 114) (some (.inl (g_gfr 4 0 117))) none)))))))) (cond (Nat.ble pc 172) (cond (Nat.ble pc 144) (cond (Nat.ble pc 129) (cond (Nat.ble pc 121) (cond (Nat.ble pc 118) (cond (Nat.ble pc 117) (cond (Nat.beq pc 117) (some (.inl (g_ild 3 118))) none) (cond (Nat.beq pc 118) (some (.inl (g_ild 4 120))) none)) (cond (Nat.ble pc 120) (cond (Nat.beq pc 120) (some (.inl (g_iop (fun x y => x + y) 121))) none) (cond (Nat.beq pc 121) (some (.inl (g_pald 5 122))) none))) (cond (Nat.ble pc 123) (cond (Nat.ble pc 122) (cond (Nat.beq pc 122) (some (.inl (g_ald 0 123))) none) (cond (Nat.beq pc 123) (some (.inl (g_gfr 4 0 126))) none)) (cond (Nat.ble pc 126) (cond (Nat.beq pc 126) (some (.inl (g_push 21 128))) none) (cond (Nat.ble pc 128) (cond (Nat.beq pc 128) (some (.inl (g_pald 5 129))) none) (cond (Nat.beq pc 129) (some (.inl (g_iop (fun x y => x * y) 130))) none))))) (cond (Nat.ble pc 136) (cond (Nat.ble pc 133) (cond (Nat.ble pc 130) (cond (Nat.beq pc 130) (some (.inl (g_push 1000 133))) none) (cond (Nat.beq pc 133) (some (.inl (g_idiv (fun x y => x / y) 134))) none)) (cond (Nat.ble pc 134) (cond (Nat.beq pc 134) (some (.inl (g_ist 6 136))) none) (cond (Nat.beq pc 136) (some (.inl (g_ald 0 137))) none))) (cond (Nat.ble pc 140) (cond (Nat.ble pc 137) (cond (Nat.beq pc 137) (some (.inl (g_gfr 4 0 140))) none) (cond (Nat.beq pc 140) (some (.inl (g_ild 3 141))) none)) (cond (Nat.ble pc 141) (cond (Nat.beq pc 141) (some (.inl (g_ild 4 143))) none) (cond (Nat.ble pc 143) (cond (Nat.beq pc 143) (some (.inl (g_iop (fun x y => x + y) 144))) none) (cond (Nat.beq pc 144) (some (.inl (g_dup2 145))) none)))))) (cond (Nat.ble pc 157) (cond (Nat.ble pc 149) (cond (Nat.ble pc 146) (cond (Nat.ble pc 145) (cond (Nat.beq pc 145) (some (.inl (g_pald 5 146))) none) (cond (Nat.beq pc 146) (some (.inl (g_ild 6 148))) none)) (cond (Nat.ble pc 148) (cond (Nat.beq pc 148) (some (.inl (g_iop (fun x y => x - y) 149))) none) (cond (Nat.beq pc 149) (some (.inl (g_past 5 150))) none))) (cond (Nat.ble pc 151) (cond (Nat.ble pc 150) (cond (Nat.beq pc 150) (some (.inl (g_ald 0 151))) none) (cond (Nat.beq pc 151) (some (.inl (g_gfr 4 0 154))) none)) (cond (Nat.ble pc 154) (cond (Nat.beq pc 154) (some (.inl (g_ild 3 155))) none) (cond (Nat.ble pc 155) (cond (Nat.beq pc 155) (some (.inl (g_push 10 157))) none) (cond (Nat.beq pc 157) (some (.inl (g_iop (fun x y => x + y) 158))) none))))) (cond (Nat.ble pc 163) (cond (Nat.ble pc 159) (cond (Nat.ble pc 158) (cond (Nat.beq pc 158) (some (.inl (g_dup2 159))) none) (cond (Nat.beq pc 159) (some (.inl (g_pald 5 160))) none)) (cond (Nat.ble pc 160) (cond (Nat.beq pc 160) (some (.inl (g_ild 6 162))) none) (cond (Nat.ble pc 162) (cond (Nat.beq pc 162) (some (.inl (g_iop (fun x y => x + y) 163))) none) (cond (Nat.beq pc 163) (some (.inl (g_past 5 164))) none)))) (cond (Nat.ble pc 167) (cond (Nat.ble pc 164) (cond (Nat.beq pc 164) (some (.inl (g_iinc 2 (-1) 167))) none) (cond (Nat.beq pc 167) (some (.inl (g_goto 12))) none)) (cond (Nat.ble pc 170) (cond (Nat.beq pc 170) (some (.inl (g_ald 0 171))) none) (cond (Nat.ble pc 171) (cond (Nat.beq pc 171) (some (.inl (g_ald 0 172))) none) (cond (Nat.beq pc 172) (some (.inl (g_gfr 4 0 175))) none))))))) (cond (Nat.ble pc 202) (cond (Nat.ble pc 188) (cond (Nat.ble pc 181) (cond (Nat.ble pc 177) (cond (Nat.ble pc 175) (cond (Nat.beq pc 175) (some (.inl (g_push 24 177))) none) (cond (Nat.beq pc 177) (some (.inl (g_pald 5 178))) none)) (cond (Nat.ble pc 178) (cond (Nat.beq pc 178) (some (.inr (.inl (84, 2, 181)))) none) (cond (Nat.beq pc 181) (some (.inl (g_ist 2 182))) none))) (cond (Nat.ble pc 183) (cond (Nat.ble pc 182) (cond (Nat.beq pc 182) (some (.inl (g_ald 0 183))) none) (cond (Nat.beq pc 183) (some (.inl (g_gfr 4 0 186))) none)) (cond (Nat.ble pc 186) (cond (Nat.beq pc 186) (some (.inl (g_ild 2 187))) none) (cond (Nat.ble pc 187) (cond (Nat.beq pc 187) (some (.inl (g_dup2 188))) none) (cond (Nat.beq pc 188) (some (.inl (g_pald 5 189))) none))))) (cond (Nat.ble pc 194) (cond (Nat.ble pc 190) (cond (Nat.ble pc 189) (cond (Nat.beq pc 189) (some (.inl (g_ald 0 190))) none) (cond (Nat.beq pc 190) (some (.inl (g_gfr 4 0 193))) none)) (cond (Nat.ble pc 193) (cond (Nat.beq pc 193) (some (.inl (g_ild 2 194))) none) (cond (Nat.beq pc 194) (some (.inl (g_pald 5 195))) none))) (cond (Nat.ble pc 196) (cond (Nat.ble pc 195) (cond (Nat.beq pc 195) (some (.inl (g_ald 0 196))) none) (cond (Nat.beq pc 196) (some (.inl (g_gfr 4 0 199))) none)) (cond (Nat.ble pc 199) (cond (Nat.beq pc 199) (some (.inl (g_push 22 201))) none) (cond (Nat.ble pc 201) (cond (Nat.beq pc 201) (some (.inl (g_pald 5 202))) none) (cond (Nat.beq pc 202) (some (.inl (g_iop (fun x y => x * y) 203))) none)))))) (cond (Nat.ble pc 216) (cond (Nat.ble pc 208) (cond (Nat.ble pc 206) (cond (Nat.ble pc 203) (cond (Nat.beq pc 203) (some (.inl (g_push 1000 206))) none) (cond (Nat.beq pc 206) (some (.inl (g_idiv (fun x y => x / y) 207))) none)) (cond (Nat.ble pc 207) (cond (Nat.beq pc 207) (some (.inl (g_iop (fun x y => x - y) 208))) none) (cond (Nat.beq pc 208) (some (.inl (g_past 5 209))) none))) (cond (Nat.ble pc 210) (cond (Nat.ble pc 209) (cond (Nat.beq pc 209) (some (.inl (g_ald 0 210))) none) (cond (Nat.beq pc 210) (some (.inl (g_gfr 4 0 213))) none)) (cond (Nat.ble pc 213) (cond (Nat.beq pc 213) (some (.inl (g_push 51 215))) none) (cond (Nat.ble pc 215) (cond (Nat.beq pc 215) (some (.inl (g_dup2 216))) none) (cond (Nat.beq pc 216) (some (.inl (g_pald 5 217))) none))))) (cond (Nat.ble pc 221) (cond (Nat.ble pc 218) (cond (Nat.ble pc 217) (cond (Nat.beq pc 217) (some (.inl (g_push 1 218))) none) (cond (Nat.beq pc 218) (some (.inl (g_iop (fun x y => x + y) 219))) none)) (cond (Nat.ble pc 219) (cond (Nat.beq pc 219) (some (.inl (g_past 5 220))) none) (cond (Nat.ble pc 220) (cond (Nat.beq pc 220) (some (.inl (g_ald 0 221))) none) (cond (Nat.beq pc 221) (some (.inl (g_gfr 4 0 224))) none)))) (cond (Nat.ble pc 226) (cond (Nat.ble pc 224) (cond (Nat.beq pc 224) (some (.inl (g_push 52 226))) none) (cond (Nat.beq pc 226) (some (.inl (g_ild 1 227))) none)) (cond (Nat.ble pc 227) (cond (Nat.beq pc 227) (some (.inl (g_past 5 228))) none) (cond (Nat.ble pc 228) (cond (Nat.beq pc 228) (some (.inl (g_ild 1 229))) none) (cond (Nat.beq pc 229) (some (.inr (.inr 1))) none))))))))
def kp_101 (pc : Nat) : Option KOp := cond (Nat.ble pc 27) (cond (Nat.ble pc 13) (cond (Nat.ble pc 5) (cond (Nat.ble pc 1) (cond (Nat.ble pc 0) (cond (Nat.beq pc 0) (some (.inl (g_ild 1 1))) none) (cond (Nat.beq pc 1) (some (.inl (g_push 1 2))) none)) (cond (Nat.ble pc 2) (cond (Nat.beq pc 2) (some (.inl (g_push 200 5))) none) (cond (Nat.beq pc 5) (some (.inr (.inl (66, 3, 8)))) none))) (cond (Nat.ble pc 11) (cond (Nat.ble pc 8) (cond (Nat.beq pc 8) (some (.inl (g_br1 (fun x => decide (¬ x = 0)) 13 11))) none) (cond (Nat.beq pc 11) (some (.inl (g_push (-1) 12))) none)) (cond (Nat.ble pc 12) (cond (Nat.beq pc 12) (some (.inr (.inr 1))) none) (cond (Nat.beq pc 13) (some (.inl (g_ald 0 14))) none)))) (cond (Nat.ble pc 20) (cond (Nat.ble pc 17) (cond (Nat.ble pc 14) (cond (Nat.beq pc 14) (some (.inl (g_gfr 4 0 17))) none) (cond (Nat.beq pc 17) (some (.inl (g_push 49 19))) none)) (cond (Nat.ble pc 19) (cond (Nat.beq pc 19) (some (.inl (g_pald 5 20))) none) (cond (Nat.beq pc 20) (some (.inl (g_br1 (fun x => decide (¬ x = 0)) 26 23))) none))) (cond (Nat.ble pc 25) (cond (Nat.ble pc 23) (cond (Nat.beq pc 23) (some (.inl (g_push (-2) 25))) none) (cond (Nat.beq pc 25) (some (.inr (.inr 1))) none)) (cond (Nat.ble pc 26) (cond (Nat.beq pc 26) (some (.inl (g_ald 0 27))) none) (cond (Nat.beq pc 27) (some (.inr (.inl (67, 1, 30)))) none))))) (cond (Nat.ble pc 39) (cond (Nat.ble pc 33) (cond (Nat.ble pc 31) (cond (Nat.ble pc 30) (cond (Nat.beq pc 30) (some (.inl (g_push 0 31))) none) (cond (Nat.beq pc 31) (some (.inl (g_ist 2 32))) none)) (cond (Nat.ble pc 32) (cond (Nat.beq pc 32) (some (.inl (g_push 0 33))) none) (cond (Nat.beq pc 33) (some (.inl (g_ist 3 34))) none))) (cond (Nat.ble pc 35) (cond (Nat.ble pc 34) (cond (Nat.beq pc 34) (some (.inl (g_ild 3 35))) none) (cond (Nat.beq pc 35) (some (.inl (g_ild 1 36))) none)) (cond (Nat.ble pc 36) (cond (Nat.beq pc 36) (some (.inl (g_br2 (fun x y => decide (y ≤ x)) 52 39))) none) (cond (Nat.beq pc 39) (some (.inl (g_ild 2 40))) none)))) (cond (Nat.ble pc 45) (cond (Nat.ble pc 41) (cond (Nat.ble pc 40) (cond (Nat.beq pc 40) (some (.inl (g_ald 0 41))) none) (cond (Nat.beq pc 41) (some (.inr (.inl (100, 1, 44)))) none)) (cond (Nat.ble pc 44) (cond (Nat.beq pc 44) (some (.inl (g_iop (fun x y => x + y) 45))) none) (cond (Nat.beq pc 45) (some (.inl (g_ist 2 46))) none))) (cond (Nat.ble pc 49) (cond (Nat.ble pc 46) (cond (Nat.beq pc 46) (some (.inl (g_iinc 3 1 49))) none) (cond (Nat.beq pc 49) (some (.inl (g_goto 34))) none)) (cond (Nat.ble pc 52) (cond (Nat.beq pc 52) (some (.inl (g_ild 2 53))) none) (cond (Nat.beq pc 53) (some (.inr (.inr 1))) none)))))
def kp_102 (pc : Nat) : Option KOp := cond (Nat.ble pc 40) (cond (Nat.ble pc 20) (cond (Nat.ble pc 9) (cond (Nat.ble pc 2) (cond (Nat.ble pc 0) (cond (Nat.beq pc 0) (some (.inl (g_ald 0 1))) none) (cond (Nat.ble pc 1) (cond (Nat.beq pc 1) (some (.inl (g_ild 1 2))) none) (cond (Nat.beq pc 2) (some (.inr (.inl (93, 2, 5)))) none))) (cond (Nat.ble pc 5) (cond (Nat.beq pc 5) (some (.inl (g_br1 (fun x => decide (¬ x = 0)) 10 8))) none) (cond (Nat.ble pc 8) (cond (Nat.beq pc 8) (some (.inl (g_push (-1) 9))) none) (cond (Nat.beq pc 9) (some (.inr (.inr 1))) none)))) (cond (Nat.ble pc 14) (cond (Nat.ble pc 10) (cond (Nat.beq pc 10) (some (.inl (g_ald 0 11))) none) (cond (Nat.ble pc 11) (cond (Nat.beq pc 11) (some (.inl (g_gfr 4 0 14))) none) (cond (Nat.beq pc 14) (some (.inl (g_push 49 16))) none))) (cond (Nat.ble pc 16) (cond (Nat.beq pc 16) (some (.inl (g_pald 5 17))) none) (cond (Nat.ble pc 17) (cond (Nat.beq pc 17) (some (.inl (g_br1 (fun x => decide (¬ x = 0)) 23 20))) none) (cond (Nat.beq pc 20) (some (.inl (g_push (-2) 22))) none))))) (cond (Nat.ble pc 29) (cond (Nat.ble pc 24) (cond (Nat.ble pc 22) (cond (Nat.beq pc 22) (some (.inr (.inr 1))) none) (cond (Nat.ble pc 23) (cond (Nat.beq pc 23) (some (.inl (g_ald 0 24))) none) (cond (Nat.beq pc 24) (some (.inr (.inl (67, 1, 27)))) none))) (cond (Nat.ble pc 27) (cond (Nat.beq pc 27) (some (.inl (g_ald 0 28))) none) (cond (Nat.ble pc 28) (cond (Nat.beq pc 28) (some (.inl (g_ald 0 29))) none) (cond (Nat.beq pc 29) (some (.inl (g_ild 1 30))) none)))) (cond (Nat.ble pc 36) (cond (Nat.ble pc 30) (cond (Nat.beq pc 30) (some (.inr (.inl (84, 2, 33)))) none) (cond (Nat.ble pc 33) (cond (Nat.beq pc 33) (some (.inr (.inl (69, 2, 36)))) none) (cond (Nat.beq pc 36) (some (.inl (g_ist 2 37))) none))) (cond (Nat.ble pc 38) (cond (Nat.ble pc 37) (cond (Nat.beq pc 37) (some (.inl (g_push 0 38))) none) (cond (Nat.beq pc 38) (some (.inl (g_ist 3 39))) none)) (cond (Nat.ble pc 39) (cond (Nat.beq pc 39) (some (.inl (g_ild 3 40))) none) (cond (Nat.beq pc 40) (some (.inl (g_push 10 42))) none)))))) (cond (Nat.ble pc 64) (cond (Nat.ble pc 51) (cond (Nat.ble pc 46) (cond (Nat.ble pc 42) (cond (Nat.beq pc 42) (some (.inl (g_br2 (fun x y => decide (y ≤ x)) 64 45))) none) (cond (Nat.ble pc 45) (cond (Nat.beq pc 45) (some (.inl (g_ald 0 46))) none) (cond (Nat.beq pc 46) (some (.inl (g_gfr 4 0 49))) none))) (cond (Nat.ble pc 49) (cond (Nat.beq pc 49) (some (.inl (g_ald 0 50))) none) (cond (Nat.ble pc 50) (cond (Nat.beq pc 50) (some (.inl (g_ild 1 51))) none) (cond (Nat.beq pc 51) (some (.inr (.inl (84, 2, 54)))) none)))) (cond (Nat.ble pc 56) (cond (Nat.ble pc 54) (cond (Nat.beq pc 54) (some (.inl (g_ild 3 55))) none) (cond (Nat.ble pc 55) (cond (Nat.beq pc 55) (some (.inl (g_iop (fun x y => x + y) 56))) none) (cond (Nat.beq pc 56) (some (.inl (g_push 0 57))) none))) (cond (Nat.ble pc 58) (cond (Nat.ble pc 57) (cond (Nat.beq pc 57) (some (.inl (g_past 5 58))) none) (cond (Nat.beq pc 58) (some (.inl (g_iinc 3 1 61))) none)) (cond (Nat.ble pc 61) (cond (Nat.beq pc 61) (some (.inl (g_goto 39))) none) (cond (Nat.beq pc 64) (some (.inl (g_ald 0 65))) none))))) (cond (Nat.ble pc 75) (cond (Nat.ble pc 69) (cond (Nat.ble pc 65) (cond (Nat.beq pc 65) (some (.inl (g_gfr 4 0 68))) none) (cond (Nat.ble pc 68) (cond (Nat.beq pc 68) (some (.inl (g_ald 0 69))) none) (cond (Nat.beq pc 69) (some (.inl (g_ild 1 70))) none))) (cond (Nat.ble pc 70) (cond (Nat.beq pc 70) (some (.inr (.inl (84, 2, 73)))) none) (cond (Nat.ble pc 73) (cond (Nat.beq pc 73) (some (.inl (g_push 11 75))) none) (cond (Nat.beq pc 75) (some (.inl (g_iop (fun x y => x + y) 76))) none)))) (cond (Nat.ble pc 78) (cond (Nat.ble pc 76) (cond (Nat.beq pc 76) (some (.inl (g_dup2 77))) none) (cond (Nat.ble pc 77) (cond (Nat.beq pc 77) (some (.inl (g_pald 5 78))) none) (cond (Nat.beq pc 78) (some (.inl (g_ild 2 79))) none))) (cond (Nat.ble pc 80) (cond (Nat.ble pc 79) (cond (Nat.beq pc 79) (some (.inl (g_iop (fun x y => x + y) 80))) none) (cond (Nat.beq pc 80) (some (.inl (g_past 5 81))) none)) (cond (Nat.ble pc 81) (cond (Nat.beq pc 81) (some (.inl (g_ild 2 82))) none) (cond (Nat.beq pc 82) (some (.inr (.inr 1))) none))))))
def kp_103 (pc : Nat) : Option KOp := cond (Nat.ble pc 48) (cond (Nat.ble pc 23) (cond (Nat.ble pc 10) (cond (Nat.ble pc 2) (cond (Nat.ble pc 0) (cond (Nat.beq pc 0) (some (.inl (g_ald 0 1))) none) (cond (Nat.ble pc 1) (cond (Nat.beq pc 1) (some (.inl (g_ild 1 2))) none) (cond (Nat.beq pc 2) (some (.inr (.inl (94, 2, 5)))) none))) (cond (Nat.ble pc 8) (cond (Nat.ble pc 5) (cond (Nat.beq pc 5) (some (.inl (g_br1 (fun x => decide (x = 0)) 17 8))) none) (cond (Nat.beq pc 8) (some (.inl (g_ild 2 9))) none)) (cond (Nat.ble pc 9) (cond (Nat.beq pc 9) (some (.inl (g_push 0 10))) none) (cond (Nat.beq pc 10) (some (.inl (g_push 1 11))) none)))) (cond (Nat.ble pc 17) (cond (Nat.ble pc 11) (cond (Nat.beq pc 11) (some (.inr (.inl (66, 3, 14)))) none) (cond (Nat.ble pc 14) (cond (Nat.beq pc 14) (some (.inl (g_br1 (fun x => decide (¬ x = 0)) 19 17))) none) (cond (Nat.beq pc 17) (some (.inl (g_push (-1) 18))) none))) (cond (Nat.ble pc 19) (cond (Nat.ble pc 18) (cond (Nat.beq pc 18) (some (.inr (.inr 1))) none) (cond (Nat.beq pc 19) (some (.inl (g_ald 0 20))) none)) (cond (Nat.ble pc 20) (cond (Nat.beq pc 20) (some (.inl (g_gfr 4 0 23))) none) (cond (Nat.beq pc 23) (some (.inl (g_push 49 25))) none))))) (cond (Nat.ble pc 36) (cond (Nat.ble pc 29) (cond (Nat.ble pc 25) (cond (Nat.beq pc 25) (some (.inl (g_pald 5 26))) none) (cond (Nat.ble pc 26) (cond (Nat.beq pc 26) (some (.inl (g_br1 (fun x => decide (¬ x = 0)) 32 29))) none) (cond (Nat.beq pc 29) (some (.inl (g_push (-2) 31))) none))) (cond (Nat.ble pc 32) (cond (Nat.ble pc 31) (cond (Nat.beq pc 31) (some (.inr (.inr 1))) none) (cond (Nat.beq pc 32) (some (.inl (g_ald 0 33))) none)) (cond (Nat.ble pc 33) (cond (Nat.beq pc 33) (some (.inr (.inl (67, 1, 36)))) none) (cond (Nat.beq pc 36) (some (.inl (g_ald 0 37))) none)))) (cond (Nat.ble pc 41) (cond (Nat.ble pc 37) (cond (Nat.beq pc 37) (some (.inl (g_gfr 4 0 40))) none) (cond (Nat.ble pc 40) (cond (Nat.beq pc 40) (some (.inl (g_ald 0 41))) none) (cond (Nat.beq pc 41) (some (.inl (g_ild 1 42))) none))) (cond (Nat.ble pc 45) (cond (Nat.ble pc 42) (cond (Nat.beq pc 42) (some (.inr (.inl (84, 2, 45)))) none) (cond (Nat.beq pc 45) (some (.inl (g_push 10 47))) none)) (cond (Nat.ble pc 47) (cond (Nat.beq pc 47) (some (.inl (g_iop (fun x y => x + y) 48))) none) (cond (Nat.beq pc 48) (some (.inl (g_pald 5 49))) none)))))) (cond (Nat.ble pc 69) (cond (Nat.ble pc 59) (cond (Nat.ble pc 51) (cond (Nat.ble pc 49) (cond (Nat.beq pc 49) (some (.inl (g_ist 3 50))) none) (cond (Nat.ble pc 50) (cond (Nat.beq pc 50) (some (.inl (g_ald 0 51))) none) (cond (Nat.beq pc 51) (some (.inl (g_gfr 4 0 54))) none))) (cond (Nat.ble pc 55) (cond (Nat.ble pc 54) (cond (Nat.beq pc 54) (some (.inl (g_ald 0 55))) none) (cond (Nat.beq pc 55) (some (.inl (g_ild 1 56))) none)) (cond (Nat.ble pc 56) (cond (Nat.beq pc 56) (some (.inr (.inl (84, 2, 59)))) none) (cond (Nat.beq pc 59) (some (.inl (g_push 10 61))) none)))) (cond (Nat.ble pc 63) (cond (Nat.ble pc 61) (cond (Nat.beq pc 61) (some (.inl (g_iop (fun x y => x + y) 62))) none) (cond (Nat.ble pc 62) (cond (Nat.beq pc 62) (some (.inl (g_push 0 63))) none) (cond (Nat.beq pc 63) (some (.inl (g_past 5 64))) none))) (cond (Nat.ble pc 65) (cond (Nat.ble pc 64) (cond (Nat.beq pc 64) (some (.inl (g_ald 0 65))) none) (cond (Nat.beq pc 65) (some (.inl (g_gfr 4 0 68))) none)) (cond (Nat.ble pc 68) (cond (Nat.beq pc 68) (some (.inl (g_ald 0 69))) none) (cond (Nat.beq pc 69) (some (.inl (g_ild 1 70))) none))))) (cond (Nat.ble pc 79) (cond (Nat.ble pc 75) (cond (Nat.ble pc 70) (cond (Nat.beq pc 70) (some (.inr (.inl (84, 2, 73)))) none) (cond (Nat.ble pc 73) (cond (Nat.beq pc 73) (some (.inl (g_push 11 75))) none) (cond (Nat.beq pc 75) (some (.inl (g_iop (fun x y => x + y) 76))) none))) (cond (Nat.ble pc 77) (cond (Nat.ble pc 76) (cond (Nat.beq pc 76) (some (.inl (g_dup2 77))) none) (cond (Nat.beq pc 77) (some (.inl (g_pald 5 78))) none)) (cond (Nat.ble pc 78) (cond (Nat.beq pc 78) (some (.inl (g_ild 2 79))) none) (cond (Nat.beq pc 79) (some (.inl (g_push 1 80))) none)))) (cond (Nat.ble pc 87) (cond (Nat.ble pc 83) (cond (Nat.ble pc 80) (cond (Nat.beq pc 80) (some (.inl (g_br2 (fun x y => decide (¬ x = y)) 87 83))) none) (cond (Nat.beq pc 83) (some (.inl (g_ild 3 84))) none)) (cond (Nat.ble pc 84) (cond (Nat.beq pc 84) (some (.inl (g_goto 88))) none) (cond (Nat.beq pc 87) (some (.inl (g_push 0 88))) none))) (cond (Nat.ble pc 89) (cond (Nat.ble pc 88) (cond (Nat.beq pc 88) (some (.inl (g_iop (fun x y => x + y) 89))) none) (cond (Nat.beq pc 89) (some (.inl (g_past 5 90))) none)) (cond (Nat.ble pc 90) (cond (Nat.beq pc 90) (some (.inl (g_ild 3 91))) none) (cond (Nat.beq pc 91) (some (.inr (.inr 1))) none))))))
def kp_104 (pc : Nat) : Option KOp := cond (Nat.ble pc 32) (cond (Nat.ble pc 12) (cond (Nat.ble pc 7) (cond (Nat.ble pc 1) (cond (Nat.ble pc 0) (cond (Nat.beq pc 0) (some (.inl (g_ald 0 1))) none) (cond (Nat.beq pc 1) (some (.inl (g_gfr 4 0 4))) none)) (cond (Nat.ble pc 4) (cond (Nat.beq pc 4) (some (.inl (g_push 50 6))) none) (cond (Nat.ble pc 6) (cond (Nat.beq pc 6) (some (.inl (g_pald 5 7))) none) (cond (Nat.beq pc 7) (some (.inl (g_ist 1 8))) none)))) (cond (Nat.ble pc 9) (cond (Nat.ble pc 8) (cond (Nat.beq pc 8) (some (.inl (g_push 0 9))) none) (cond (Nat.beq pc 9) (some (.inl (g_ist 2 10))) none)) (cond (Nat.ble pc 10) (cond (Nat.beq pc 10) (some (.inl (g_ild 2 11))) none) (cond (Nat.ble pc 11) (cond (Nat.beq pc 11) (some (.inl (g_ald 0 12))) none) (cond (Nat.beq pc 12) (some (.inl (g_gfr 4 0 15))) none))))) (cond (Nat.ble pc 22) (cond (Nat.ble pc 17) (cond (Nat.ble pc 15) (cond (Nat.beq pc 15) (some (.inl (g_push 24 17))) none) (cond (Nat.beq pc 17) (some (.inl (g_pald 5 18))) none)) (cond (Nat.ble pc 18) (cond (Nat.beq pc 18) (some (.inl (g_br2 (fun x y => decide (y < x)) 67 21))) none) (cond (Nat.ble pc 21) (cond (Nat.beq pc 21) (some (.inl (g_ild 1 22))) none) (cond (Nat.beq pc 22) (some (.inl (g_ald 0 23))) none)))) (cond (Nat.ble pc 25) (cond (Nat.ble pc 23) (cond (Nat.beq pc 23) (some (.inl (g_ald 0 24))) none) (cond (Nat.ble pc 24) (cond (Nat.beq pc 24) (some (.inl (g_ild 2 25))) none) (cond (Nat.beq pc 25) (some (.inr (.inl (84, 2, 28)))) none))) (cond (Nat.ble pc 28) (cond (Nat.beq pc 28) (some (.inr (.inl (69, 2, 31)))) none) (cond (Nat.ble pc 31) (cond (Nat.beq pc 31) (some (.inl (g_ald 0 32))) none) (cond (Nat.beq pc 32) (some (.inl (g_gfr 4 0 35))) none)))))) (cond (Nat.ble pc 50) (cond (Nat.ble pc 42) (cond (Nat.ble pc 36) (cond (Nat.ble pc 35) (cond (Nat.beq pc 35) (some (.inl (g_ald 0 36))) none) (cond (Nat.beq pc 36) (some (.inl (g_ild 2 37))) none)) (cond (Nat.ble pc 37) (cond (Nat.beq pc 37) (some (.inr (.inl (84, 2, 40)))) none) (cond (Nat.ble pc 40) (cond (Nat.beq pc 40) (some (.inl (g_push 10 42))) none) (cond (Nat.beq pc 42) (some (.inl (g_iop (fun x y => x + y) 43))) none)))) (cond (Nat.ble pc 45) (cond (Nat.ble pc 43) (cond (Nat.beq pc 43) (some (.inl (g_pald 5 44))) none) (cond (Nat.ble pc 44) (cond (Nat.beq pc 44) (some (.inl (g_iop (fun x y => x + y) 45))) none) (cond (Nat.beq pc 45) (some (.inl (g_ald 0 46))) none))) (cond (Nat.ble pc 46) (cond (Nat.beq pc 46) (some (.inl (g_gfr 4 0 49))) none) (cond (Nat.ble pc 49) (cond (Nat.beq pc 49) (some (.inl (g_ald 0 50))) none) (cond (Nat.beq pc 50) (some (.inl (g_ild 2 51))) none))))) (cond (Nat.ble pc 58) (cond (Nat.ble pc 54) (cond (Nat.ble pc 51) (cond (Nat.beq pc 51) (some (.inr (.inl (84, 2, 54)))) none) (cond (Nat.beq pc 54) (some (.inl (g_push 11 56))) none)) (cond (Nat.ble pc 56) (cond (Nat.beq pc 56) (some (.inl (g_iop (fun x y => x + y) 57))) none) (cond (Nat.ble pc 57) (cond (Nat.beq pc 57) (some (.inl (g_pald 5 58))) none) (cond (Nat.beq pc 58) (some (.inl (g_iop (fun x y => x + y) 59))) none)))) (cond (Nat.ble pc 61) (cond (Nat.ble pc 59) (cond (Nat.beq pc 59) (some (.inl (g_iop (fun x y => x - y) 60))) none) (cond (Nat.ble pc 60) (cond (Nat.beq pc 60) (some (.inl (g_ist 1 61))) none) (cond (Nat.beq pc 61) (some (.inl (g_iinc 2 1 64))) none))) (cond (Nat.ble pc 64) (cond (Nat.beq pc 64) (some (.inl (g_goto 10))) none) (cond (Nat.ble pc 67) (cond (Nat.beq pc 67) (some (.inl (g_ild 1 68))) none) (cond (Nat.beq pc 68) (some (.inr (.inr 1))) none))))))
def kp_105 (pc : Nat) : Option KOp := cond (Nat.ble pc 7) (cond (Nat.ble pc 1) (cond (Nat.ble pc 0) (cond (Nat.beq pc 0) (some (.inl (g_ald 0 1))) none) (cond (Nat.beq pc 1) (some (.inl (g_gfr 4 0 4))) none)) (cond (Nat.ble pc 4) (cond (Nat.beq pc 4) (some (.inl (g_push 49 6))) none) (cond (Nat.ble pc 6) (cond (Nat.beq pc 6) (some (.inl (g_pald 5 7))) none) (cond (Nat.beq pc 7) (some (.inl (g_br1 (fun x => decide (¬ x = 0)) 15 10))) none)))) (cond (Nat.ble pc 12) (cond (Nat.ble pc 10) (cond (Nat.beq pc 10) (some (.inl (g_push (-2) 12))) none) (cond (Nat.beq pc 12) (some (.inl (g_goto 19))) none)) (cond (Nat.ble pc 15) (cond (Nat.beq pc 15) (some (.inl (g_ald 0 16))) none) (cond (Nat.ble pc 16) (cond (Nat.beq pc 16) (some (.inr (.inl (104, 1, 19)))) none) (cond (Nat.beq pc 19) (some (.inr (.inr 1))) none))))
def kp_106 (pc : Nat) : Option KOp := cond (Nat.ble pc 25) (cond (Nat.ble pc 12) (cond (Nat.ble pc 4) (cond (Nat.ble pc 0) (cond (Nat.beq pc 0) (some (.inl (g_ald 0 1))) none) (cond (Nat.ble pc 1) (cond (Nat.beq pc 1) (some (.inl (g_gfr 4 0 4))) none) (cond (Nat.beq pc 4) (some (.inl (g_push 49 6))) none))) (cond (Nat.ble pc 7) (cond (Nat.ble pc 6) (cond (Nat.beq pc 6) (some (.inl (g_pald 5 7))) none) (cond (Nat.beq pc 7) (some (.inl (g_br1 (fun x => decide (¬ x = 0)) 15 10))) none)) (cond (Nat.ble pc 10) (cond (Nat.beq pc 10) (some (.inl (g_push (-2) 12))) none) (cond (Nat.beq pc 12) (some (.inl (g_goto 50))) none)))) (cond (Nat.ble pc 19) (cond (Nat.ble pc 15) (cond (Nat.beq pc 15) (some (.inl (g_ald 0 16))) none) (cond (Nat.ble pc 16) (cond (Nat.beq pc 16) (some (.inr (.inl (104, 1, 19)))) none) (cond (Nat.beq pc 19) (some (.inl (g_i2l 20))) none))) (cond (Nat.ble pc 23) (cond (Nat.ble pc 20) (cond (Nat.beq pc 20) (some (.inl (g_pushl 1000 23))) none) (cond (Nat.beq pc 23) (some (.inl (g_lop (fun x y => x * y) 24))) none)) (cond (Nat.ble pc 24) (cond (Nat.beq pc 24) (some (.inl (g_ald 0 25))) none) (cond (Nat.beq pc 25) (some (.inl (g_gfr 4 0 28))) none))))) (cond (Nat.ble pc 38) (cond (Nat.ble pc 31) (cond (Nat.ble pc 28) (cond (Nat.beq pc 28) (some (.inl (g_push 23 30))) none) (cond (Nat.ble pc 30) (cond (Nat.beq pc 30) (some (.inl (g_pald 5 31))) none) (cond (Nat.beq pc 31) (some (.inl (g_i2l 32))) none))) (cond (Nat.ble pc 33) (cond (Nat.ble pc 32) (cond (Nat.beq pc 32) (some (.inl (g_ald 0 33))) none) (cond (Nat.beq pc 33) (some (.inl (g_gfr 4 0 36))) none)) (cond (Nat.ble pc 36) (cond (Nat.beq pc 36) (some (.inl (g_push 50 38))) none) (cond (Nat.beq pc 38) (some (.inl (g_pald 5 39))) none)))) (cond (Nat.ble pc 42) (cond (Nat.ble pc 40) (cond (Nat.ble pc 39) (cond (Nat.beq pc 39) (some (.inl (g_i2l 40))) none) (cond (Nat.beq pc 40) (some (.inl (g_lop (fun x y => x * y) 41))) none)) (cond (Nat.ble pc 41) (cond (Nat.beq pc 41) (some (.inl (g_lcmp 42))) none) (cond (Nat.beq pc 42) (some (.inl (g_br1 (fun x => decide (0 < x)) 49 45))) none))) (cond (Nat.ble pc 46) (cond (Nat.ble pc 45) (cond (Nat.beq pc 45) (some (.inl (g_push 1 46))) none) (cond (Nat.beq pc 46) (some (.inl (g_goto 50))) none)) (cond (Nat.ble pc 49) (cond (Nat.beq pc 49) (some (.inl (g_push 0 50))) none) (cond (Nat.beq pc 50) (some (.inr (.inr 1))) none)))))
def kp_107 (pc : Nat) : Option KOp := cond (Nat.ble pc 16) (cond (Nat.ble pc 5) (cond (Nat.ble pc 2) (cond (Nat.ble pc 0) (cond (Nat.beq pc 0) (some (.inl (g_push 0 1))) none) (cond (Nat.ble pc 1) (cond (Nat.beq pc 1) (some (.inl (g_ist 2 2))) none) (cond (Nat.beq pc 2) (some (.inl (g_ild 1 3))) none))) (cond (Nat.ble pc 3) (cond (Nat.beq pc 3) (some (.inl (g_ist 3 4))) none) (cond (Nat.ble pc 4) (cond (Nat.beq pc 4) (some (.inl (g_ild 3 5))) none) (cond (Nat.beq pc 5) (some (.inl (g_ald 0 6))) none)))) (cond (Nat.ble pc 11) (cond (Nat.ble pc 6) (cond (Nat.beq pc 6) (some (.inl (g_gfr 4 0 9))) none) (cond (Nat.ble pc 9) (cond (Nat.beq pc 9) (some (.inl (g_push 24 11))) none) (cond (Nat.beq pc 11) (some (.inl (g_pald 5 12))) none))) (cond (Nat.ble pc 12) (cond (Nat.beq pc 12) (some (.inl (g_br2 (fun x y => decide (y < x)) 37 15))) none) (cond (Nat.ble pc 15) (cond (Nat.beq pc 15) (some (.inl (g_ild 2 16))) none) (cond (Nat.beq pc 16) (some (.inl (g_ald 0 17))) none))))) (cond (Nat.ble pc 27) (cond (Nat.ble pc 21) (cond (Nat.ble pc 17) (cond (Nat.beq pc 17) (some (.inl (g_gfr 4 0 20))) none) (cond (Nat.ble pc 20) (cond (Nat.beq pc 20) (some (.inl (g_ald 0 21))) none) (cond (Nat.beq pc 21) (some (.inl (g_ild 3 22))) none))) (cond (Nat.ble pc 22) (cond (Nat.beq pc 22) (some (.inr (.inl (84, 2, 25)))) none) (cond (Nat.ble pc 25) (cond (Nat.beq pc 25) (some (.inl (g_push 11 27))) none) (cond (Nat.beq pc 27) (some (.inl (g_iop (fun x y => x + y) 28))) none)))) (cond (Nat.ble pc 30) (cond (Nat.ble pc 28) (cond (Nat.beq pc 28) (some (.inl (g_pald 5 29))) none) (cond (Nat.ble pc 29) (cond (Nat.beq pc 29) (some (.inl (g_iop (fun x y => x + y) 30))) none) (cond (Nat.beq pc 30) (some (.inl (g_ist 2 31))) none))) (cond (Nat.ble pc 34) (cond (Nat.ble pc 31) (cond (Nat.beq pc 31) (some (.inl (g_iinc 3 1 34))) none) (cond (Nat.beq pc 34) (some (.inl (g_goto 4))) none)) (cond (Nat.ble pc 37) (cond (Nat.beq pc 37) (some (.inl (g_ild 2 38))) none) (cond (Nat.beq pc 38) (some (.inr (.inr 1))) none)))))
def kp_108 (pc : Nat) : Option KOp := cond (Nat.ble pc 11) (cond (Nat.ble pc 4) (cond (Nat.ble pc 0) (cond (Nat.beq pc 0) (some (.inl (g_ald 0 1))) none) (cond (Nat.ble pc 1) (cond (Nat.beq pc 1) (some (.inl (g_gfr 4 0 4))) none) (cond (Nat.beq pc 4) (some (.inl (g_push 49 6))) none))) (cond (Nat.ble pc 7) (cond (Nat.ble pc 6) (cond (Nat.beq pc 6) (some (.inl (g_pald 5 7))) none) (cond (Nat.beq pc 7) (some (.inl (g_push 1 8))) none)) (cond (Nat.ble pc 8) (cond (Nat.beq pc 8) (some (.inl (g_br2 (fun x y => decide (¬ x = y)) 23 11))) none) (cond (Nat.beq pc 11) (some (.inl (g_ald 0 12))) none)))) (cond (Nat.ble pc 16) (cond (Nat.ble pc 12) (cond (Nat.beq pc 12) (some (.inl (g_push 0 13))) none) (cond (Nat.ble pc 13) (cond (Nat.beq pc 13) (some (.inr (.inl (107, 2, 16)))) none) (cond (Nat.beq pc 16) (some (.inl (g_br1 (fun x => decide (x ≤ 0)) 23 19))) none))) (cond (Nat.ble pc 20) (cond (Nat.ble pc 19) (cond (Nat.beq pc 19) (some (.inl (g_push 1 20))) none) (cond (Nat.beq pc 20) (some (.inl (g_goto 24))) none)) (cond (Nat.ble pc 23) (cond (Nat.beq pc 23) (some (.inl (g_push 0 24))) none) (cond (Nat.beq pc 24) (some (.inr (.inr 2))) none))))
def kp_109 (pc : Nat) : Option KOp := cond (Nat.ble pc 8) (cond (Nat.ble pc 2) (cond (Nat.ble pc 0) (cond (Nat.beq pc 0) (some (.inl (g_ald 0 1))) none) (cond (Nat.ble pc 1) (cond (Nat.beq pc 1) (some (.inl (g_ild 1 2))) none) (cond (Nat.beq pc 2) (some (.inl (g_push 1 3))) none))) (cond (Nat.ble pc 4) (cond (Nat.ble pc 3) (cond (Nat.beq pc 3) (some (.inl (g_iop (fun x y => x + y) 4))) none) (cond (Nat.beq pc 4) (some (.inr (.inl (107, 2, 7)))) none)) (cond (Nat.ble pc 7) (cond (Nat.beq pc 7) (some (.inl (g_i2l 8))) none) (cond (Nat.beq pc 8) (some (.inl (g_pushl 1000 11))) none)))) (cond (Nat.ble pc 14) (cond (Nat.ble pc 12) (cond (Nat.ble pc 11) (cond (Nat.beq pc 11) (some (.inl (g_lop (fun x y => x * y) 12))) none) (cond (Nat.beq pc 12) (some (.inl (g_ald 0 13))) none)) (cond (Nat.ble pc 13) (cond (Nat.beq pc 13) (some (.inl (g_push 0 14))) none) (cond (Nat.beq pc 14) (some (.inr (.inl (107, 2, 17)))) none))) (cond (Nat.ble pc 18) (cond (Nat.ble pc 17) (cond (Nat.beq pc 17) (some (.inl (g_i2l 18))) none) (cond (Nat.beq pc 18) (some (.inl (g_ldiv 19))) none)) (cond (Nat.ble pc 19) (cond (Nat.beq pc 19) (some (.inl (g_l2i 20))) none) (cond (Nat.beq pc 20) (some (.inr (.inr 1))) none))))
def kp_110 (pc : Nat) : Option KOp := cond (Nat.ble pc 12) (cond (Nat.ble pc 2) (cond (Nat.ble pc 0) (cond (Nat.beq pc 0) (some (.inl (g_ald 0 1))) none) (cond (Nat.ble pc 1) (cond (Nat.beq pc 1) (some (.inl (g_ild 1 2))) none) (cond (Nat.beq pc 2) (some (.inr (.inl (94, 2, 5)))) none))) (cond (Nat.ble pc 8) (cond (Nat.ble pc 5) (cond (Nat.beq pc 5) (some (.inl (g_br1 (fun x => decide (¬ x = 0)) 12 8))) none) (cond (Nat.beq pc 8) (some (.inl (g_push (-1) 9))) none)) (cond (Nat.ble pc 9) (cond (Nat.beq pc 9) (some (.inl (g_goto 29))) none) (cond (Nat.beq pc 12) (some (.inl (g_ald 0 13))) none)))) (cond (Nat.ble pc 20) (cond (Nat.ble pc 16) (cond (Nat.ble pc 13) (cond (Nat.beq pc 13) (some (.inr (.inl (108, 1, 16)))) none) (cond (Nat.beq pc 16) (some (.inl (g_br1 (fun x => decide (x = 0)) 27 19))) none)) (cond (Nat.ble pc 19) (cond (Nat.beq pc 19) (some (.inl (g_ald 0 20))) none) (cond (Nat.beq pc 20) (some (.inl (g_ild 1 21))) none))) (cond (Nat.ble pc 24) (cond (Nat.ble pc 21) (cond (Nat.beq pc 21) (some (.inr (.inl (109, 2, 24)))) none) (cond (Nat.beq pc 24) (some (.inl (g_goto 29))) none)) (cond (Nat.ble pc 27) (cond (Nat.beq pc 27) (some (.inl (g_push (-2) 29))) none) (cond (Nat.beq pc 29) (some (.inr (.inr 1))) none))))
def kp_111 (pc : Nat) : Option KOp := cond (Nat.ble pc 39) (cond (Nat.ble pc 19) (cond (Nat.ble pc 10) (cond (Nat.ble pc 4) (cond (Nat.ble pc 0) (cond (Nat.beq pc 0) (some (.inl (g_ald 0 1))) none) (cond (Nat.ble pc 1) (cond (Nat.beq pc 1) (some (.inr (.inl (108, 1, 4)))) none) (cond (Nat.beq pc 4) (some (.inl (g_br1 (fun x => decide (¬ x = 0)) 10 7))) none))) (cond (Nat.ble pc 7) (cond (Nat.beq pc 7) (some (.inl (g_push (-2) 9))) none) (cond (Nat.ble pc 9) (cond (Nat.beq pc 9) (some (.inr (.inr 1))) none) (cond (Nat.beq pc 10) (some (.inl (g_push 0 11))) none)))) (cond (Nat.ble pc 13) (cond (Nat.ble pc 11) (cond (Nat.beq pc 11) (some (.inl (g_ist 1 12))) none) (cond (Nat.ble pc 12) (cond (Nat.beq pc 12) (some (.inl (g_push 0 13))) none) (cond (Nat.beq pc 13) (some (.inl (g_ist 2 14))) none))) (cond (Nat.ble pc 15) (cond (Nat.ble pc 14) (cond (Nat.beq pc 14) (some (.inl (g_ild 2 15))) none) (cond (Nat.beq pc 15) (some (.inl (g_ald 0 16))) none)) (cond (Nat.ble pc 16) (cond (Nat.beq pc 16) (some (.inl (g_gfr 4 0 19))) none) (cond (Nat.beq pc 19) (some (.inl (g_push 24 21))) none))))) (cond (Nat.ble pc 29) (cond (Nat.ble pc 25) (cond (Nat.ble pc 21) (cond (Nat.beq pc 21) (some (.inl (g_pald 5 22))) none) (cond (Nat.ble pc 22) (cond (Nat.beq pc 22) (some (.inl (g_br2 (fun x y => decide (y ≤ x)) 81 25))) none) (cond (Nat.beq pc 25) (some (.inl (g_push 31 27))) none))) (cond (Nat.ble pc 27) (cond (Nat.beq pc 27) (some (.inl (g_push 2 28))) none) (cond (Nat.ble pc 28) (cond (Nat.beq pc 28) (some (.inl (g_ald 0 29))) none) (cond (Nat.beq pc 29) (some (.inl (g_gfr 4 0 32))) none)))) (cond (Nat.ble pc 35) (cond (Nat.ble pc 32) (cond (Nat.beq pc 32) (some (.inl (g_push 25 34))) none) (cond (Nat.ble pc 34) (cond (Nat.beq pc 34) (some (.inl (g_ild 2 35))) none) (cond (Nat.beq pc 35) (some (.inl (g_iop (fun x y => x + y) 36))) none))) (cond (Nat.ble pc 37) (cond (Nat.ble pc 36) (cond (Nat.beq pc 36) (some (.inl (g_pald 5 37))) none) (cond (Nat.beq pc 37) (some (.inl (g_iop (fun x y => x * y) 38))) none)) (cond (Nat.ble pc 38) (cond (Nat.beq pc 38) (some (.inl (g_iop (fun x y => x + y) 39))) none) (cond (Nat.beq pc 39) (some (.inl (g_push 2 40))) none)))))) (cond (Nat.ble pc 58) (cond (Nat.ble pc 45) (cond (Nat.ble pc 42) (cond (Nat.ble pc 40) (cond (Nat.beq pc 40) (some (.inl (g_iop (fun x y => x - y) 41))) none) (cond (Nat.ble pc 41) (cond (Nat.beq pc 41) (some (.inl (g_ist 3 42))) none) (cond (Nat.beq pc 42) (some (.inl (g_ild 1 43))) none))) (cond (Nat.ble pc 43) (cond (Nat.beq pc 43) (some (.inl (g_ald 0 44))) none) (cond (Nat.ble pc 44) (cond (Nat.beq pc 44) (some (.inl (g_ild 2 45))) none) (cond (Nat.beq pc 45) (some (.inr (.inl (109, 2, 48)))) none)))) (cond (Nat.ble pc 52) (cond (Nat.ble pc 48) (cond (Nat.beq pc 48) (some (.inl (g_ald 0 49))) none) (cond (Nat.ble pc 49) (cond (Nat.beq pc 49) (some (.inl (g_gfr 4 0 52))) none) (cond (Nat.beq pc 52) (some (.inl (g_ild 3 53))) none))) (cond (Nat.ble pc 54) (cond (Nat.ble pc 53) (cond (Nat.beq pc 53) (some (.inl (g_pald 5 54))) none) (cond (Nat.beq pc 54) (some (.inl (g_ald 0 55))) none)) (cond (Nat.ble pc 55) (cond (Nat.beq pc 55) (some (.inl (g_gfr 4 0 58))) none) (cond (Nat.beq pc 58) (some (.inl (g_ild 3 59))) none))))) (cond (Nat.ble pc 69) (cond (Nat.ble pc 61) (cond (Nat.ble pc 59) (cond (Nat.beq pc 59) (some (.inl (g_push 1 60))) none) (cond (Nat.ble pc 60) (cond (Nat.beq pc 60) (some (.inl (g_iop (fun x y => x + y) 61))) none) (cond (Nat.beq pc 61) (some (.inl (g_pald 5 62))) none))) (cond (Nat.ble pc 65) (cond (Nat.ble pc 62) (cond (Nat.beq pc 62) (some (.inr (.inl (66, 3, 65)))) none) (cond (Nat.beq pc 65) (some (.inl (g_br1 (fun x => decide (x = 0)) 72 68))) none)) (cond (Nat.ble pc 68) (cond (Nat.beq pc 68) (some (.inl (g_push 0 69))) none) (cond (Nat.beq pc 69) (some (.inl (g_goto 73))) none)))) (cond (Nat.ble pc 74) (cond (Nat.ble pc 72) (cond (Nat.beq pc 72) (some (.inl (g_push 1 73))) none) (cond (Nat.ble pc 73) (cond (Nat.beq pc 73) (some (.inl (g_iop (fun x y => x + y) 74))) none) (cond (Nat.beq pc 74) (some (.inl (g_ist 1 75))) none))) (cond (Nat.ble pc 78) (cond (Nat.ble pc 75) (cond (Nat.beq pc 75) (some (.inl (g_iinc 2 1 78))) none) (cond (Nat.beq pc 78) (some (.inl (g_goto 14))) none)) (cond (Nat.ble pc 81) (cond (Nat.beq pc 81) (some (.inl (g_ild 1 82))) none) (cond (Nat.beq pc 82) (some (.inr (.inr 1))) none))))))
def kp_112 (pc : Nat) : Option KOp := cond (Nat.ble pc 21) (cond (Nat.ble pc 11) (cond (Nat.ble pc 4) (cond (Nat.ble pc 0) (cond (Nat.beq pc 0) (some (.inl (g_ald 0 1))) none) (cond (Nat.ble pc 1) (cond (Nat.beq pc 1) (some (.inr (.inl (108, 1, 4)))) none) (cond (Nat.beq pc 4) (some (.inl (g_br1 (fun x => decide (¬ x = 0)) 10 7))) none))) (cond (Nat.ble pc 9) (cond (Nat.ble pc 7) (cond (Nat.beq pc 7) (some (.inl (g_push (-2) 9))) none) (cond (Nat.beq pc 9) (some (.inr (.inr 1))) none)) (cond (Nat.ble pc 10) (cond (Nat.beq pc 10) (some (.inl (g_push 0 11))) none) (cond (Nat.beq pc 11) (some (.inl (g_ist 1 12))) none)))) (cond (Nat.ble pc 14) (cond (Nat.ble pc 12) (cond (Nat.beq pc 12) (some (.inl (g_push 0 13))) none) (cond (Nat.ble pc 13) (cond (Nat.beq pc 13) (some (.inl (g_ist 2 14))) none) (cond (Nat.beq pc 14) (some (.inl (g_ild 2 15))) none))) (cond (Nat.ble pc 16) (cond (Nat.ble pc 15) (cond (Nat.beq pc 15) (some (.inl (g_ald 0 16))) none) (cond (Nat.beq pc 16) (some (.inl (g_gfr 4 0 19))) none)) (cond (Nat.ble pc 19) (cond (Nat.beq pc 19) (some (.inl (g_push 24 21))) none) (cond (Nat.beq pc 21) (some (.inl (g_pald 5 22))) none))))) (cond (Nat.ble pc 34) (cond (Nat.ble pc 26) (cond (Nat.ble pc 22) (cond (Nat.beq pc 22) (some (.inl (g_br2 (fun x y => decide (y ≤ x)) 43 25))) none) (cond (Nat.ble pc 25) (cond (Nat.beq pc 25) (some (.inl (g_ild 1 26))) none) (cond (Nat.beq pc 26) (some (.inl (g_push 1000 29))) none))) (cond (Nat.ble pc 30) (cond (Nat.ble pc 29) (cond (Nat.beq pc 29) (some (.inl (g_ald 0 30))) none) (cond (Nat.beq pc 30) (some (.inl (g_ild 2 31))) none)) (cond (Nat.ble pc 31) (cond (Nat.beq pc 31) (some (.inr (.inl (109, 2, 34)))) none) (cond (Nat.beq pc 34) (some (.inl (g_iop (fun x y => x - y) 35))) none)))) (cond (Nat.ble pc 40) (cond (Nat.ble pc 36) (cond (Nat.ble pc 35) (cond (Nat.beq pc 35) (some (.inl (g_iop (fun x y => x + y) 36))) none) (cond (Nat.beq pc 36) (some (.inl (g_ist 1 37))) none)) (cond (Nat.ble pc 37) (cond (Nat.beq pc 37) (some (.inl (g_iinc 2 1 40))) none) (cond (Nat.beq pc 40) (some (.inl (g_goto 14))) none))) (cond (Nat.ble pc 44) (cond (Nat.ble pc 43) (cond (Nat.beq pc 43) (some (.inl (g_ild 1 44))) none) (cond (Nat.beq pc 44) (some (.inl (g_push 10 46))) none)) (cond (Nat.ble pc 46) (cond (Nat.beq pc 46) (some (.inl (g_idiv (fun x y => x / y) 47))) none) (cond (Nat.beq pc 47) (some (.inr (.inr 1))) none)))))
def kp_113 (pc : Nat) : Option KOp := cond (Nat.ble pc 32) (cond (Nat.ble pc 14) (cond (Nat.ble pc 7) (cond (Nat.ble pc 1) (cond (Nat.ble pc 0) (cond (Nat.beq pc 0) (some (.inl (g_ild 1 1))) none) (cond (Nat.beq pc 1) (some (.inl (g_push 1 2))) none)) (cond (Nat.ble pc 2) (cond (Nat.beq pc 2) (some (.inl (g_push 9 4))) none) (cond (Nat.ble pc 4) (cond (Nat.beq pc 4) (some (.inr (.inl (66, 3, 7)))) none) (cond (Nat.beq pc 7) (some (.inl (g_br1 (fun x => decide (¬ x = 0)) 12 10))) none)))) (cond (Nat.ble pc 11) (cond (Nat.ble pc 10) (cond (Nat.beq pc 10) (some (.inl (g_push (-1) 11))) none) (cond (Nat.beq pc 11) (some (.inr (.inr 1))) none)) (cond (Nat.ble pc 12) (cond (Nat.beq pc 12) (some (.inl (g_ald 0 13))) none) (cond (Nat.ble pc 13) (cond (Nat.beq pc 13) (some (.inl (g_push 0 14))) none) (cond (Nat.beq pc 14) (some (.inr (.inl (69, 2, 17)))) none))))) (cond (Nat.ble pc 24) (cond (Nat.ble pc 18) (cond (Nat.ble pc 17) (cond (Nat.beq pc 17) (some (.inl (g_ist 2 18))) none) (cond (Nat.beq pc 18) (some (.inl (g_ild 2 19))) none)) (cond (Nat.ble pc 19) (cond (Nat.beq pc 19) (some (.inl (g_br1 (fun x => decide (¬ x = 0)) 25 22))) none) (cond (Nat.ble pc 22) (cond (Nat.beq pc 22) (some (.inl (g_push (-2) 24))) none) (cond (Nat.beq pc 24) (some (.inr (.inr 1))) none)))) (cond (Nat.ble pc 27) (cond (Nat.ble pc 25) (cond (Nat.beq pc 25) (some (.inl (g_pushl 0 26))) none) (cond (Nat.ble pc 26) (cond (Nat.beq pc 26) (some (.inl (g_lst 3 27))) none) (cond (Nat.beq pc 27) (some (.inl (g_push 0 28))) none))) (cond (Nat.ble pc 28) (cond (Nat.beq pc 28) (some (.inl (g_ist 5 30))) none) (cond (Nat.ble pc 30) (cond (Nat.beq pc 30) (some (.inl (g_ild 5 32))) none) (cond (Nat.beq pc 32) (some (.inl (g_ild 1 33))) none)))))) (cond (Nat.ble pc 47) (cond (Nat.ble pc 41) (cond (Nat.ble pc 36) (cond (Nat.ble pc 33) (cond (Nat.beq pc 33) (some (.inl (g_br2 (fun x y => decide (y ≤ x)) 55 36))) none) (cond (Nat.beq pc 36) (some (.inl (g_lld 3 37))) none)) (cond (Nat.ble pc 37) (cond (Nat.beq pc 37) (some (.inl (g_ald 0 38))) none) (cond (Nat.ble pc 38) (cond (Nat.beq pc 38) (some (.inl (g_gfr 4 0 41))) none) (cond (Nat.beq pc 41) (some (.inl (g_push 0 42))) none)))) (cond (Nat.ble pc 44) (cond (Nat.ble pc 42) (cond (Nat.beq pc 42) (some (.inl (g_ild 5 44))) none) (cond (Nat.beq pc 44) (some (.inl (g_iop (fun x y => x + y) 45))) none)) (cond (Nat.ble pc 45) (cond (Nat.beq pc 45) (some (.inl (g_pald 5 46))) none) (cond (Nat.ble pc 46) (cond (Nat.beq pc 46) (some (.inl (g_i2l 47))) none) (cond (Nat.beq pc 47) (some (.inl (g_lop (fun x y => x + y) 48))) none))))) (cond (Nat.ble pc 56) (cond (Nat.ble pc 49) (cond (Nat.ble pc 48) (cond (Nat.beq pc 48) (some (.inl (g_lst 3 49))) none) (cond (Nat.beq pc 49) (some (.inl (g_iinc 5 1 52))) none)) (cond (Nat.ble pc 52) (cond (Nat.beq pc 52) (some (.inl (g_goto 30))) none) (cond (Nat.ble pc 55) (cond (Nat.beq pc 55) (some (.inl (g_lld 3 56))) none) (cond (Nat.beq pc 56) (some (.inl (g_pushl 1000 59))) none)))) (cond (Nat.ble pc 61) (cond (Nat.ble pc 59) (cond (Nat.beq pc 59) (some (.inl (g_lop (fun x y => x * y) 60))) none) (cond (Nat.ble pc 60) (cond (Nat.beq pc 60) (some (.inl (g_ild 2 61))) none) (cond (Nat.beq pc 61) (some (.inl (g_i2l 62))) none))) (cond (Nat.ble pc 62) (cond (Nat.beq pc 62) (some (.inl (g_ldiv 63))) none) (cond (Nat.ble pc 63) (cond (Nat.beq pc 63) (some (.inl (g_l2i 64))) none) (cond (Nat.beq pc 64) (some (.inr (.inr 1))) none))))))
def kp_114 (pc : Nat) : Option KOp := cond (Nat.ble pc 13) (cond (Nat.ble pc 3) (cond (Nat.ble pc 1) (cond (Nat.ble pc 0) (cond (Nat.beq pc 0) (some (.inl (g_push 0 1))) none) (cond (Nat.beq pc 1) (some (.inl (g_ist 1 2))) none)) (cond (Nat.ble pc 2) (cond (Nat.beq pc 2) (some (.inl (g_ild 1 3))) none) (cond (Nat.beq pc 3) (some (.inl (g_push 137 6))) none))) (cond (Nat.ble pc 9) (cond (Nat.ble pc 6) (cond (Nat.beq pc 6) (some (.inl (g_br2 (fun x y => decide (y ≤ x)) 27 9))) none) (cond (Nat.beq pc 9) (some (.inl (g_ald 0 10))) none)) (cond (Nat.ble pc 10) (cond (Nat.beq pc 10) (some (.inl (g_gfr 4 5 13))) none) (cond (Nat.beq pc 13) (some (.inl (g_ild 1 14))) none)))) (cond (Nat.ble pc 19) (cond (Nat.ble pc 15) (cond (Nat.ble pc 14) (cond (Nat.beq pc 14) (some (.inl (g_ald 0 15))) none) (cond (Nat.beq pc 15) (some (.inl (g_gfr 4 0 18))) none)) (cond (Nat.ble pc 18) (cond (Nat.beq pc 18) (some (.inl (g_ild 1 19))) none) (cond (Nat.beq pc 19) (some (.inl (g_pald 5 20))) none))) (cond (Nat.ble pc 21) (cond (Nat.ble pc 20) (cond (Nat.beq pc 20) (some (.inl (g_past 5 21))) none) (cond (Nat.beq pc 21) (some (.inl (g_iinc 1 1 24))) none)) (cond (Nat.ble pc 24) (cond (Nat.beq pc 24) (some (.inl (g_goto 2))) none) (cond (Nat.beq pc 27) (some (.inr (.inr 0))) none))))
def kp_115 (pc : Nat) : Option KOp := cond (Nat.ble pc 13) (cond (Nat.ble pc 3) (cond (Nat.ble pc 1) (cond (Nat.ble pc 0) (cond (Nat.beq pc 0) (some (.inl (g_push 0 1))) none) (cond (Nat.beq pc 1) (some (.inl (g_ist 1 2))) none)) (cond (Nat.ble pc 2) (cond (Nat.beq pc 2) (some (.inl (g_ild 1 3))) none) (cond (Nat.beq pc 3) (some (.inl (g_push 137 6))) none))) (cond (Nat.ble pc 9) (cond (Nat.ble pc 6) (cond (Nat.beq pc 6) (some (.inl (g_br2 (fun x y => decide (y ≤ x)) 27 9))) none) (cond (Nat.beq pc 9) (some (.inl (g_ald 0 10))) none)) (cond (Nat.ble pc 10) (cond (Nat.beq pc 10) (some (.inl (g_gfr 4 0 13))) none) (cond (Nat.beq pc 13) (some (.inl (g_ild 1 14))) none)))) (cond (Nat.ble pc 19) (cond (Nat.ble pc 15) (cond (Nat.ble pc 14) (cond (Nat.beq pc 14) (some (.inl (g_ald 0 15))) none) (cond (Nat.beq pc 15) (some (.inl (g_gfr 4 5 18))) none)) (cond (Nat.ble pc 18) (cond (Nat.beq pc 18) (some (.inl (g_ild 1 19))) none) (cond (Nat.beq pc 19) (some (.inl (g_pald 5 20))) none))) (cond (Nat.ble pc 21) (cond (Nat.ble pc 20) (cond (Nat.beq pc 20) (some (.inl (g_past 5 21))) none) (cond (Nat.beq pc 21) (some (.inl (g_iinc 1 1 24))) none)) (cond (Nat.ble pc 24) (cond (Nat.beq pc 24) (some (.inl (g_goto 2))) none) (cond (Nat.beq pc 27) (some (.inr (.inr 0))) none))))
def kp_116 (pc : Nat) : Option KOp := cond (Nat.ble pc 34) (cond (Nat.ble pc 17) (cond (Nat.ble pc 8) (cond (Nat.ble pc 1) (cond (Nat.ble pc 0) (cond (Nat.beq pc 0) (some (.inl (g_ild 1 1))) none) (cond (Nat.beq pc 1) (some (.inl (g_push 1 2))) none)) (cond (Nat.ble pc 2) (cond (Nat.beq pc 2) (some (.inl (g_push 9999 5))) none) (cond (Nat.ble pc 5) (cond (Nat.beq pc 5) (some (.inr (.inl (66, 3, 8)))) none) (cond (Nat.beq pc 8) (some (.inl (g_br1 (fun x => decide (¬ x = 0)) 13 11))) none)))) (cond (Nat.ble pc 12) (cond (Nat.ble pc 11) (cond (Nat.beq pc 11) (some (.inl (g_push (-1) 12))) none) (cond (Nat.beq pc 12) (some (.inr (.inr 1))) none)) (cond (Nat.ble pc 13) (cond (Nat.beq pc 13) (some (.inl (g_ald 0 14))) none) (cond (Nat.ble pc 14) (cond (Nat.beq pc 14) (some (.inl (g_gfr 4 0 17))) none) (cond (Nat.beq pc 17) (some (.inl (g_push 49 19))) none))))) (cond (Nat.ble pc 26) (cond (Nat.ble pc 20) (cond (Nat.ble pc 19) (cond (Nat.beq pc 19) (some (.inl (g_pald 5 20))) none) (cond (Nat.beq pc 20) (some (.inl (g_br1 (fun x => decide (¬ x = 0)) 26 23))) none)) (cond (Nat.ble pc 23) (cond (Nat.beq pc 23) (some (.inl (g_push (-2) 25))) none) (cond (Nat.ble pc 25) (cond (Nat.beq pc 25) (some (.inr (.inr 1))) none) (cond (Nat.beq pc 26) (some (.inl (g_ald 0 27))) none)))) (cond (Nat.ble pc 30) (cond (Nat.ble pc 27) (cond (Nat.beq pc 27) (some (.inr (.inl (114, 1, 30)))) none) (cond (Nat.beq pc 30) (some (.inl (g_push (-9) 32))) none)) (cond (Nat.ble pc 32) (cond (Nat.beq pc 32) (some (.inl (g_ist 2 33))) none) (cond (Nat.ble pc 33) (cond (Nat.beq pc 33) (some (.inl (g_push 1 34))) none) (cond (Nat.beq pc 34) (some (.inl (g_ist 3 35))) none)))))) (cond (Nat.ble pc 53) (cond (Nat.ble pc 43) (cond (Nat.ble pc 36) (cond (Nat.ble pc 35) (cond (Nat.beq pc 35) (some (.inl (g_ild 3 36))) none) (cond (Nat.beq pc 36) (some (.inl (g_push 500 39))) none)) (cond (Nat.ble pc 39) (cond (Nat.beq pc 39) (some (.inl (g_br2 (fun x y => decide (y < x)) 69 42))) none) (cond (Nat.ble pc 42) (cond (Nat.beq pc 42) (some (.inl (g_ild 2 43))) none) (cond (Nat.beq pc 43) (some (.inl (g_push (-9) 45))) none)))) (cond (Nat.ble pc 48) (cond (Nat.ble pc 45) (cond (Nat.beq pc 45) (some (.inl (g_br2 (fun x y => decide (¬ x = y)) 69 48))) none) (cond (Nat.beq pc 48) (some (.inl (g_ald 0 49))) none)) (cond (Nat.ble pc 49) (cond (Nat.beq pc 49) (some (.inr (.inl (100, 1, 52)))) none) (cond (Nat.ble pc 52) (cond (Nat.beq pc 52) (some (.inl (g_ild 1 53))) none) (cond (Nat.beq pc 53) (some (.inl (g_br2 (fun x y => decide (y ≤ x)) 60 56))) none))))) (cond (Nat.ble pc 63) (cond (Nat.ble pc 57) (cond (Nat.ble pc 56) (cond (Nat.beq pc 56) (some (.inl (g_ild 3 57))) none) (cond (Nat.beq pc 57) (some (.inl (g_goto 62))) none)) (cond (Nat.ble pc 60) (cond (Nat.beq pc 60) (some (.inl (g_push (-9) 62))) none) (cond (Nat.ble pc 62) (cond (Nat.beq pc 62) (some (.inl (g_ist 2 63))) none) (cond (Nat.beq pc 63) (some (.inl (g_iinc 3 1 66))) none)))) (cond (Nat.ble pc 69) (cond (Nat.ble pc 66) (cond (Nat.beq pc 66) (some (.inl (g_goto 35))) none) (cond (Nat.beq pc 69) (some (.inl (g_ald 0 70))) none)) (cond (Nat.ble pc 70) (cond (Nat.beq pc 70) (some (.inr (.inl (115, 1, 73)))) none) (cond (Nat.ble pc 73) (cond (Nat.beq pc 73) (some (.inl (g_ild 2 74))) none) (cond (Nat.beq pc 74) (some (.inr (.inr 1))) none))))))
def kp_117 (pc : Nat) : Option KOp := cond (Nat.ble pc 38) (cond (Nat.ble pc 19) (cond (Nat.ble pc 8) (cond (Nat.ble pc 1) (cond (Nat.ble pc 0) (cond (Nat.beq pc 0) (some (.inl (g_ild 1 1))) none) (cond (Nat.beq pc 1) (some (.inl (g_push 1 2))) none)) (cond (Nat.ble pc 2) (cond (Nat.beq pc 2) (some (.inl (g_push 500 5))) none) (cond (Nat.ble pc 5) (cond (Nat.beq pc 5) (some (.inr (.inl (66, 3, 8)))) none) (cond (Nat.beq pc 8) (some (.inl (g_br1 (fun x => decide (¬ x = 0)) 13 11))) none)))) (cond (Nat.ble pc 13) (cond (Nat.ble pc 11) (cond (Nat.beq pc 11) (some (.inl (g_push (-1) 12))) none) (cond (Nat.ble pc 12) (cond (Nat.beq pc 12) (some (.inr (.inr 1))) none) (cond (Nat.beq pc 13) (some (.inl (g_ald 0 14))) none))) (cond (Nat.ble pc 14) (cond (Nat.beq pc 14) (some (.inl (g_gfr 4 0 17))) none) (cond (Nat.ble pc 17) (cond (Nat.beq pc 17) (some (.inl (g_push 49 19))) none) (cond (Nat.beq pc 19) (some (.inl (g_pald 5 20))) none))))) (cond (Nat.ble pc 30) (cond (Nat.ble pc 25) (cond (Nat.ble pc 20) (cond (Nat.beq pc 20) (some (.inl (g_br1 (fun x => decide (¬ x = 0)) 26 23))) none) (cond (Nat.ble pc 23) (cond (Nat.beq pc 23) (some (.inl (g_push (-2) 25))) none) (cond (Nat.beq pc 25) (some (.inr (.inr 1))) none))) (cond (Nat.ble pc 26) (cond (Nat.beq pc 26) (some (.inl (g_ald 0 27))) none) (cond (Nat.ble pc 27) (cond (Nat.beq pc 27) (some (.inr (.inl (114, 1, 30)))) none) (cond (Nat.beq pc 30) (some (.inl (g_ald 0 31))) none)))) (cond (Nat.ble pc 35) (cond (Nat.ble pc 31) (cond (Nat.beq pc 31) (some (.inr (.inl (104, 1, 34)))) none) (cond (Nat.ble pc 34) (cond (Nat.beq pc 34) (some (.inl (g_ist 2 35))) none) (cond (Nat.beq pc 35) (some (.inl (g_push 0 36))) none))) (cond (Nat.ble pc 36) (cond (Nat.beq pc 36) (some (.inl (g_ist 3 37))) none) (cond (Nat.ble pc 37) (cond (Nat.beq pc 37) (some (.inl (g_push 0 38))) none) (cond (Nat.beq pc 38) (some (.inl (g_ist 4 40))) none)))))) (cond (Nat.ble pc 59) (cond (Nat.ble pc 47) (cond (Nat.ble pc 42) (cond (Nat.ble pc 40) (cond (Nat.beq pc 40) (some (.inl (g_ild 4 42))) none) (cond (Nat.beq pc 42) (some (.inl (g_ild 1 43))) none)) (cond (Nat.ble pc 43) (cond (Nat.beq pc 43) (some (.inl (g_br2 (fun x y => decide (y ≤ x)) 59 46))) none) (cond (Nat.ble pc 46) (cond (Nat.beq pc 46) (some (.inl (g_ild 3 47))) none) (cond (Nat.beq pc 47) (some (.inl (g_ald 0 48))) none)))) (cond (Nat.ble pc 52) (cond (Nat.ble pc 48) (cond (Nat.beq pc 48) (some (.inr (.inl (100, 1, 51)))) none) (cond (Nat.ble pc 51) (cond (Nat.beq pc 51) (some (.inl (g_iop (fun x y => x + y) 52))) none) (cond (Nat.beq pc 52) (some (.inl (g_ist 3 53))) none))) (cond (Nat.ble pc 53) (cond (Nat.beq pc 53) (some (.inl (g_iinc 4 1 56))) none) (cond (Nat.ble pc 56) (cond (Nat.beq pc 56) (some (.inl (g_goto 40))) none) (cond (Nat.beq pc 59) (some (.inl (g_ald 0 60))) none))))) (cond (Nat.ble pc 68) (cond (Nat.ble pc 64) (cond (Nat.ble pc 60) (cond (Nat.beq pc 60) (some (.inr (.inl (104, 1, 63)))) none) (cond (Nat.ble pc 63) (cond (Nat.beq pc 63) (some (.inl (g_ild 2 64))) none) (cond (Nat.beq pc 64) (some (.inl (g_iop (fun x y => x - y) 65))) none))) (cond (Nat.ble pc 65) (cond (Nat.beq pc 65) (some (.inl (g_ist 4 67))) none) (cond (Nat.ble pc 67) (cond (Nat.beq pc 67) (some (.inl (g_ald 0 68))) none) (cond (Nat.beq pc 68) (some (.inr (.inl (115, 1, 71)))) none)))) (cond (Nat.ble pc 75) (cond (Nat.ble pc 71) (cond (Nat.beq pc 71) (some (.inl (g_ild 3 72))) none) (cond (Nat.ble pc 72) (cond (Nat.beq pc 72) (some (.inl (g_br1 (fun x => decide (0 ≤ x)) 79 75))) none) (cond (Nat.beq pc 75) (some (.inl (g_ild 3 76))) none))) (cond (Nat.ble pc 76) (cond (Nat.beq pc 76) (some (.inl (g_goto 81))) none) (cond (Nat.ble pc 79) (cond (Nat.beq pc 79) (some (.inl (g_ild 4 81))) none) (cond (Nat.beq pc 81) (some (.inr (.inr 1))) none))))))
def kprog (m pc : Nat) : Option KOp := cond (Nat.ble m 58) (cond (Nat.ble m 28) (cond (Nat.ble m 13) (cond (Nat.ble m 6) (cond (Nat.ble m 2) (cond (Nat.ble m 0) (cond (Nat.beq m 0) (kp_0 pc) none) (cond (Nat.ble m 1) (cond (Nat.beq m 1) (kp_1 pc) none) (cond (Nat.beq m 2) (kp_2 pc) none))) (cond (Nat.ble m 4) (cond (Nat.ble m 3) (cond (Nat.beq m 3) (kp_3 pc) none) (cond (Nat.beq m 4) (kp_4 pc) none)) (cond (Nat.ble m 5) (cond (Nat.beq m 5) (kp_5 pc) none) (cond (Nat.beq m 6) (kp_6 pc) none)))) (cond (Nat.ble m 9) (cond (Nat.ble m 7) (cond (Nat.beq m 7) (kp_7 pc) none) (cond (Nat.ble m 8) (cond (Nat.beq m 8) (kp_8 pc) none) (cond (Nat.beq m 9) (kp_9 pc) none))) (cond (Nat.ble m 11) (cond (Nat.ble m 10) (cond (Nat.beq m 10) (kp_10 pc) none) (cond (Nat.beq m 11) (kp_11 pc) none)) (cond (Nat.ble m 12) (cond (Nat.beq m 12) (kp_12 pc) none) (cond (Nat.beq m 13) (kp_13 pc) none))))) (cond (Nat.ble m 20) (cond (Nat.ble m 16) (cond (Nat.ble m 14) (cond (Nat.beq m 14) (kp_14 pc) none) (cond (Nat.ble m 15) (cond (Nat.beq m 15) (kp_15 pc) none) (cond (Nat.beq m 16) (kp_16 pc) none))) (cond (Nat.ble m 18) (cond (Nat.ble m 17) (cond (Nat.beq m 17) (kp_17 pc) none) (cond (Nat.beq m 18) (kp_18 pc) none)) (cond (Nat.ble m 19) (cond (Nat.beq m 19) (kp_19 pc) none) (cond (Nat.beq m 20) (kp_20 pc) none)))) (cond (Nat.ble m 24) (cond (Nat.ble m 22) (cond (Nat.ble m 21) (cond (Nat.beq m 21) (kp_21 pc) none) (cond (Nat.beq m 22) (kp_22 pc) none)) (cond (Nat.ble m 23) (cond (Nat.beq m 23) (kp_23 pc) none) (cond (Nat.beq m 24) (kp_24 pc) none))) (cond (Nat.ble m 26) (cond (Nat.ble m 25) (cond (Nat.beq m 25) (kp_25 pc) none) (cond (Nat.beq m 26) (kp_26 pc) none)) (cond (Nat.ble m 27) (cond (Nat.beq m 27) (kp_27 pc) none) (cond (Nat.beq m 28) (kp_28 pc) none)))))) (cond (Nat.ble m 43) (cond (Nat.ble m 35) (cond (Nat.ble m 31) (cond (Nat.ble m 29) (cond (Nat.beq m 29) (kp_29 pc) none) (cond (Nat.ble m 30) (cond (Nat.beq m 30) (kp_30 pc) none) (cond (Nat.beq m 31) (kp_31 pc) none))) (cond (Nat.ble m 33) (cond (Nat.ble m 32) (cond (Nat.beq m 32) (kp_32 pc) none) (cond (Nat.beq m 33) (kp_33 pc) none)) (cond (Nat.ble m 34) (cond (Nat.beq m 34) (kp_34 pc) none) (cond (Nat.beq m 35) (kp_35 pc) none)))) (cond (Nat.ble m 39) (cond (Nat.ble m 37) (cond (Nat.ble m 36) (cond (Nat.beq m 36) (kp_36 pc) none) (cond (Nat.beq m 37) (kp_37 pc) none)) (cond (Nat.ble m 38) (cond (Nat.beq m 38) (kp_38 pc) none) (cond (Nat.beq m 39) (kp_39 pc) none))) (cond (Nat.ble m 41) (cond (Nat.ble m 40) (cond (Nat.beq m 40) (kp_40 pc) none) (cond (Nat.beq m 41) (kp_41 pc) none)) (cond (Nat.ble m 42) (cond (Nat.beq m 42) (kp_42 pc) none) (cond (Nat.beq m 43) (kp_43 pc) none))))) (cond (Nat.ble m 50) (cond (Nat.ble m 46) (cond (Nat.ble m 44) (cond (Nat.beq m 44) (kp_44 pc) none) (cond (Nat.ble m 45) (cond (Nat.beq m 45) (kp_45 pc) none) (cond (Nat.beq m 46) (kp_46 pc) none))) (cond (Nat.ble m 48) (cond (Nat.ble m 47) (cond (Nat.beq m 47) (kp_47 pc) none) (cond (Nat.beq m 48) (kp_48 pc) none)) (cond (Nat.ble m 49) (cond (Nat.beq m 49) (kp_49 pc) none) (cond (Nat.beq m 50) (kp_50 pc) none)))) (cond (Nat.ble m 54) (cond (Nat.ble m 52) (cond (Nat.ble m 51) (cond (Nat.beq m 51) (kp_51 pc) none) (cond (Nat.beq m 52) (kp_52 pc) none)) (cond (Nat.ble m 53) (cond (Nat.beq m 53) (kp_53 pc) none) (cond (Nat.beq m 54) (kp_54 pc) none))) (cond (Nat.ble m 56) (cond (Nat.ble m 55) (cond (Nat.beq m 55) (kp_55 pc) none) (cond (Nat.beq m 56) (kp_56 pc) none)) (cond (Nat.ble m 57) (cond (Nat.beq m 57) (kp_57 pc) none) (cond (Nat.beq m 58) (kp_58 pc) none))))))) (cond (Nat.ble m 87) (cond (Nat.ble m 72) (cond (Nat.ble m 65) (cond (Nat.ble m 61) (cond (Nat.ble m 59) (cond (Nat.beq m 59) (kp_59 pc) none) (cond (Nat.ble m 60) (cond (Nat.beq m 60) (kp_60 pc) none) (cond (Nat.beq m 61) (kp_61 pc) none))) (cond (Nat.ble m 63) (cond (Nat.ble m 62) (cond (Nat.beq m 62) (kp_62 pc) none) (cond (Nat.beq m 63) (kp_63 pc) none)) (cond (Nat.ble m 64) (cond (Nat.beq m 64) (kp_64 pc) none) (cond (Nat.beq m 65) (kp_65 pc) none)))) (cond (Nat.ble m 68) (cond (Nat.ble m 66) (cond (Nat.beq m 66) (kp_66 pc) none) (cond (Nat.ble m 67) (cond (Nat.beq m 67) (kp_67 pc) none) (cond (Nat.beq m 68) (kp_68 pc) none))) (cond (Nat.ble m 70) (cond (Nat.ble m 69) (cond (Nat.beq m 69) (kp_69 pc) none) (cond (Nat.beq m 70) (kp_70 pc) none)) (cond (Nat.ble m 71) (cond (Nat.beq m 71) (kp_71 pc) none) (cond (Nat.beq m 72) (kp_72 pc) none))))) (cond (Nat.ble m 79) (cond (Nat.ble m 75) (cond (Nat.ble m 73) (cond (Nat.beq m 73) (kp_73 pc) none) (cond (Nat.ble m 74) (cond (Nat.beq m 74) (kp_74 pc) none) (cond (Nat.beq m 75) (kp_75 pc) none))) (cond (Nat.ble m 77) (cond (Nat.ble m 76) (cond (Nat.beq m 76) (kp_76 pc) none) (cond (Nat.beq m 77) (kp_77 pc) none)) (cond (Nat.ble m 78) (cond (Nat.beq m 78) (kp_78 pc) none) (cond (Nat.beq m 79) (kp_79 pc) none)))) (cond (Nat.ble m 83) (cond (Nat.ble m 81) (cond (Nat.ble m 80) (cond (Nat.beq m 80) (kp_80 pc) none) (cond (Nat.beq m 81) (kp_81 pc) none)) (cond (Nat.ble m 82) (cond (Nat.beq m 82) (kp_82 pc) none) (cond (Nat.beq m 83) (kp_83 pc) none))) (cond (Nat.ble m 85) (cond (Nat.ble m 84) (cond (Nat.beq m 84) (kp_84 pc) none) (cond (Nat.beq m 85) (kp_85 pc) none)) (cond (Nat.ble m 86) (cond (Nat.beq m 86) (kp_86 pc) none) (cond (Nat.beq m 87) (kp_87 pc) none)))))) (cond (Nat.ble m 102) (cond (Nat.ble m 94) (cond (Nat.ble m 90) (cond (Nat.ble m 88) (cond (Nat.beq m 88) (kp_88 pc) none) (cond (Nat.ble m 89) (cond (Nat.beq m 89) (kp_89 pc) none) (cond (Nat.beq m 90) (kp_90 pc) none))) (cond (Nat.ble m 92) (cond (Nat.ble m 91) (cond (Nat.beq m 91) (kp_91 pc) none) (cond (Nat.beq m 92) (kp_92 pc) none)) (cond (Nat.ble m 93) (cond (Nat.beq m 93) (kp_93 pc) none) (cond (Nat.beq m 94) (kp_94 pc) none)))) (cond (Nat.ble m 98) (cond (Nat.ble m 96) (cond (Nat.ble m 95) (cond (Nat.beq m 95) (kp_95 pc) none) (cond (Nat.beq m 96) (kp_96 pc) none)) (cond (Nat.ble m 97) (cond (Nat.beq m 97) (kp_97 pc) none) (cond (Nat.beq m 98) (kp_98 pc) none))) (cond (Nat.ble m 100) (cond (Nat.ble m 99) (cond (Nat.beq m 99) (kp_99 pc) none) (cond (Nat.beq m 100) (kp_100 pc) none)) (cond (Nat.ble m 101) (cond (Nat.beq m 101) (kp_101 pc) none) (cond (Nat.beq m 102) (kp_102 pc) none))))) (cond (Nat.ble m 109) (cond (Nat.ble m 105) (cond (Nat.ble m 103) (cond (Nat.beq m 103) (kp_103 pc) none) (cond (Nat.ble m 104) (cond (Nat.beq m 104) (kp_104 pc) none) (cond (Nat.beq m 105) (kp_105 pc) none))) (cond (Nat.ble m 107) (cond (Nat.ble m 106) (cond (Nat.beq m 106) (kp_106 pc) none) (cond (Nat.beq m 107) (kp_107 pc) none)) (cond (Nat.ble m 108) (cond (Nat.beq m 108) (kp_108 pc) none) (cond (Nat.beq m 109) (kp_109 pc) none)))) (cond (Nat.ble m 113) (cond (Nat.ble m 111) (cond (Nat.ble m 110) (cond (Nat.beq m 110) (kp_110 pc) none) (cond (Nat.beq m 111) (kp_111 pc) none)) (cond (Nat.ble m 112) (cond (Nat.beq m 112) (kp_112 pc) none) (cond (Nat.beq m 113) (kp_113 pc) none))) (cond (Nat.ble m 115) (cond (Nat.ble m 114) (cond (Nat.beq m 114) (kp_114 pc) none) (cond (Nat.beq m 115) (kp_115 pc) none)) (cond (Nat.ble m 116) (cond (Nat.beq m 116) (kp_116 pc) none) (cond (Nat.beq m 117) (kp_117 pc) none)))))))
end
section
/-! the small machine's runs: by fuel; kE: the run from here ends, and its end has Q -/
def kent (m : Nat) (as : List Value) : List Value := as ++ List.replicate (kml m - as.length) .null
def krecv (m : Nat) (as : List Value) : Bool := match as with
  | .ref k :: _ => Nat.beq (kd k) (kcls m)
  | _ => false
def kcall (m : Nat) (as rest : List Value) : Bool := as.all kNL && decide (kcat rest ≤ 8) && (kstat m || krecv m as) && (decide (as.length ≤ kml m) && Nat.beq as.length (kna m))
def kret (c : Nat) (st : List Value) (M : KMem) : Option (Option Value × KMem) := match c with
  | 0 => (match st with
    | [] => some (none, M)
    | _ => none)
  | 1 => (match st with
    | [.int v] => some (some (.int v), M)
    | _ => none)
  | _ => (match st with
    | [.int v] => if v = 0 ∨ v = 1 then some (some (.int v), M) else none
    | _ => none)
def krun : Nat → Nat → Nat → List Value → List Value → KMem → Option (Option Value × KMem)
  | 0, _, _, _, _, _ => none
  | f + 1, m, pc, ls, st, M => match kprog m pc with
    | none => none
    | some (.inl g) => (match g ls st M with
      | none => none
      | some c => krun f m c.1 c.2.1 c.2.2.1 c.2.2.2)
    | some (.inr (.inl y)) => if kcall y.1 (st.take y.2.1).reverse (st.drop y.2.1) = true then (match krun f y.1 0 (kent y.1 (st.take y.2.1).reverse) [] M with
        | none => none
        | some o => krun f m y.2.2 ls (o.1.toList ++ st.drop y.2.1) o.2) else none
    | some (.inr (.inr c)) => kret c st M
theorem krun_mono1 : ∀ (f m pc : Nat) (ls st : List Value) (M : KMem) (o : Option Value × KMem), krun f m pc ls st M = some o → krun (f + 1) m pc ls st M = some o := by
  intro f
  induction f with
  | zero => intro m pc ls st M o h; simp [krun] at h
  | succ f ih =>
    intro m pc ls st M o h
    rw [krun] at h ⊢
    cases hp : kprog m pc with
    | none => rw [hp] at h; simp at h
    | some op =>
      rw [hp] at h
      rcases op with g | y | c
      · dsimp only at h ⊢
        cases hg : g ls st M with
        | none => rw [hg] at h; simp at h
        | some cc =>
          rw [hg] at h
          dsimp only at h ⊢
          exact ih _ _ _ _ _ _ h
      · dsimp only at h ⊢
        by_cases hc : kcall y.1 (st.take y.2.1).reverse (st.drop y.2.1) = true
        · rw [if_pos hc] at h ⊢
          cases hr : krun f y.1 0 (kent y.1 (st.take y.2.1).reverse) [] M with
          | none => rw [hr] at h; simp at h
          | some o1 =>
            rw [hr] at h
            rw [ih _ _ _ _ _ _ hr]
            dsimp only at h ⊢
            exact ih _ _ _ _ _ _ h
        · rw [if_neg hc] at h
          cases h
      · exact h
theorem krun_mono {f f' m pc : Nat} {ls st : List Value} {M : KMem} {o : Option Value × KMem} (h : krun f m pc ls st M = some o) (hf : f ≤ f') : krun f' m pc ls st M = some o := by
  obtain ⟨d, rfl⟩ := Nat.le.dest hf
  induction d with
  | zero => exact h
  | succ d ih => exact krun_mono1 _ _ _ _ _ _ _ (ih (by omega))
def kE (m pc : Nat) (ls st : List Value) (M : KMem) (Q : Option Value → KMem → Prop) : Prop := ∃ (f : Nat) (o : Option Value × KMem), krun f m pc ls st M = some o ∧ Q o.1 o.2
theorem kE.mono {m pc : Nat} {ls st : List Value} {M : KMem} {Q Q' : Option Value → KMem → Prop} (h : kE m pc ls st M Q) (hq : ∀ r M', Q r M' → Q' r M') : kE m pc ls st M Q' := by
  obtain ⟨f, o, h1, h2⟩ := h
  exact ⟨f, o, h1, hq _ _ h2⟩
theorem kE_step {m pc : Nat} {g : KF} (h : kprog m pc = some (.inl g)) {ls st : List Value} {M : KMem} {Q : Option Value → KMem → Prop} {pc' : Nat} {ls' st' : List Value} {M' : KMem} (hg : g ls st M = some (pc', ls', st', M')) : kE m pc ls st M Q = kE m pc' ls' st' M' Q := by
  apply propext
  constructor
  · rintro ⟨f, o, h1, h2⟩
    cases f with
    | zero => simp [krun] at h1
    | succ f =>
      rw [krun, h] at h1
      dsimp only at h1
      rw [hg] at h1
      exact ⟨f, o, h1, h2⟩
  · rintro ⟨f, o, h1, h2⟩
    refine ⟨f + 1, o, ?_, h2⟩
    rw [krun, h]
    dsimp only
    rw [hg]
    exact h1
theorem kE_none {m pc : Nat} {g : KF} (h : kprog m pc = some (.inl g)) {ls st : List Value} {M : KMem} {Q : Option Value → KMem → Prop} (hg : g ls st M = none) : kE m pc ls st M Q = False := by
  apply propext
  constructor
  · rintro ⟨f, o, h1, h2⟩
    cases f with
    | zero => simp [krun] at h1
    | succ f =>
      rw [krun, h] at h1
      dsimp only at h1
      rw [hg] at h1
      cases h1
  · exact False.elim
theorem kE_if {m pc : Nat} {g : KF} (h : kprog m pc = some (.inl g)) {ls st : List Value} {M : KMem} {Q : Option Value → KMem → Prop} {pc' : Nat} {ls' st' : List Value} {M' : KMem} {P : Prop} [Decidable P] (hg : g ls st M = if P then some (pc', ls', st', M') else none) : kE m pc ls st M Q = (P ∧ kE m pc' ls' st' M' Q) := by
  by_cases hp : P
  · rw [if_pos hp] at hg
    rw [kE_step h hg]
    exact propext ⟨fun x => ⟨hp, x⟩, fun x => x.2⟩
  · rw [if_neg hp] at hg
    rw [kE_none h hg]
    exact propext ⟨False.elim, fun x => hp x.1⟩
theorem kE_unless {m pc : Nat} {g : KF} (h : kprog m pc = some (.inl g)) {ls st : List Value} {M : KMem} {Q : Option Value → KMem → Prop} {pc' : Nat} {ls' st' : List Value} {M' : KMem} {P : Prop} [Decidable P] (hg : g ls st M = if P then none else some (pc', ls', st', M')) : kE m pc ls st M Q = (¬ P ∧ kE m pc' ls' st' M' Q) := by
  by_cases hp : P
  · rw [if_pos hp] at hg
    rw [kE_none h hg]
    exact propext ⟨False.elim, fun x => x.1 hp⟩
  · rw [if_neg hp] at hg
    rw [kE_step h hg]
    exact propext ⟨fun x => ⟨hp, x⟩, fun x => x.2⟩
theorem kE_br {m pc : Nat} {g : KF} (h : kprog m pc = some (.inl g)) {ls st ls' st' : List Value} {M M' : KMem} {Q : Option Value → KMem → Prop} {a b : Nat} {P : Prop} [Decidable P] (hg : g ls st M = some (if P then a else b, ls', st', M')) : kE m pc ls st M Q = if P then kE m a ls' st' M' Q else kE m b ls' st' M' Q := by
  rw [kE_step h hg]
  by_cases hp : P
  · rw [if_pos hp]; simp only [if_pos hp]
  · rw [if_neg hp]; simp only [if_neg hp]
theorem kE_call {m pc m' n nx : Nat} (h : kprog m pc = some (.inr (.inl (m', n, nx)))) {ls st : List Value} {M : KMem} {Q : Option Value → KMem → Prop} (as rest : List Value) (hst : st = as.reverse ++ rest) (hn : as.length = n) :
    kE m pc ls st M Q = (kcall m' as rest = true ∧ kE m' 0 (kent m' as) [] M (fun r M' => kE m nx ls (r.toList ++ rest) M' Q)) := by
  have h1 : st.take n = as.reverse := by rw [hst, ← hn, ← List.length_reverse, List.take_left']; rfl
  have h2 : st.drop n = rest := by rw [hst, ← hn, ← List.length_reverse, List.drop_left']; rfl
  apply propext
  constructor
  · rintro ⟨f, o, e1, e2⟩
    cases f with
    | zero => simp [krun] at e1
    | succ f =>
      rw [krun, h] at e1
      dsimp only at e1
      rw [h1, h2, List.reverse_reverse] at e1
      by_cases hc : kcall m' as rest = true
      · rw [if_pos hc] at e1
        cases hr : krun f m' 0 (kent m' as) [] M with
        | none => rw [hr] at e1; simp at e1
        | some o1 =>
          rw [hr] at e1
          exact ⟨hc, f, o1, hr, f, o, e1, e2⟩
      · rw [if_neg hc] at e1
        cases e1
  · rintro ⟨hc, f1, o1, e1, f2, o, e2, e3⟩
    refine ⟨max f1 f2 + 1, o, ?_, e3⟩
    rw [krun, h]
    dsimp only
    rw [h1, h2, List.reverse_reverse, if_pos hc, krun_mono e1 (Nat.le_max_left f1 f2)]
    exact krun_mono e2 (Nat.le_max_right f1 f2)
theorem kE_ret {m pc c : Nat} (h : kprog m pc = some (.inr (.inr c))) {ls st : List Value} {M : KMem} {Q : Option Value → KMem → Prop} {o : Option Value × KMem} (hr : kret c st M = some o) : kE m pc ls st M Q = Q o.1 o.2 := by
  apply propext
  constructor
  · rintro ⟨f, o1, e1, e2⟩
    cases f with
    | zero => simp [krun] at e1
    | succ f =>
      rw [krun, h] at e1
      dsimp only at e1
      rw [hr] at e1
      cases e1
      exact e2
  · intro hq
    refine ⟨1, o, ?_, hq⟩
    rw [krun, h]
    exact hr
theorem kE_retz {m pc : Nat} (h : kprog m pc = some (.inr (.inr 2))) {ls : List Value} {v : Int32} {M : KMem} {Q : Option Value → KMem → Prop} : kE m pc ls [.int v] M Q = ((v = 0 ∨ v = 1) ∧ Q (some (.int v)) M) := by
  by_cases hv : v = 0 ∨ v = 1
  · rw [kE_ret (o := (some (.int v), M)) h (by show (if v = 0 ∨ v = 1 then some (some (Value.int v), M) else none) = _; rw [if_pos hv])]
    exact propext ⟨fun x => ⟨hv, x⟩, fun x => x.2⟩
  · apply propext
    constructor
    · rintro ⟨f, o1, e1, e2⟩
      cases f with
      | zero => simp [krun] at e1
      | succ f =>
        rw [krun, h] at e1
        dsimp only [kret] at e1
        rw [if_neg hv] at e1
        cases e1
    · exact fun x => absurd x.1 hv
theorem kcat_nil : kcat [] = 0 := rfl
theorem kcat_int (x : Int32) (r : List Value) : kcat (.int x :: r) = 1 + kcat r := by simp [kcat, Value.category]
theorem kcat_long (x : Int64) (r : List Value) : kcat (.long x :: r) = 2 + kcat r := by simp [kcat, Value.category]
theorem kcat_ref (x : Nat) (r : List Value) : kcat (.ref x :: r) = 1 + kcat r := by simp [kcat, Value.category]
theorem kNL_int (x : Int32) : kNL (.int x) = true := rfl
theorem kNL_ref (x : Nat) : kNL (.ref x) = true := rfl
theorem kNL_null : kNL .null = true := rfl
theorem kcallS {m : Nat} {as rest : List Value} (hs : kstat m = true) (hn : as.all kNL = true) (hl : (decide (as.length ≤ kml m) && Nat.beq as.length (kna m)) = true) : (kcall m as rest = true) = (kcat rest ≤ 8) := by
  unfold kcall
  rw [hs, hn, hl]
  simp
theorem kcallV {m c k : Nat} {as rest : List Value} (hs : kstat m = false) (hc : kcls m = c) (hn : (Value.ref k :: as).all kNL = true) (hl : (decide ((Value.ref k :: as).length ≤ kml m) && Nat.beq (Value.ref k :: as).length (kna m)) = true) : (kcall m (.ref k :: as) rest = true) = (kcat rest ≤ 8 ∧ kd k = c) := by
  unfold kcall krecv
  rw [hs, hn, hl, hc]
  simp
theorem kE_tsw {m pc df : Nat} {hi : Int} {tg : List Nat} (h : kprog m pc = some (.inl (g_tsw hi tg df))) {ls st : List Value} {x : Int32} {M : KMem} {Q : Option Value → KMem → Prop} : kE m pc ls (.int x :: st) M Q = kE m (if x.toInt < 0 ∨ hi < x.toInt then df else tg.getD x.toInt.toNat df) ls st M Q := kE_step h rfl
theorem k_neI {x k : Int32} {a : Int} (h : ¬ x = k) (hk : k.toInt = a) : ¬ x.toInt = a := fun q => h (Int32.toInt_inj.mp (by rw [hk]; exact q))
theorem kE_lsw2 {m pc ta tb df : Nat} {a b : Int32} (h : kprog m pc = some (.inl (g_lsw2 a b ta tb df))) {ls st : List Value} {x : Int32} {M : KMem} {Q : Option Value → KMem → Prop} : kE m pc ls (.int x :: st) M Q = if x = a then kE m ta ls st M Q else if x = b then kE m tb ls st M Q else kE m df ls st M Q := by
  rw [kE_step (pc' := if x = a then ta else if x = b then tb else df) (ls' := ls) (st' := st) (M' := M) h rfl]
  by_cases h1 : x = a
  · simp only [if_pos h1]
  · by_cases h2 : x = b
    · simp only [if_neg h1, if_pos h2]
    · simp only [if_neg h1, if_neg h2]
theorem kE_tsw4 {m pc df t0 t1 t2 t3 : Nat} (h : kprog m pc = some (.inl (g_tsw 3 [t0, t1, t2, t3] df))) {ls st : List Value} {x : Int32} {M : KMem} {Q : Option Value → KMem → Prop} : kE m pc ls (.int x :: st) M Q = (if x = 0 then kE m t0 ls st M Q else if x = 1 then kE m t1 ls st M Q else if x = 2 then kE m t2 ls st M Q else if x = 3 then kE m t3 ls st M Q else kE m df ls st M Q) := by
  rw [kE_tsw h]
  by_cases h0 : x = 0
  · subst h0; rfl
  rw [if_neg h0]
  by_cases h1 : x = 1
  · subst h1; rfl
  rw [if_neg h1]
  by_cases h2 : x = 2
  · subst h2; rfl
  rw [if_neg h2]
  by_cases h3 : x = 3
  · subst h3; rfl
  rw [if_neg h3]
  have q : x.toInt < 0 ∨ (3 : Int) < x.toInt := by
    have a0 := k_neI h0 (show (0 : Int32).toInt = 0 from rfl)
    have a1 := k_neI h1 (show (1 : Int32).toInt = 1 from rfl)
    have a2 := k_neI h2 (show (2 : Int32).toInt = 2 from rfl)
    have a3 := k_neI h3 (show (3 : Int32).toInt = 3 from rfl)
    omega
  rw [if_pos q]
theorem kE_tsw5 {m pc df t0 t1 t2 t3 t4 : Nat} (h : kprog m pc = some (.inl (g_tsw 4 [t0, t1, t2, t3, t4] df))) {ls st : List Value} {x : Int32} {M : KMem} {Q : Option Value → KMem → Prop} : kE m pc ls (.int x :: st) M Q = (if x = 0 then kE m t0 ls st M Q else if x = 1 then kE m t1 ls st M Q else if x = 2 then kE m t2 ls st M Q else if x = 3 then kE m t3 ls st M Q else if x = 4 then kE m t4 ls st M Q else kE m df ls st M Q) := by
  rw [kE_tsw h]
  by_cases h0 : x = 0
  · subst h0; rfl
  rw [if_neg h0]
  by_cases h1 : x = 1
  · subst h1; rfl
  rw [if_neg h1]
  by_cases h2 : x = 2
  · subst h2; rfl
  rw [if_neg h2]
  by_cases h3 : x = 3
  · subst h3; rfl
  rw [if_neg h3]
  by_cases h4 : x = 4
  · subst h4; rfl
  rw [if_neg h4]
  have q : x.toInt < 0 ∨ (4 : Int) < x.toInt := by
    have a0 := k_neI h0 (show (0 : Int32).toInt = 0 from rfl)
    have a1 := k_neI h1 (show (1 : Int32).toInt = 1 from rfl)
    have a2 := k_neI h2 (show (2 : Int32).toInt = 2 from rfl)
    have a3 := k_neI h3 (show (3 : Int32).toInt = 3 from rfl)
    have a4 := k_neI h4 (show (4 : Int32).toInt = 4 from rfl)
    omega
  rw [if_pos q]
theorem kE_tsw10 {m pc df t0 t1 t2 t3 t4 t5 t6 t7 t8 t9 : Nat} (h : kprog m pc = some (.inl (g_tsw 9 [t0, t1, t2, t3, t4, t5, t6, t7, t8, t9] df))) {ls st : List Value} {x : Int32} {M : KMem} {Q : Option Value → KMem → Prop} : kE m pc ls (.int x :: st) M Q = (if x = 0 then kE m t0 ls st M Q else if x = 1 then kE m t1 ls st M Q else if x = 2 then kE m t2 ls st M Q else if x = 3 then kE m t3 ls st M Q else if x = 4 then kE m t4 ls st M Q else if x = 5 then kE m t5 ls st M Q else if x = 6 then kE m t6 ls st M Q else if x = 7 then kE m t7 ls st M Q else if x = 8 then kE m t8 ls st M Q else if x = 9 then kE m t9 ls st M Q else kE m df ls st M Q) := by
  rw [kE_tsw h]
  by_cases h0 : x = 0
  · subst h0; rfl
  rw [if_neg h0]
  by_cases h1 : x = 1
  · subst h1; rfl
  rw [if_neg h1]
  by_cases h2 : x = 2
  · subst h2; rfl
  rw [if_neg h2]
  by_cases h3 : x = 3
  · subst h3; rfl
  rw [if_neg h3]
  by_cases h4 : x = 4
  · subst h4; rfl
  rw [if_neg h4]
  by_cases h5 : x = 5
  · subst h5; rfl
  rw [if_neg h5]
  by_cases h6 : x = 6
  · subst h6; rfl
  rw [if_neg h6]
  by_cases h7 : x = 7
  · subst h7; rfl
  rw [if_neg h7]
  by_cases h8 : x = 8
  · subst h8; rfl
  rw [if_neg h8]
  by_cases h9 : x = 9
  · subst h9; rfl
  rw [if_neg h9]
  have q : x.toInt < 0 ∨ (9 : Int) < x.toInt := by
    have a0 := k_neI h0 (show (0 : Int32).toInt = 0 from rfl)
    have a1 := k_neI h1 (show (1 : Int32).toInt = 1 from rfl)
    have a2 := k_neI h2 (show (2 : Int32).toInt = 2 from rfl)
    have a3 := k_neI h3 (show (3 : Int32).toInt = 3 from rfl)
    have a4 := k_neI h4 (show (4 : Int32).toInt = 4 from rfl)
    have a5 := k_neI h5 (show (5 : Int32).toInt = 5 from rfl)
    have a6 := k_neI h6 (show (6 : Int32).toInt = 6 from rfl)
    have a7 := k_neI h7 (show (7 : Int32).toInt = 7 from rfl)
    have a8 := k_neI h8 (show (8 : Int32).toInt = 8 from rfl)
    have a9 := k_neI h9 (show (9 : Int32).toInt = 9 from rfl)
    omega
  rw [if_pos q]
end
section
/-! THE MACHINE DOES WHAT THE SMALL MACHINE DOES. G: the cells' addresses, the classes' ids and slots, the array classes' ids, the addresses that the methods may write -/
abbrev KG : Type := (Nat → Nat) × (Nat → ClassId) × (Nat → Nat → Nat) × (Nat → ClassId) × (Nat → Prop)
def conc (ad : Nat → Nat) (v : Value) : Value := match v with
  | .ref k => .ref (ad k)
  | v => v
def kfs (ad : Nat → Nat) (k : Nat) (f : Nat → Int32) : List Value := (List.range (knF (kd k))).map (fun j => if kisR (kd k) j = true then Value.ref (ad (rf k j)) else .int (f j))
def kentr (G : KG) (k : Nat) (f : Nat → Int32) : va_E :=
  if kd k < 5 then .inr (kd k, kfs G.1 k f)
  else if kd k < 9 then .inl (G.2.2.2.1 (kd k), ln k, .inl f)
  else .inl (G.2.2.2.1 (kd k), ln k, .inr (.inr (.inr (.inr (fun j => some (G.1 (rf k j)))))))
def kw (G : KG) (M : KMem) : va_W := (List.range 172).map (fun k => (G.1 k, kentr G k (M k)))
def kRep (G : KG) (M : KMem) (H : Heap) : Prop := va_P (G.2.1, G.2.2.1) vwCl (kw G M) H
def kOK (G : KG) : Prop := (∀ i j, i < 172 → j < 172 → G.1 i = G.1 j → i = j) ∧ ∀ k, k < 172 → G.2.2.2.2 (G.1 k)
def ktys (G : KG) : List (ClassId × FieldType) := [(G.2.2.2.1 5, .int), (G.2.2.2.1 6, .char), (G.2.2.2.1 7, .boolean), (G.2.2.2.1 8, .byte), (G.2.2.2.1 9, .object RX2), (G.2.2.2.1 10, .object RX1)]
def kK (G : KG) (U : State) : Prop := va_K (G.2.1, G.2.2.1) vwCl (ktys G) U ∧ ∀ q ∈ knestD, va_Nw (.methodLinkNest q.1 q.2.1 q.2.2.1 q.2.2.2) U
theorem kK.warm {G : KG} {s U : State} (h : kK G s) (hW : s.WarmedH U.vm) : kK G U := ⟨va_K.moved hW.alike h.1, fun q hq => va_Nw.warmM hW (h.2 q hq)⟩
def kgT : List Cond := lw_tbl.filter goodWord
theorem kg_mem {w : Cond} (i : Nat) (h : lw_tbl[i]? = some w) (hg : goodWord w = true) : w ∈ kgT := List.mem_filter.mpr ⟨List.mem_of_getElem? h, hg⟩
def kws (m : Nat) : List Cond := .code (ky m) (kcode m) (kml m) (kretT m) :: kgT
def krm (m : Nat) : Room := { frames := krf m, cells := 0, slots := 0, locals := krl m }
theorem kg_good {m : Nat} {w : Cond} (h : w ∈ kgT) : w ∈ kws m ∧ ((w.onTables && w.keeps) = true ∨ ∃ ty, w = .arrayClass ty) := ⟨List.mem_cons_of_mem _ h, good_of_word (List.mem_filter.mp h).2⟩
def kCx (G : KG) (m : Nat) (p : Program) (s : State) (mid : MethodId) (meth : Method) (c : Code) (args : Array Value) : Prop :=
  p.tables.exec = Jvm.exec ∧ c.code = kcode m ∧ c.maxLocals = kml m ∧ meth.sig.returnType = kretT m ∧ s.vm.findClass (kown m) = some mid.cls ∧ (∀ w ∈ kws m, w.before args s = true) ∧ meth.locks = false ∧ kK G s
theorem kCx.word {G : KG} {m : Nat} {p : Program} {s : State} {mid : MethodId} {meth : Method} {c : Code} {args : Array Value} (cx : kCx G m p s mid meth c args) {w : Cond} (h : w ∈ kgT) : w.before args s = true := cx.2.2.2.2.2.1 w (List.mem_cons_of_mem _ h)
/-! locals -/
def kL (G : KG) (n : Nat) (ls : List Value) (la : Array Slot) : Prop := ls.length = n ∧ la.size = n ∧ lv_wf la ∧ ∀ (i : Nat) (v : Value), ls[i]? = some v → v ≠ .null → la[i]? = some (.val (conc G.1 v))
def kp (ad : Nat → Nat) (ls : List Value) : List (Nat × Value) := (List.range ls.length).filterMap (fun i => match ls[i]? with
  | some Value.null => none
  | some v => some (i, conc ad v)
  | none => none)
theorem kp_mem {ad : Nat → Nat} {ls : List Value} {i : Nat} {v : Value} (h : ls[i]? = some v) (hv : v ≠ .null) : (i, conc ad v) ∈ kp ad ls := by
  refine List.mem_filterMap.mpr ⟨i, List.mem_range.mpr (List.getElem?_eq_some_iff.mp h).1, ?_⟩
  rw [h]
  cases v <;> first | rfl | exact absurd rfl hv
theorem kp_of {ad : Nat → Nat} {ls : List Value} {q : Nat × Value} (h : q ∈ kp ad ls) : ∃ v, ls[q.1]? = some v ∧ v ≠ .null ∧ q.2 = conc ad v := by
  obtain ⟨i, -, hi⟩ := List.mem_filterMap.mp h
  cases hx : ls[i]? with
  | none => rw [hx] at hi; cases hi
  | some v =>
    rw [hx] at hi
    cases v <;> first | (cases hi; done) | (cases hi; exact ⟨_, hx, (by intro z; cases z), rfl⟩)
theorem kL.has {G : KG} {n : Nat} {ls : List Value} {la : Array Slot} (h : kL G n ls la) : lv_has la n (kp G.1 ls) := by
  refine ⟨h.2.1, h.2.2.1, fun q hq => ?_⟩
  obtain ⟨v, h1, h2, h3⟩ := kp_of hq
  rw [h3]
  exact h.2.2.2 _ _ h1 h2
theorem conc_cat (ad : Nat → Nat) (v : Value) : (conc ad v).category = v.category := by cases v <;> rfl
theorem kNL_cat {v : Value} : kNL v = true ↔ v.category = 1 := by cases v <;> simp [kNL, Value.category]
theorem knl_use {ls : List Value} {i j : Nat} {v : Value} (h : knl ls i = true) (hj : j + 1 = i) (hv : ls[j]? = some v) : v.category = 1 := by
  subst hj
  simp only [knl, List.getD_eq_getElem?_getD, hv, Option.getD_some] at h
  exact kNL_cat.mp h
theorem kL.store {G : KG} {n i : Nat} {ls : List Value} {la la' : Array Slot} {x : Value} (hL : kL G n ls la) (hk : knl ls i = true) (hi : i < n)
    (h : lv_has la' n ((i, conc G.1 x) :: (kp G.1 ls).filter (fun q => !(q.1 == i) && !(q.1 + 1 == i && q.2.category == 2)))) : kL G n (ls.set i x) la' := by
  refine ⟨by rw [List.length_set]; exact hL.1, h.1, h.2.1, fun j v hj hv => ?_⟩
  by_cases hji : j = i
  · subst hji
    rw [List.getElem?_set_self (by rw [hL.1]; exact hi)] at hj
    cases hj
    exact h.2.2 _ List.mem_cons_self
  · rw [List.getElem?_set_ne (fun q => hji q.symm)] at hj
    refine h.2.2 (j, conc G.1 v) (List.mem_cons_of_mem _ (List.mem_filter.mpr ⟨kp_mem hj hv, ?_⟩))
    simp only [Bool.and_eq_true, Bool.not_eq_true', beq_eq_false_iff_ne, ne_eq, Bool.and_eq_false_iff]
    refine ⟨hji, ?_⟩
    by_cases q : j + 1 = i
    · right
      rw [conc_cat, knl_use hk q hj]
      decide
    · left
      exact q
theorem kL.store2 {G : KG} {n i : Nat} {ls : List Value} {la la' : Array Slot} {x : Value} (hL : kL G n ls la) (hk : knl ls i = true) (hi : i + 1 < n)
    (h : lv_has la' n ((i, conc G.1 x) :: (kp G.1 ls).filter (fun q => !(q.1 == i) && (!(q.1 == i + 1) && !(q.1 + 1 == i && q.2.category == 2))))) : kL G n ((ls.set i x).set (i + 1) .null) la' := by
  refine ⟨by rw [List.length_set, List.length_set]; exact hL.1, h.1, h.2.1, fun j v hj hv => ?_⟩
  by_cases hji1 : j = i + 1
  · subst hji1
    rw [List.getElem?_set_self (by rw [List.length_set, hL.1]; exact hi)] at hj
    cases hj
    exact absurd rfl hv
  rw [List.getElem?_set_ne (fun q => hji1 q.symm)] at hj
  by_cases hji : j = i
  · subst hji
    rw [List.getElem?_set_self (by rw [hL.1]; omega)] at hj
    cases hj
    exact h.2.2 _ List.mem_cons_self
  · rw [List.getElem?_set_ne (fun q => hji q.symm)] at hj
    refine h.2.2 (j, conc G.1 v) (List.mem_cons_of_mem _ (List.mem_filter.mpr ⟨kp_mem hj hv, ?_⟩))
    simp only [Bool.and_eq_true, Bool.not_eq_true', beq_eq_false_iff_ne, ne_eq, Bool.and_eq_false_iff]
    refine ⟨hji, hji1, ?_⟩
    by_cases q : j + 1 = i
    · right
      rw [conc_cat, knl_use hk q hj]
      decide
    · left
      exact q
/-! the world's cells -/
theorem kd_lt {k : Nat} (h : kd k < 99) : k < 172 := by
  unfold kd at h
  rcases Nat.lt_or_ge k 172 with q | q
  · exact q
  · exfalso
    rw [if_neg (by omega), if_neg (by omega), if_neg (by omega), if_neg (by omega), if_neg (by omega), if_neg (by omega), if_neg (by omega), if_neg (by omega), if_neg (by omega), if_neg (by omega)] at h
    omega
theorem kw_get {G : KG} {M : KMem} {k : Nat} (h : k < 172) : (kw G M)[k]? = some (G.1 k, kentr G k (M k)) := by
  simp [kw, h]
theorem kw_set {G : KG} {M : KMem} {k j : Nat} {v : Int32} (h : k < 172) {e : va_E} (he : e = kentr G k (upd (M k) j v)) : (kw G M).set k (G.1 k, e) = kw G (mset M k j v) := by
  subst he
  apply List.ext_getElem?
  intro i
  by_cases hi : i = k
  · subst hi
    rw [List.getElem?_set_self (by simpa [kw] using h), kw_get h, mset_row]
  · rw [List.getElem?_set_ne (fun q => hi q.symm)]
    by_cases h2 : i < 172
    · rw [kw_get h2, kw_get h2, mset_off hi]
    · simp [kw, h2]
theorem kw_setRow {G : KG} {M : KMem} {k : Nat} {f : Nat → Int32} (h : k < 172) {e : va_E} (he : e = kentr G k f) : (kw G M).set k (G.1 k, e) = kw G (fun c => if c = k then f else M c) := by
  subst he
  apply List.ext_getElem?
  intro i
  by_cases hi : i = k
  · subst hi
    rw [List.getElem?_set_self (by simpa [kw] using h), kw_get h]
    simp
  · rw [List.getElem?_set_ne (fun q => hi q.symm)]
    by_cases h2 : i < 172
    · rw [kw_get h2, kw_get h2]
      simp [hi]
    · simp [kw, h2]
theorem kw_D {G : KG} {M : KMem} (hG : kOK G) : va_D G.2.2.2.2 (kw G M) := by
  have lt : ∀ {i : Nat} {p : Nat × va_E}, (kw G M)[i]? = some p → i < 172 := fun h => by
    have := (List.getElem?_eq_some_iff.mp h).1
    simpa [kw] using this
  refine ⟨fun i j p q hi hj e => ?_, fun k q hk => ?_⟩
  · have h1 := lt hi
    have h2 := lt hj
    rw [kw_get h1] at hi
    rw [kw_get h2] at hj
    cases hi
    cases hj
    exact hG.1 i j h1 h2 e
  · have h1 := lt hk
    rw [kw_get h1] at hk
    cases hk
    exact hG.2 k h1
theorem kentr_obj {G : KG} {k c : Nat} (h : kd k = c) (hc : c < 5) (f : Nat → Int32) : kentr G k f = .inr (c, kfs G.1 k f) := by
  unfold kentr
  rw [if_pos (by omega), h]
theorem kentr_arr {G : KG} {k c : Nat} (h : kd k = c) (h5 : 5 ≤ c) (h9 : c < 9) (f : Nat → Int32) : kentr G k f = .inl (G.2.2.2.1 c, ln k, .inl f) := by
  unfold kentr
  rw [if_neg (by omega), if_pos (by omega), h]
theorem kentr_ref {G : KG} {k c : Nat} (h : kd k = c) (h9 : 9 ≤ c) (f : Nat → Int32) : kentr G k f = .inl (G.2.2.2.1 c, ln k, .inr (.inr (.inr (.inr (fun j => some (G.1 (rf k j))))))) := by
  unfold kentr
  rw [if_neg (by omega), if_neg (by omega), h]
theorem kfs_get {ad : Nat → Nat} {k c j : Nat} (h : kd k = c) (hj : j < knF c) (f : Nat → Int32) : (kfs ad k f)[j]? = some (if kisR c j = true then Value.ref (ad (rf k j)) else .int (f j)) := by
  simp [kfs, h, hj]
theorem kfs_len {ad : Nat → Nat} {k c : Nat} (h : kd k = c) (f : Nat → Int32) : (kfs ad k f).length = knF c := by simp [kfs, h]
theorem kfs_set {ad : Nat → Nat} {k c j : Nat} (h : kd k = c) (hj : j < knF c) (hr : kisR c j = false) (f : Nat → Int32) (v : Int32) : (kfs ad k f).set j (.int v) = kfs ad k (upd f j v) := by
  apply List.ext_getElem?
  intro i
  by_cases hi : i = j
  · subst hi
    rw [List.getElem?_set_self (by rw [kfs_len h]; exact hj), kfs_get h hj, hr]
    simp [upd]
  · rw [List.getElem?_set_ne (fun q => hi q.symm)]
    by_cases h2 : i < knF c
    · rw [kfs_get h h2, kfs_get h h2]
      have : upd f j v i = f i := if_neg hi
      rw [this]
    · simp [kfs, h, h2]
theorem kin_in {i : Int32} {n : Nat} (h : kin i n = true) : vp_in i n := by
  simp only [kin, Bool.and_eq_true, decide_eq_true_eq] at h
  intro q
  rcases q with q | q
  · exact h.1 q
  · omega
end
section
def kSnd (l : Launch) (G : KG) (m pc : Nat) (g : KF) : Prop := kOK G → ∀ (p : Program) (e : Env) (s : State) (mid : MethodId) (args : Array Value) (below : List Frame) (meth : Method) (c : Code) (Q : State → Prop), kCx G m p s mid meth c args →
  ∀ (ls st : List Value) (M : KMem) (pc' : Nat) (ls' st' : List Value) (M' : KMem), g ls st M = some (pc', ls', st', M') → ∀ (H : Heap) (locs : List Loc) (la : Array Slot), kRep G M H → va_S G.2.2.2.2 s.heap H locs → kL G (kml m) ls la →
  (∀ (H' : Heap) (locs' : List Loc) (la' : Array Slot), kRep G M' H' → va_S G.2.2.2.2 s.heap H' locs' → kL G (kml m) ls' la' → W p l e (krm m) s mid args below meth c H' locs' 0 0 Q (F0 mid pc' la' (st'.map (conc G.1)))) →
  W p l e (krm m) s mid args below meth c H locs 0 0 Q (F0 mid pc la (st.map (conc G.1)))
theorem snd_iconst {l : Launch} {G : KG} {m pc : Nat} {n : Int} {v : Int32} (hd : decode (kcode m) pc = .ok (.iconst n, 1)) (hv : Int32.ofInt n = v) : kSnd l G m pc (g_push v (pc + 1)) := by
  intro hG p e s mid args below meth cd Q cx ls st M pc' ls' st' M' hg H locs la hR hS hL kk
  cases hg
  exact lv_iconst cx.1 cx.2.1 hd hv (kk H locs la hR hS hL)
theorem snd_bipush {l : Launch} {G : KG} {m pc : Nat} {n : Int} {v : Int32} (hd : decode (kcode m) pc = .ok (.bipush n, 2)) (hv : (Int8.ofInt n).toInt32 = v) : kSnd l G m pc (g_push v (pc + 2)) := by
  intro hG p e s mid args below meth cd Q cx ls st M pc' ls' st' M' hg H locs la hR hS hL kk
  cases hg
  exact lv_bipush cx.1 cx.2.1 hd hv (kk H locs la hR hS hL)
theorem snd_sipush {l : Launch} {G : KG} {m pc : Nat} {n : Int} {v : Int32} (hd : decode (kcode m) pc = .ok (.sipush n, 3)) (hv : (Int16.ofInt n).toInt32 = v) : kSnd l G m pc (g_push v (pc + 3)) := by
  intro hG p e s mid args below meth cd Q cx ls st M pc' ls' st' M' hg H locs la hR hS hL kk
  cases hg
  exact lv_sipush cx.1 cx.2.1 hd hv (kk H locs la hR hS hL)
theorem snd_ldc {l : Launch} {G : KG} {m pc : Nat} {idx : Nat} {v : Int32} (hd : decode (kcode m) pc = .ok (.ldc idx, 2)) (hv : Cond.constant (kown m) idx v ∈ kgT) : kSnd l G m pc (g_push v (pc + 2)) := by
  intro hG p e s mid args below meth cd Q cx ls st M pc' ls' st' M' hg H locs la hR hS hL kk
  cases hg
  exact lv_ldc cx.1 cx.2.1 cx.2.2.2.2.1 (cx.word hv) hd (kk H locs la hR hS hL)
theorem snd_ldc2 {l : Launch} {G : KG} {m pc : Nat} {idx : Nat} {v : Int64} (hd : decode (kcode m) pc = .ok (.ldc2_w idx, 3)) (hv : Cond.constantLong (kown m) idx v ∈ kgT) : kSnd l G m pc (g_pushl v (pc + 3)) := by
  intro hG p e s mid args below meth cd Q cx ls st M pc' ls' st' M' hg H locs la hR hS hL kk
  cases hg
  exact lv_ldc2 cx.1 cx.2.1 cx.2.2.2.2.1 (cx.word hv) hd (kk H locs la hR hS hL)
theorem snd_lconst {l : Launch} {G : KG} {m pc : Nat} {n : Fin 2} {v : Int64} (hd : decode (kcode m) pc = .ok (.lconst n, 1)) (hv : Int64.ofNat (n : Nat) = v) : kSnd l G m pc (g_pushl v (pc + 1)) := by
  intro hG p e s mid args below meth cd Q cx ls st M pc' ls' st' M' hg H locs la hR hS hL kk
  cases hg
  exact lv_lconst cx.1 cx.2.1 hd hv (kk H locs la hR hS hL)
theorem snd_iload {l : Launch} {G : KG} {m pc : Nat} {i : Nat} (hd : decode (kcode m) pc = .ok (.iload i, 2)) : kSnd l G m pc (g_ild i (pc + 2)) := by
  intro hG p e s mid args below meth cd Q cx ls st M pc' ls' st' M' hg H locs la hR hS hL kk
  unfold g_ild at hg
  split at hg
  · rename_i x hx
    cases hg
    exact lv_iload cx.1 cx.2.1 hd (hL.2.2.2 i (.int x) hx (by intro z; cases z)) (kk H locs la hR hS hL)
  · cases hg
theorem snd_iload_n {l : Launch} {G : KG} {m pc : Nat} {k : Fin 4} {i : Nat} (hd : decode (kcode m) pc = .ok (.iload_n k, 1)) (hi : (k : Nat) = i) : kSnd l G m pc (g_ild i (pc + 1)) := by
  intro hG p e s mid args below meth cd Q cx ls st M pc' ls' st' M' hg H locs la hR hS hL kk
  unfold g_ild at hg
  split at hg
  · rename_i x hx
    cases hg
    exact lv_iload_n cx.1 cx.2.1 hd hi (hL.2.2.2 i (.int x) hx (by intro z; cases z)) (kk H locs la hR hS hL)
  · cases hg
theorem snd_aload {l : Launch} {G : KG} {m pc : Nat} {i : Nat} (hd : decode (kcode m) pc = .ok (.aload i, 2)) : kSnd l G m pc (g_ald i (pc + 2)) := by
  intro hG p e s mid args below meth cd Q cx ls st M pc' ls' st' M' hg H locs la hR hS hL kk
  unfold g_ald at hg
  split at hg
  · rename_i x hx
    cases hg
    exact lv_aload cx.1 cx.2.1 hd (hL.2.2.2 i (.ref x) hx (by intro z; cases z)) (kk H locs la hR hS hL)
  · cases hg
theorem snd_aload_n {l : Launch} {G : KG} {m pc : Nat} {k : Fin 4} {i : Nat} (hd : decode (kcode m) pc = .ok (.aload_n k, 1)) (hi : (k : Nat) = i) : kSnd l G m pc (g_ald i (pc + 1)) := by
  intro hG p e s mid args below meth cd Q cx ls st M pc' ls' st' M' hg H locs la hR hS hL kk
  unfold g_ald at hg
  split at hg
  · rename_i x hx
    cases hg
    exact lv_aload_n cx.1 cx.2.1 hd hi (hL.2.2.2 i (.ref x) hx (by intro z; cases z)) (kk H locs la hR hS hL)
  · cases hg
theorem snd_lload {l : Launch} {G : KG} {m pc : Nat} {i : Nat} (hd : decode (kcode m) pc = .ok (.lload i, 2)) : kSnd l G m pc (g_lld i (pc + 2)) := by
  intro hG p e s mid args below meth cd Q cx ls st M pc' ls' st' M' hg H locs la hR hS hL kk
  unfold g_lld at hg
  split at hg
  · rename_i x hx
    cases hg
    exact lv_lload cx.1 cx.2.1 hd (hL.2.2.2 i (.long x) hx (by intro z; cases z)) (kk H locs la hR hS hL)
  · cases hg
theorem snd_lload_n {l : Launch} {G : KG} {m pc : Nat} {k : Fin 4} {i : Nat} (hd : decode (kcode m) pc = .ok (.lload_n k, 1)) (hi : (k : Nat) = i) : kSnd l G m pc (g_lld i (pc + 1)) := by
  intro hG p e s mid args below meth cd Q cx ls st M pc' ls' st' M' hg H locs la hR hS hL kk
  unfold g_lld at hg
  split at hg
  · rename_i x hx
    cases hg
    exact lv_lload_n cx.1 cx.2.1 hd hi (hL.2.2.2 i (.long x) hx (by intro z; cases z)) (kk H locs la hR hS hL)
  · cases hg
theorem snd_istore {l : Launch} {G : KG} {m pc : Nat} {i : Nat} (hd : decode (kcode m) pc = .ok (.istore i, 2)) : kSnd l G m pc (g_ist i (pc + 2)) := by
  intro hG p e s mid args below meth cd Q cx ls st M pc' ls' st' M' hg H locs la hR hS hL kk
  unfold g_ist at hg
  split at hg
  · rename_i x r
    split at hg
    · rename_i hc
      simp only [Bool.and_eq_true, decide_eq_true_eq] at hc
      cases hg
      exact lv_istore cx.1 cx.2.1 hd hL.has (by rw [← hL.1]; exact hc.1) rfl (fun la' h' => kk H locs la' hR hS (hL.store hc.2 (by rw [← hL.1]; exact hc.1) h'))
    · cases hg
  · cases hg
theorem snd_istore_n {l : Launch} {G : KG} {m pc : Nat} {k : Fin 4} {i : Nat} (hd : decode (kcode m) pc = .ok (.istore_n k, 1)) (hi : (k : Nat) = i) : kSnd l G m pc (g_ist i (pc + 1)) := by
  intro hG p e s mid args below meth cd Q cx ls st M pc' ls' st' M' hg H locs la hR hS hL kk
  unfold g_ist at hg
  split at hg
  · rename_i x r
    split at hg
    · rename_i hc
      simp only [Bool.and_eq_true, decide_eq_true_eq] at hc
      cases hg
      exact lv_istore_n cx.1 cx.2.1 hd hi hL.has (by rw [← hL.1]; exact hc.1) rfl (fun la' h' => kk H locs la' hR hS (hL.store hc.2 (by rw [← hL.1]; exact hc.1) h'))
    · cases hg
  · cases hg
theorem snd_astore {l : Launch} {G : KG} {m pc : Nat} {i : Nat} (hd : decode (kcode m) pc = .ok (.astore i, 2)) : kSnd l G m pc (g_ast i (pc + 2)) := by
  intro hG p e s mid args below meth cd Q cx ls st M pc' ls' st' M' hg H locs la hR hS hL kk
  unfold g_ast at hg
  split at hg
  · rename_i x r
    split at hg
    · rename_i hc
      simp only [Bool.and_eq_true, decide_eq_true_eq] at hc
      cases hg
      exact lv_astore cx.1 cx.2.1 hd hL.has (by rw [← hL.1]; exact hc.1) rfl (fun la' h' => kk H locs la' hR hS (hL.store hc.2 (by rw [← hL.1]; exact hc.1) h'))
    · cases hg
  · cases hg
theorem snd_astore_n {l : Launch} {G : KG} {m pc : Nat} {k : Fin 4} {i : Nat} (hd : decode (kcode m) pc = .ok (.astore_n k, 1)) (hi : (k : Nat) = i) : kSnd l G m pc (g_ast i (pc + 1)) := by
  intro hG p e s mid args below meth cd Q cx ls st M pc' ls' st' M' hg H locs la hR hS hL kk
  unfold g_ast at hg
  split at hg
  · rename_i x r
    split at hg
    · rename_i hc
      simp only [Bool.and_eq_true, decide_eq_true_eq] at hc
      cases hg
      exact lv_astore_n cx.1 cx.2.1 hd hi hL.has (by rw [← hL.1]; exact hc.1) rfl (fun la' h' => kk H locs la' hR hS (hL.store hc.2 (by rw [← hL.1]; exact hc.1) h'))
    · cases hg
  · cases hg
theorem snd_lstore {l : Launch} {G : KG} {m pc : Nat} {i : Nat} (hd : decode (kcode m) pc = .ok (.lstore i, 2)) : kSnd l G m pc (g_lst i (pc + 2)) := by
  intro hG p e s mid args below meth cd Q cx ls st M pc' ls' st' M' hg H locs la hR hS hL kk
  unfold g_lst at hg
  split at hg
  · rename_i x r
    split at hg
    · rename_i hc
      simp only [Bool.and_eq_true, decide_eq_true_eq] at hc
      cases hg
      exact lv_lstore cx.1 cx.2.1 hd hL.has (by rw [← hL.1]; exact hc.1) rfl (fun la' h' => kk H locs la' hR hS (hL.store2 hc.2 (by rw [← hL.1]; exact hc.1) h'))
    · cases hg
  · cases hg
theorem snd_lstore_n {l : Launch} {G : KG} {m pc : Nat} {k : Fin 4} {i : Nat} (hd : decode (kcode m) pc = .ok (.lstore_n k, 1)) (hi : (k : Nat) = i) : kSnd l G m pc (g_lst i (pc + 1)) := by
  intro hG p e s mid args below meth cd Q cx ls st M pc' ls' st' M' hg H locs la hR hS hL kk
  unfold g_lst at hg
  split at hg
  · rename_i x r
    split at hg
    · rename_i hc
      simp only [Bool.and_eq_true, decide_eq_true_eq] at hc
      cases hg
      exact lv_lstore_n cx.1 cx.2.1 hd hi hL.has (by rw [← hL.1]; exact hc.1) rfl (fun la' h' => kk H locs la' hR hS (hL.store2 hc.2 (by rw [← hL.1]; exact hc.1) h'))
    · cases hg
  · cases hg
theorem snd_iinc {l : Launch} {G : KG} {m pc : Nat} {i : Nat} {n : Int} {v : Int32} (hd : decode (kcode m) pc = .ok (.iinc i n, 3)) (hv : Int32.ofInt n = v) : kSnd l G m pc (g_iinc i v (pc + 3)) := by
  intro hG p e s mid args below meth cd Q cx ls st M pc' ls' st' M' hg H locs la hR hS hL kk
  unfold g_iinc at hg
  split at hg
  · rename_i x hx
    split at hg
    · rename_i hc
      cases hg
      subst hv
      obtain ⟨k, hk⟩ := List.getElem?_of_mem (kp_mem (ad := G.1) hx (by intro z; cases z))
      have hi : i < kml m := by rw [← hL.1]; exact (List.getElem?_eq_some_iff.mp hx).1
      exact lv_iinc cx.1 cx.2.1 hd hL.has hk rfl hi rfl (fun la' h' => kk H locs la' hR hS (hL.store (x := .int (x + Int32.ofInt n)) hc hi h'))
    · cases hg
  · cases hg
theorem snd_iadd {l : Launch} {G : KG} {m pc : Nat} (hd : decode (kcode m) pc = .ok (.iadd, 1)) : kSnd l G m pc (g_iop (fun x y => x + y) (pc + 1)) := by
  intro hG p e s mid args below meth cd Q cx ls st M pc' ls' st' M' hg H locs la hR hS hL kk
  unfold g_iop at hg
  split at hg
  · cases hg
    exact lv_iadd cx.1 cx.2.1 hd (kk H locs la hR hS hL)
  · cases hg
theorem snd_isub {l : Launch} {G : KG} {m pc : Nat} (hd : decode (kcode m) pc = .ok (.isub, 1)) : kSnd l G m pc (g_iop (fun x y => x - y) (pc + 1)) := by
  intro hG p e s mid args below meth cd Q cx ls st M pc' ls' st' M' hg H locs la hR hS hL kk
  unfold g_iop at hg
  split at hg
  · cases hg
    exact lv_isub cx.1 cx.2.1 hd (kk H locs la hR hS hL)
  · cases hg
theorem snd_imul {l : Launch} {G : KG} {m pc : Nat} (hd : decode (kcode m) pc = .ok (.imul, 1)) : kSnd l G m pc (g_iop (fun x y => x * y) (pc + 1)) := by
  intro hG p e s mid args below meth cd Q cx ls st M pc' ls' st' M' hg H locs la hR hS hL kk
  unfold g_iop at hg
  split at hg
  · cases hg
    exact lv_imul cx.1 cx.2.1 hd (kk H locs la hR hS hL)
  · cases hg
theorem snd_iand {l : Launch} {G : KG} {m pc : Nat} (hd : decode (kcode m) pc = .ok (.iand, 1)) : kSnd l G m pc (g_iop (fun x y => x &&& y) (pc + 1)) := by
  intro hG p e s mid args below meth cd Q cx ls st M pc' ls' st' M' hg H locs la hR hS hL kk
  unfold g_iop at hg
  split at hg
  · cases hg
    exact lv_iand cx.1 cx.2.1 hd (kk H locs la hR hS hL)
  · cases hg
theorem snd_idiv {l : Launch} {G : KG} {m pc : Nat} (hd : decode (kcode m) pc = .ok (.idiv, 1)) : kSnd l G m pc (g_idiv (fun x y => x / y) (pc + 1)) := by
  intro hG p e s mid args below meth cd Q cx ls st M pc' ls' st' M' hg H locs la hR hS hL kk
  unfold g_idiv at hg
  split at hg
  · split at hg
    · cases hg
    · rename_i hne
      cases hg
      exact lv_idiv cx.1 cx.2.1 hd hne (kk H locs la hR hS hL)
  · cases hg
theorem snd_irem {l : Launch} {G : KG} {m pc : Nat} (hd : decode (kcode m) pc = .ok (.irem, 1)) : kSnd l G m pc (g_idiv k_irem (pc + 1)) := by
  intro hG p e s mid args below meth cd Q cx ls st M pc' ls' st' M' hg H locs la hR hS hL kk
  unfold g_idiv at hg
  split at hg
  · split at hg
    · cases hg
    · rename_i hne
      cases hg
      exact lv_irem cx.1 cx.2.1 hd hne (kk H locs la hR hS hL)
  · cases hg
theorem snd_ladd {l : Launch} {G : KG} {m pc : Nat} (hd : decode (kcode m) pc = .ok (.ladd, 1)) : kSnd l G m pc (g_lop (fun x y => x + y) (pc + 1)) := by
  intro hG p e s mid args below meth cd Q cx ls st M pc' ls' st' M' hg H locs la hR hS hL kk
  unfold g_lop at hg
  split at hg
  · cases hg
    exact lv_ladd cx.1 cx.2.1 hd (kk H locs la hR hS hL)
  · cases hg
theorem snd_lmul {l : Launch} {G : KG} {m pc : Nat} (hd : decode (kcode m) pc = .ok (.lmul, 1)) : kSnd l G m pc (g_lop (fun x y => x * y) (pc + 1)) := by
  intro hG p e s mid args below meth cd Q cx ls st M pc' ls' st' M' hg H locs la hR hS hL kk
  unfold g_lop at hg
  split at hg
  · cases hg
    exact lv_lmul cx.1 cx.2.1 hd (kk H locs la hR hS hL)
  · cases hg
theorem snd_ldiv {l : Launch} {G : KG} {m pc : Nat} (hd : decode (kcode m) pc = .ok (.ldiv, 1)) : kSnd l G m pc (g_ldiv (pc + 1)) := by
  intro hG p e s mid args below meth cd Q cx ls st M pc' ls' st' M' hg H locs la hR hS hL kk
  unfold g_ldiv at hg
  split at hg
  · split at hg
    · cases hg
    · rename_i hne
      cases hg
      exact lv_ldiv cx.1 cx.2.1 hd hne (kk H locs la hR hS hL)
  · cases hg
theorem snd_lcmp {l : Launch} {G : KG} {m pc : Nat} (hd : decode (kcode m) pc = .ok (.lcmp, 1)) : kSnd l G m pc (g_lcmp (pc + 1)) := by
  intro hG p e s mid args below meth cd Q cx ls st M pc' ls' st' M' hg H locs la hR hS hL kk
  unfold g_lcmp at hg
  split at hg
  · cases hg
    exact W.lcmp cx.1 cx.2.1 hd (kk H locs la hR hS hL)
  · cases hg
theorem snd_i2l {l : Launch} {G : KG} {m pc : Nat} (hd : decode (kcode m) pc = .ok (.i2l, 1)) : kSnd l G m pc (g_i2l (pc + 1)) := by
  intro hG p e s mid args below meth cd Q cx ls st M pc' ls' st' M' hg H locs la hR hS hL kk
  unfold g_i2l at hg
  split at hg
  · cases hg
    exact lv_i2l cx.1 cx.2.1 hd rfl (kk H locs la hR hS hL)
  · cases hg
theorem snd_l2i {l : Launch} {G : KG} {m pc : Nat} (hd : decode (kcode m) pc = .ok (.l2i, 1)) : kSnd l G m pc (g_l2i (pc + 1)) := by
  intro hG p e s mid args below meth cd Q cx ls st M pc' ls' st' M' hg H locs la hR hS hL kk
  unfold g_l2i at hg
  split at hg
  · cases hg
    exact lv_l2i cx.1 cx.2.1 hd rfl (kk H locs la hR hS hL)
  · cases hg
theorem snd_i2b {l : Launch} {G : KG} {m pc : Nat} (hd : decode (kcode m) pc = .ok (.i2b, 1)) : kSnd l G m pc (g_i2i k_i2b (pc + 1)) := by
  intro hG p e s mid args below meth cd Q cx ls st M pc' ls' st' M' hg H locs la hR hS hL kk
  unfold g_i2i at hg
  split at hg
  · cases hg
    exact lv_i2b cx.1 cx.2.1 hd rfl (kk H locs la hR hS hL)
  · cases hg
theorem snd_i2c {l : Launch} {G : KG} {m pc : Nat} (hd : decode (kcode m) pc = .ok (.i2c, 1)) : kSnd l G m pc (g_i2i k_i2c (pc + 1)) := by
  intro hG p e s mid args below meth cd Q cx ls st M pc' ls' st' M' hg H locs la hR hS hL kk
  unfold g_i2i at hg
  split at hg
  · cases hg
    exact lv_i2c cx.1 cx.2.1 hd rfl (kk H locs la hR hS hL)
  · cases hg
theorem snd_dup {l : Launch} {G : KG} {m pc : Nat} (hd : decode (kcode m) pc = .ok (.dup, 1)) : kSnd l G m pc (g_dup (pc + 1)) := by
  intro hG p e s mid args below meth cd Q cx ls st M pc' ls' st' M' hg H locs la hR hS hL kk
  unfold g_dup at hg
  split at hg
  · split at hg
    · rename_i hc
      cases hg
      exact lv_dup cx.1 cx.2.1 hd (by rw [conc_cat]; exact kNL_cat.mp hc) (kk H locs la hR hS hL)
    · cases hg
  · cases hg
theorem snd_pop {l : Launch} {G : KG} {m pc : Nat} (hd : decode (kcode m) pc = .ok (.pop, 1)) : kSnd l G m pc (g_pop (pc + 1)) := by
  intro hG p e s mid args below meth cd Q cx ls st M pc' ls' st' M' hg H locs la hR hS hL kk
  unfold g_pop at hg
  split at hg
  · split at hg
    · rename_i hc
      cases hg
      exact lv_pop cx.1 cx.2.1 hd (by rw [conc_cat]; exact kNL_cat.mp hc) (kk H locs la hR hS hL)
    · cases hg
  · cases hg
theorem snd_dup2 {l : Launch} {G : KG} {m pc : Nat} (hd : decode (kcode m) pc = .ok (.dup2, 1)) : kSnd l G m pc (g_dup2 (pc + 1)) := by
  intro hG p e s mid args below meth cd Q cx ls st M pc' ls' st' M' hg H locs la hR hS hL kk
  unfold g_dup2 at hg
  split at hg
  · split at hg
    · rename_i hc
      simp only [Bool.and_eq_true] at hc
      cases hg
      exact lv_dup2_11 cx.1 cx.2.1 hd (by rw [conc_cat]; exact kNL_cat.mp hc.1) (by rw [conc_cat]; exact kNL_cat.mp hc.2) (kk H locs la hR hS hL)
    · cases hg
  · cases hg
theorem snd_goto {l : Launch} {G : KG} {m pc : Nat} {off : Int} {t : Nat} (hd : decode (kcode m) pc = .ok (.goto off, 3)) (ht : (pc : Int) + off = (t : Int)) : kSnd l G m pc (g_goto t) := by
  intro hG p e s mid args below meth cd Q cx ls st M pc' ls' st' M' hg H locs la hR hS hL kk
  cases hg
  exact lv_goto cx.1 cx.2.1 hd ht (kk H locs la hR hS hL)
theorem snd_icmp_eq {l : Launch} {G : KG} {m pc : Nat} {off : Int} {t : Nat} (hd : decode (kcode m) pc = .ok (.if_icmp .eq off, 3)) (ht : (pc : Int) + off = (t : Int)) : kSnd l G m pc (g_br2 (fun x y => decide (x = y)) t (pc + 3)) := by
  intro hG p e s mid args below meth cd Q cx ls st M pc' ls' st' M' hg H locs la hR hS hL kk
  unfold g_br2 at hg
  split at hg
  · rename_i y x r
    cases hg
    refine lv_icmp_eq cx.1 cx.2.1 hd ht (fun hc => ?_) (fun hc => ?_)
    · have := kk H locs la hR hS hL
      rwa [if_pos (by simpa using hc)] at this
    · have := kk H locs la hR hS hL
      rwa [if_neg (by simpa using hc)] at this
  · cases hg
theorem snd_if_eq {l : Launch} {G : KG} {m pc : Nat} {off : Int} {t : Nat} (hd : decode (kcode m) pc = .ok (.ifCond .eq off, 3)) (ht : (pc : Int) + off = (t : Int)) : kSnd l G m pc (g_br1 (fun x => decide (x = 0)) t (pc + 3)) := by
  intro hG p e s mid args below meth cd Q cx ls st M pc' ls' st' M' hg H locs la hR hS hL kk
  unfold g_br1 at hg
  split at hg
  · rename_i x r
    cases hg
    refine lv_if_eq cx.1 cx.2.1 hd ht (fun hc => ?_) (fun hc => ?_)
    · have := kk H locs la hR hS hL
      rwa [if_pos (by simpa using hc)] at this
    · have := kk H locs la hR hS hL
      rwa [if_neg (by simpa using hc)] at this
  · cases hg
theorem snd_icmp_ne {l : Launch} {G : KG} {m pc : Nat} {off : Int} {t : Nat} (hd : decode (kcode m) pc = .ok (.if_icmp .ne off, 3)) (ht : (pc : Int) + off = (t : Int)) : kSnd l G m pc (g_br2 (fun x y => decide (¬ x = y)) t (pc + 3)) := by
  intro hG p e s mid args below meth cd Q cx ls st M pc' ls' st' M' hg H locs la hR hS hL kk
  unfold g_br2 at hg
  split at hg
  · rename_i y x r
    cases hg
    refine lv_icmp_ne cx.1 cx.2.1 hd ht (fun hc => ?_) (fun hc => ?_)
    · have := kk H locs la hR hS hL
      rwa [if_pos (by simpa using hc)] at this
    · have := kk H locs la hR hS hL
      rwa [if_neg (by simpa using hc)] at this
  · cases hg
theorem snd_if_ne {l : Launch} {G : KG} {m pc : Nat} {off : Int} {t : Nat} (hd : decode (kcode m) pc = .ok (.ifCond .ne off, 3)) (ht : (pc : Int) + off = (t : Int)) : kSnd l G m pc (g_br1 (fun x => decide (¬ x = 0)) t (pc + 3)) := by
  intro hG p e s mid args below meth cd Q cx ls st M pc' ls' st' M' hg H locs la hR hS hL kk
  unfold g_br1 at hg
  split at hg
  · rename_i x r
    cases hg
    refine lv_if_ne cx.1 cx.2.1 hd ht (fun hc => ?_) (fun hc => ?_)
    · have := kk H locs la hR hS hL
      rwa [if_pos (by simpa using hc)] at this
    · have := kk H locs la hR hS hL
      rwa [if_neg (by simpa using hc)] at this
  · cases hg
theorem snd_icmp_lt {l : Launch} {G : KG} {m pc : Nat} {off : Int} {t : Nat} (hd : decode (kcode m) pc = .ok (.if_icmp .lt off, 3)) (ht : (pc : Int) + off = (t : Int)) : kSnd l G m pc (g_br2 (fun x y => decide (x < y)) t (pc + 3)) := by
  intro hG p e s mid args below meth cd Q cx ls st M pc' ls' st' M' hg H locs la hR hS hL kk
  unfold g_br2 at hg
  split at hg
  · rename_i y x r
    cases hg
    refine lv_icmp_lt cx.1 cx.2.1 hd ht (fun hc => ?_) (fun hc => ?_)
    · have := kk H locs la hR hS hL
      rwa [if_pos (by simpa using hc)] at this
    · have := kk H locs la hR hS hL
      rwa [if_neg (by simpa using hc)] at this
  · cases hg
theorem snd_if_lt {l : Launch} {G : KG} {m pc : Nat} {off : Int} {t : Nat} (hd : decode (kcode m) pc = .ok (.ifCond .lt off, 3)) (ht : (pc : Int) + off = (t : Int)) : kSnd l G m pc (g_br1 (fun x => decide (x < 0)) t (pc + 3)) := by
  intro hG p e s mid args below meth cd Q cx ls st M pc' ls' st' M' hg H locs la hR hS hL kk
  unfold g_br1 at hg
  split at hg
  · rename_i x r
    cases hg
    refine lv_if_lt cx.1 cx.2.1 hd ht (fun hc => ?_) (fun hc => ?_)
    · have := kk H locs la hR hS hL
      rwa [if_pos (by simpa using hc)] at this
    · have := kk H locs la hR hS hL
      rwa [if_neg (by simpa using hc)] at this
  · cases hg
theorem snd_icmp_ge {l : Launch} {G : KG} {m pc : Nat} {off : Int} {t : Nat} (hd : decode (kcode m) pc = .ok (.if_icmp .ge off, 3)) (ht : (pc : Int) + off = (t : Int)) : kSnd l G m pc (g_br2 (fun x y => decide (y ≤ x)) t (pc + 3)) := by
  intro hG p e s mid args below meth cd Q cx ls st M pc' ls' st' M' hg H locs la hR hS hL kk
  unfold g_br2 at hg
  split at hg
  · rename_i y x r
    cases hg
    refine lv_icmp_ge cx.1 cx.2.1 hd ht (fun hc => ?_) (fun hc => ?_)
    · have := kk H locs la hR hS hL
      rwa [if_pos (by simpa using hc)] at this
    · have := kk H locs la hR hS hL
      rwa [if_neg (by simpa using hc)] at this
  · cases hg
theorem snd_if_ge {l : Launch} {G : KG} {m pc : Nat} {off : Int} {t : Nat} (hd : decode (kcode m) pc = .ok (.ifCond .ge off, 3)) (ht : (pc : Int) + off = (t : Int)) : kSnd l G m pc (g_br1 (fun x => decide (0 ≤ x)) t (pc + 3)) := by
  intro hG p e s mid args below meth cd Q cx ls st M pc' ls' st' M' hg H locs la hR hS hL kk
  unfold g_br1 at hg
  split at hg
  · rename_i x r
    cases hg
    refine lv_if_ge cx.1 cx.2.1 hd ht (fun hc => ?_) (fun hc => ?_)
    · have := kk H locs la hR hS hL
      rwa [if_pos (by simpa using hc)] at this
    · have := kk H locs la hR hS hL
      rwa [if_neg (by simpa using hc)] at this
  · cases hg
theorem snd_icmp_gt {l : Launch} {G : KG} {m pc : Nat} {off : Int} {t : Nat} (hd : decode (kcode m) pc = .ok (.if_icmp .gt off, 3)) (ht : (pc : Int) + off = (t : Int)) : kSnd l G m pc (g_br2 (fun x y => decide (y < x)) t (pc + 3)) := by
  intro hG p e s mid args below meth cd Q cx ls st M pc' ls' st' M' hg H locs la hR hS hL kk
  unfold g_br2 at hg
  split at hg
  · rename_i y x r
    cases hg
    refine lv_icmp_gt cx.1 cx.2.1 hd ht (fun hc => ?_) (fun hc => ?_)
    · have := kk H locs la hR hS hL
      rwa [if_pos (by simpa using hc)] at this
    · have := kk H locs la hR hS hL
      rwa [if_neg (by simpa using hc)] at this
  · cases hg
theorem snd_if_gt {l : Launch} {G : KG} {m pc : Nat} {off : Int} {t : Nat} (hd : decode (kcode m) pc = .ok (.ifCond .gt off, 3)) (ht : (pc : Int) + off = (t : Int)) : kSnd l G m pc (g_br1 (fun x => decide (0 < x)) t (pc + 3)) := by
  intro hG p e s mid args below meth cd Q cx ls st M pc' ls' st' M' hg H locs la hR hS hL kk
  unfold g_br1 at hg
  split at hg
  · rename_i x r
    cases hg
    refine lv_if_gt cx.1 cx.2.1 hd ht (fun hc => ?_) (fun hc => ?_)
    · have := kk H locs la hR hS hL
      rwa [if_pos (by simpa using hc)] at this
    · have := kk H locs la hR hS hL
      rwa [if_neg (by simpa using hc)] at this
  · cases hg
theorem snd_icmp_le {l : Launch} {G : KG} {m pc : Nat} {off : Int} {t : Nat} (hd : decode (kcode m) pc = .ok (.if_icmp .le off, 3)) (ht : (pc : Int) + off = (t : Int)) : kSnd l G m pc (g_br2 (fun x y => decide (x ≤ y)) t (pc + 3)) := by
  intro hG p e s mid args below meth cd Q cx ls st M pc' ls' st' M' hg H locs la hR hS hL kk
  unfold g_br2 at hg
  split at hg
  · rename_i y x r
    cases hg
    refine lv_icmp_le cx.1 cx.2.1 hd ht (fun hc => ?_) (fun hc => ?_)
    · have := kk H locs la hR hS hL
      rwa [if_pos (by simpa using hc)] at this
    · have := kk H locs la hR hS hL
      rwa [if_neg (by simpa using hc)] at this
  · cases hg
theorem snd_if_le {l : Launch} {G : KG} {m pc : Nat} {off : Int} {t : Nat} (hd : decode (kcode m) pc = .ok (.ifCond .le off, 3)) (ht : (pc : Int) + off = (t : Int)) : kSnd l G m pc (g_br1 (fun x => decide (x ≤ 0)) t (pc + 3)) := by
  intro hG p e s mid args below meth cd Q cx ls st M pc' ls' st' M' hg H locs la hR hS hL kk
  unfold g_br1 at hg
  split at hg
  · rename_i x r
    cases hg
    refine lv_if_le cx.1 cx.2.1 hd ht (fun hc => ?_) (fun hc => ?_)
    · have := kk H locs la hR hS hL
      rwa [if_pos (by simpa using hc)] at this
    · have := kk H locs la hR hS hL
      rwa [if_neg (by simpa using hc)] at this
  · cases hg
theorem snd_tsw {l : Launch} {G : KG} {m pc : Nat} {df hi : Int} {offs : Array Int} {len : Nat} {tg : List Nat} {dt : Nat} (hd : decode (kcode m) pc = .ok (.tableswitch df 0 hi offs, len)) (hdt : (pc : Int) + df = (dt : Int)) (hhi : hi = ((offs.size : Nat) : Int) - 1) (htg : offs.toList.map (fun z => (pc : Int) + z) = tg.map (fun z : Nat => (z : Int))) : kSnd l G m pc (g_tsw hi tg dt) := by
  intro hG p e s mid args below meth cd Q cx ls st M pc' ls' st' M' hg H locs la hR hS hL kk
  unfold g_tsw at hg
  split at hg
  · rename_i x r
    cases hg
    have k2 := kk H locs la hR hS hL
    by_cases hc : x.toInt < 0 ∨ hi < x.toInt
    · rw [if_pos hc] at k2
      exact lv_tableOut cx.1 cx.2.1 hd hc hdt k2
    · rw [if_neg hc] at k2
      have hlt : x.toInt.toNat < offs.size := by omega
      have ho : offs[(x.toInt - 0).toNat]? = some offs[x.toInt.toNat] := by
        rw [Int.sub_zero]
        exact Array.getElem?_eq_getElem hlt
      have hlen : tg.length = offs.size := by
        have := congrArg List.length htg
        simpa using this.symm
      have ht : (pc : Int) + offs[x.toInt.toNat] = ((tg.getD x.toInt.toNat dt : Nat) : Int) := by
        have h1 := congrArg (fun z => z[x.toInt.toNat]?) htg
        simp only [List.getElem?_map, Array.getElem?_toList] at h1
        rw [Array.getElem?_eq_getElem hlt, List.getElem?_eq_getElem (by omega)] at h1
        simp only [Option.map_some, Option.some.injEq] at h1
        rw [h1, List.getD_eq_getElem?_getD, List.getElem?_eq_getElem (by omega)]
        rfl
      exact lv_tableIn cx.1 cx.2.1 hd (fun q => hc (Or.inl q)) (fun q => hc (Or.inr q)) ho ht k2
  · cases hg
theorem snd_lsw2 {l : Launch} {G : KG} {m pc : Nat} {df oa ob : Int} {a b : Int32} {ka kb : Int} {len ta tb dt : Nat} (hd : decode (kcode m) pc = .ok (.lookupswitch df #[(ka, oa), (kb, ob)], len)) (hdt : (pc : Int) + df = (dt : Int)) (hta : (pc : Int) + oa = (ta : Int)) (htb : (pc : Int) + ob = (tb : Int)) (ha : a.toInt = ka) (hb : b.toInt = kb) (hp : ((#[(ka, oa), (kb, ob)] : Array (Int × Int)).toList.zip ((#[(ka, oa), (kb, ob)] : Array (Int × Int)).toList.drop 1)).all (fun (a, next) => a.1 < next.1) = true) : kSnd l G m pc (g_lsw2 a b ta tb dt) := by
  intro hG p e s mid args below meth cd Q cx ls st M pc' ls' st' M' hg H locs la hR hS hL kk
  unfold g_lsw2 at hg
  split at hg
  · rename_i x r
    cases hg
    have k2 := kk H locs la hR hS hL
    by_cases h1 : x = a
    · rw [if_pos h1] at k2
      subst h1
      refine lv_lookup cx.1 cx.2.1 hd hp ?_ hta k2
      show Op.lookupswitch.offset ((ka, oa) :: [(kb, ob)]) df x.toInt = oa
      rw [Op.lookupswitch.offset_cons, if_pos ha.symm]
    · rw [if_neg h1] at k2
      by_cases h2 : x = b
      · rw [if_pos h2] at k2
        subst h2
        refine lv_lookup cx.1 cx.2.1 hd hp ?_ htb k2
        show Op.lookupswitch.offset ((ka, oa) :: [(kb, ob)]) df x.toInt = ob
        rw [lv_osw h1 ha, Op.lookupswitch.offset_cons, if_pos hb.symm]
      · rw [if_neg h2] at k2
        refine lv_lookup cx.1 cx.2.1 hd hp ?_ hdt k2
        show Op.lookupswitch.offset ((ka, oa) :: [(kb, ob)]) df x.toInt = df
        rw [lv_osw h1 ha, lv_osw h2 hb]
        rfl
  · cases hg
theorem snd_gfi {l : Launch} {G : KG} {m pc : Nat} {idx c j N : Nat} {C : String} {T : u_T} (hd : decode (kcode m) pc = .ok (.getfield idx, 3)) (hcl : vwCl[c]? = some (C, T, N)) (hin : ∀ w ∈ u_ws C T N, w ∈ kgT) (hc5 : c < 5) (hN : knF c = N) (hj : j < N) (hr : kisR c j = false) (hl : Cond.fieldLink (kown m) idx (T j).1 (T j).2.1 (T j).2.2.1 ∈ kgT) : kSnd l G m pc (g_gfi c j (pc + 3)) := by
  intro hG p e s mid args below meth cd Q cx ls st M pc' ls' st' M' hg H locs la hR hS hL kk
  unfold g_gfi at hg
  split at hg
  · rename_i k r
    split at hg
    · rename_i hk
      cases hg
      have he : (kw G M)[k]? = some (G.1 k, .inr (c, kfs G.1 k (M k))) := by rw [kw_get (kd_lt (by omega)), kentr_obj hk hc5]
      exact va_get (D := (G.2.1, G.2.2.1)) (ref := (T j).1) cx.1 cx.2.1 cx.2.2.2.2.2.1 (fun w h => List.mem_cons_of_mem _ (hin w h)) cx.2.2.2.2.1 cx.2.2.2.2.2.2.2.1 hR k he hcl j hj (cx.word hl) (fun _ h => h) (by rw [kfs_get hk (by omega), hr]; rfl) hd (kk H locs la hR hS hL)
    · cases hg
  · cases hg
theorem snd_gfr {l : Launch} {G : KG} {m pc : Nat} {idx c j N : Nat} {C : String} {T : u_T} (hd : decode (kcode m) pc = .ok (.getfield idx, 3)) (hcl : vwCl[c]? = some (C, T, N)) (hin : ∀ w ∈ u_ws C T N, w ∈ kgT) (hc5 : c < 5) (hN : knF c = N) (hj : j < N) (hr : kisR c j = true) (hl : Cond.fieldLink (kown m) idx (T j).1 (T j).2.1 (T j).2.2.1 ∈ kgT) : kSnd l G m pc (g_gfr c j (pc + 3)) := by
  intro hG p e s mid args below meth cd Q cx ls st M pc' ls' st' M' hg H locs la hR hS hL kk
  unfold g_gfr at hg
  split at hg
  · rename_i k r
    split at hg
    · rename_i hk
      cases hg
      have he : (kw G M)[k]? = some (G.1 k, .inr (c, kfs G.1 k (M k))) := by rw [kw_get (kd_lt (by omega)), kentr_obj hk hc5]
      exact va_get (D := (G.2.1, G.2.2.1)) (ref := (T j).1) cx.1 cx.2.1 cx.2.2.2.2.2.1 (fun w h => List.mem_cons_of_mem _ (hin w h)) cx.2.2.2.2.1 cx.2.2.2.2.2.2.2.1 hR k he hcl j hj (cx.word hl) (fun _ h => h) (by rw [kfs_get hk (by omega), hr]; rfl) hd (kk H locs la hR hS hL)
    · cases hg
  · cases hg
theorem snd_pfi {l : Launch} {G : KG} {m pc : Nat} {idx c j N : Nat} {C : String} {T : u_T} (hd : decode (kcode m) pc = .ok (.putfield idx, 3)) (hcl : vwCl[c]? = some (C, T, N)) (hin : ∀ w ∈ u_ws C T N, w ∈ kgT) (hc5 : c < 5) (hN : knF c = N) (hj : j < N) (hr : kisR c j = false) (hl : Cond.fieldLink (kown m) idx (T j).1 (T j).2.1 (T j).2.2.1 ∈ kgT) (ty0 : Nat → FieldType) (hty0 : ∀ k, k < N → parseFieldDescriptor (T k).2.2.1 = some (ty0 k)) (hnm : ∀ a, a < N → ∀ b, b < N → a ≠ b → (T a).2.1 ≠ (T b).2.1) (hfin : (T j).2.2.2 = false) (hty : parseFieldDescriptor (T j).2.2.1 = some .int) : kSnd l G m pc (g_pfi c j (pc + 3)) := by
  intro hG p e s mid args below meth cd Q cx ls st M pc' ls' st' M' hg H locs la hR hS hL kk
  unfold g_pfi at hg
  split at hg
  · rename_i v k r
    split at hg
    · rename_i hk9
      cases hg
      have hk := hk9
      have he : (kw G M)[k]? = some (G.1 k, .inr (c, kfs G.1 k (M k))) := by rw [kw_get (kd_lt (by omega)), kentr_obj hk hc5]
      refine va_put (D := (G.2.1, G.2.2.1)) (ref := (T j).1) (v := .int v) cx.1 cx.2.1 cx.2.2.2.2.2.1 (fun w h => List.mem_cons_of_mem _ (hin w h)) ty0 hty0 hnm cx.2.2.2.2.1 cx.2.2.2.2.2.2.2.1 hR (kw_D hG) hS k he hcl j hj (cx.word hl) (fun _ h => h) hfin hty rfl rfl (by rw [kfs_len hk]; omega) hd (fun H1 locs1 hP1 hD1 hS1 => kk H1 locs1 la ?_ hS1 hL)
      unfold kRep
      rw [← kw_set (kd_lt (by omega)) (e := .inr (c, (kfs G.1 k (M k)).set j (.int v))) (by rw [kentr_obj hk hc5, kfs_set hk (by omega) hr])]
      exact hP1
    · cases hg
  · cases hg
theorem snd_pfz {l : Launch} {G : KG} {m pc : Nat} {idx c j N : Nat} {C : String} {T : u_T} (hd : decode (kcode m) pc = .ok (.putfield idx, 3)) (hcl : vwCl[c]? = some (C, T, N)) (hin : ∀ w ∈ u_ws C T N, w ∈ kgT) (hc5 : c < 5) (hN : knF c = N) (hj : j < N) (hr : kisR c j = false) (hl : Cond.fieldLink (kown m) idx (T j).1 (T j).2.1 (T j).2.2.1 ∈ kgT) (ty0 : Nat → FieldType) (hty0 : ∀ k, k < N → parseFieldDescriptor (T k).2.2.1 = some (ty0 k)) (hnm : ∀ a, a < N → ∀ b, b < N → a ≠ b → (T a).2.1 ≠ (T b).2.1) (hfin : (T j).2.2.2 = false) (hty : parseFieldDescriptor (T j).2.2.1 = some .boolean) : kSnd l G m pc (g_pfz c j (pc + 3)) := by
  intro hG p e s mid args below meth cd Q cx ls st M pc' ls' st' M' hg H locs la hR hS hL kk
  unfold g_pfz at hg
  split at hg
  · rename_i v k r
    split at hg
    · rename_i hk9
      cases hg
      obtain ⟨hk, hv⟩ := hk9
      have he : (kw G M)[k]? = some (G.1 k, .inr (c, kfs G.1 k (M k))) := by rw [kw_get (kd_lt (by omega)), kentr_obj hk hc5]
      refine va_put (D := (G.2.1, G.2.2.1)) (ref := (T j).1) (v := .int v) cx.1 cx.2.1 cx.2.2.2.2.2.1 (fun w h => List.mem_cons_of_mem _ (hin w h)) ty0 hty0 hnm cx.2.2.2.2.1 cx.2.2.2.2.2.2.2.1 hR (kw_D hG) hS k he hcl j hj (cx.word hl) (fun _ h => h) hfin hty (by rcases hv with rfl | rfl <;> rfl) (by rcases hv with rfl | rfl <;> rfl) (by rw [kfs_len hk]; omega) hd (fun H1 locs1 hP1 hD1 hS1 => kk H1 locs1 la ?_ hS1 hL)
      unfold kRep
      rw [← kw_set (kd_lt (by omega)) (e := .inr (c, (kfs G.1 k (M k)).set j (.int v))) (by rw [kentr_obj hk hc5, kfs_set hk (by omega) hr])]
      exact hP1
    · cases hg
  · cases hg
theorem snd_pald5 {l : Launch} {G : KG} {m pc : Nat} (hd : decode (kcode m) pc = .ok (.iaload, 1)) : kSnd l G m pc (g_pald 5 (pc + 1)) := by
  intro hG p e s mid args below meth cd Q cx ls st M pc' ls' st' M' hg H locs la hR hS hL kk
  unfold g_pald at hg
  split at hg
  · rename_i i k r
    split at hg
    · rename_i hk
      cases hg
      exact va_iald (D := (G.2.1, G.2.2.1)) cx.1 cx.2.1 cx.2.2.2.2.2.2.2.1 hR k 0 (f := M k) (n := ln k) (by rw [kw_get (kd_lt (by omega)), kentr_arr hk.1 (by omega) (by omega)]) rfl (kin_in hk.2) hd (kk H locs la hR hS hL)
    · cases hg
  · cases hg
theorem snd_pald6 {l : Launch} {G : KG} {m pc : Nat} (hd : decode (kcode m) pc = .ok (.caload, 1)) : kSnd l G m pc (g_pald 6 (pc + 1)) := by
  intro hG p e s mid args below meth cd Q cx ls st M pc' ls' st' M' hg H locs la hR hS hL kk
  unfold g_pald at hg
  split at hg
  · rename_i i k r
    split at hg
    · rename_i hk
      cases hg
      exact va_cald (D := (G.2.1, G.2.2.1)) cx.1 cx.2.1 cx.2.2.2.2.2.2.2.1 hR k 1 (f := M k) (n := ln k) (by rw [kw_get (kd_lt (by omega)), kentr_arr hk.1 (by omega) (by omega)]) rfl (kin_in hk.2) hd (kk H locs la hR hS hL)
    · cases hg
  · cases hg
theorem snd_pald7 {l : Launch} {G : KG} {m pc : Nat} (hd : decode (kcode m) pc = .ok (.baload, 1)) : kSnd l G m pc (g_pald 7 (pc + 1)) := by
  intro hG p e s mid args below meth cd Q cx ls st M pc' ls' st' M' hg H locs la hR hS hL kk
  unfold g_pald at hg
  split at hg
  · rename_i i k r
    split at hg
    · rename_i hk
      cases hg
      exact va_zald (D := (G.2.1, G.2.2.1)) cx.1 cx.2.1 cx.2.2.2.2.2.2.2.1 hR k 2 (f := M k) (n := ln k) (by rw [kw_get (kd_lt (by omega)), kentr_arr hk.1 (by omega) (by omega)]) rfl (kin_in hk.2) hd (kk H locs la hR hS hL)
    · cases hg
  · cases hg
theorem snd_pald8 {l : Launch} {G : KG} {m pc : Nat} (hd : decode (kcode m) pc = .ok (.baload, 1)) : kSnd l G m pc (g_pald 8 (pc + 1)) := by
  intro hG p e s mid args below meth cd Q cx ls st M pc' ls' st' M' hg H locs la hR hS hL kk
  unfold g_pald at hg
  split at hg
  · rename_i i k r
    split at hg
    · rename_i hk
      cases hg
      exact va_bald (D := (G.2.1, G.2.2.1)) cx.1 cx.2.1 cx.2.2.2.2.2.2.2.1 hR k 3 (f := M k) (n := ln k) (by rw [kw_get (kd_lt (by omega)), kentr_arr hk.1 (by omega) (by omega)]) rfl (kin_in hk.2) hd (kk H locs la hR hS hL)
    · cases hg
  · cases hg
theorem snd_past5 {l : Launch} {G : KG} {m pc : Nat} (hd : decode (kcode m) pc = .ok (.iastore, 1)) : kSnd l G m pc (g_past 5 (pc + 1)) := by
  intro hG p e s mid args below meth cd Q cx ls st M pc' ls' st' M' hg H locs la hR hS hL kk
  unfold g_past at hg
  split at hg
  · rename_i x i k r
    split at hg
    · rename_i hk
      cases hg
      refine va_iast (D := (G.2.1, G.2.2.1)) cx.1 cx.2.1 cx.2.2.2.2.2.2.2.1 hR (kw_D hG) hS k 0 (f := M k) (n := ln k) (by rw [kw_get (kd_lt (by omega)), kentr_arr hk.1 (by omega) (by omega)]) rfl (kin_in hk.2) hd (fun H1 locs1 hP1 hD1 hS1 => kk H1 locs1 la ?_ hS1 hL)
      unfold kRep
      rw [← kw_set (kd_lt (by omega)) (e := .inl (G.2.2.2.1 5, ln k, .inl (upd (M k) i.toNatClampNeg x))) (by rw [kentr_arr hk.1 (by omega) (by omega)]; rfl)]
      exact hP1
    · cases hg
  · cases hg
theorem snd_past6 {l : Launch} {G : KG} {m pc : Nat} (hd : decode (kcode m) pc = .ok (.castore, 1)) : kSnd l G m pc (g_past 6 (pc + 1)) := by
  intro hG p e s mid args below meth cd Q cx ls st M pc' ls' st' M' hg H locs la hR hS hL kk
  unfold g_past at hg
  split at hg
  · rename_i x i k r
    split at hg
    · rename_i hk
      cases hg
      refine va_cast (D := (G.2.1, G.2.2.1)) cx.1 cx.2.1 cx.2.2.2.2.2.2.2.1 hR (kw_D hG) hS k 1 (f := M k) (n := ln k) (by rw [kw_get (kd_lt (by omega)), kentr_arr hk.1 (by omega) (by omega)]) rfl (kin_in hk.2) hd (fun H1 locs1 hP1 hD1 hS1 => kk H1 locs1 la ?_ hS1 hL)
      unfold kRep
      rw [← kw_set (kd_lt (by omega)) (e := .inl (G.2.2.2.1 6, ln k, .inl (upd (M k) i.toNatClampNeg (vp_nar .char x)))) (by rw [kentr_arr hk.1 (by omega) (by omega)]; rfl)]
      exact hP1
    · cases hg
  · cases hg
theorem snd_past7 {l : Launch} {G : KG} {m pc : Nat} (hd : decode (kcode m) pc = .ok (.bastore, 1)) : kSnd l G m pc (g_past 7 (pc + 1)) := by
  intro hG p e s mid args below meth cd Q cx ls st M pc' ls' st' M' hg H locs la hR hS hL kk
  unfold g_past at hg
  split at hg
  · rename_i x i k r
    split at hg
    · rename_i hk
      cases hg
      refine va_zast (D := (G.2.1, G.2.2.1)) cx.1 cx.2.1 cx.2.2.2.2.2.2.2.1 hR (kw_D hG) hS k 2 (f := M k) (n := ln k) (by rw [kw_get (kd_lt (by omega)), kentr_arr hk.1 (by omega) (by omega)]) rfl (kin_in hk.2) hd (fun H1 locs1 hP1 hD1 hS1 => kk H1 locs1 la ?_ hS1 hL)
      unfold kRep
      rw [← kw_set (kd_lt (by omega)) (e := .inl (G.2.2.2.1 7, ln k, .inl (upd (M k) i.toNatClampNeg (vp_nar .boolean x)))) (by rw [kentr_arr hk.1 (by omega) (by omega)]; rfl)]
      exact hP1
    · cases hg
  · cases hg
theorem snd_past8 {l : Launch} {G : KG} {m pc : Nat} (hd : decode (kcode m) pc = .ok (.bastore, 1)) : kSnd l G m pc (g_past 8 (pc + 1)) := by
  intro hG p e s mid args below meth cd Q cx ls st M pc' ls' st' M' hg H locs la hR hS hL kk
  unfold g_past at hg
  split at hg
  · rename_i x i k r
    split at hg
    · rename_i hk
      cases hg
      refine va_bast (D := (G.2.1, G.2.2.1)) cx.1 cx.2.1 cx.2.2.2.2.2.2.2.1 hR (kw_D hG) hS k 3 (f := M k) (n := ln k) (by rw [kw_get (kd_lt (by omega)), kentr_arr hk.1 (by omega) (by omega)]) rfl (kin_in hk.2) hd (fun H1 locs1 hP1 hD1 hS1 => kk H1 locs1 la ?_ hS1 hL)
      unfold kRep
      rw [← kw_set (kd_lt (by omega)) (e := .inl (G.2.2.2.1 8, ln k, .inl (upd (M k) i.toNatClampNeg (vp_nar .byte x)))) (by rw [kentr_arr hk.1 (by omega) (by omega)]; rfl)]
      exact hP1
    · cases hg
  · cases hg
theorem snd_aald9 {l : Launch} {G : KG} {m pc : Nat} (hd : decode (kcode m) pc = .ok (.aaload, 1)) : kSnd l G m pc (g_aald 9 (pc + 1)) := by
  intro hG p e s mid args below meth cd Q cx ls st M pc' ls' st' M' hg H locs la hR hS hL kk
  unfold g_aald at hg
  split at hg
  · rename_i i k r
    split at hg
    · rename_i hk
      cases hg
      exact va_aldq (D := (G.2.1, G.2.2.1)) cx.1 cx.2.1 cx.2.2.2.2.2.2.2.1 hR k 4 (C := RX2) (f := fun j => some (G.1 (rf k j))) (n := ln k) (by rw [kw_get (kd_lt (by omega)), kentr_ref hk.1 (by omega)]) rfl (kin_in hk.2) hd (kk H locs la hR hS hL)
    · cases hg
  · cases hg
theorem snd_aald10 {l : Launch} {G : KG} {m pc : Nat} (hd : decode (kcode m) pc = .ok (.aaload, 1)) : kSnd l G m pc (g_aald 10 (pc + 1)) := by
  intro hG p e s mid args below meth cd Q cx ls st M pc' ls' st' M' hg H locs la hR hS hL kk
  unfold g_aald at hg
  split at hg
  · rename_i i k r
    split at hg
    · rename_i hk
      cases hg
      exact va_aldq (D := (G.2.1, G.2.2.1)) cx.1 cx.2.1 cx.2.2.2.2.2.2.2.1 hR k 5 (C := RX1) (f := fun j => some (G.1 (rf k j))) (n := ln k) (by rw [kw_get (kd_lt (by omega)), kentr_ref hk.1 (by omega)]) rfl (kin_in hk.2) hd (kk H locs la hR hS hL)
    · cases hg
  · cases hg
theorem snd_alen {l : Launch} {G : KG} {m pc : Nat} (hd : decode (kcode m) pc = .ok (.arraylength, 1)) : kSnd l G m pc (g_alen (pc + 1)) := by
  intro hG p e s mid args below meth cd Q cx ls st M pc' ls' st' M' hg H locs la hR hS hL kk
  unfold g_alen at hg
  split at hg
  · rename_i k r
    split at hg
    · rename_i hk
      cases hg
      exact va_alen (D := (G.2.1, G.2.2.1)) cx.1 cx.2.1 cx.2.2.2.2.2.2.2.1 hR k 0 (x := (ln k, .inl (M k))) (ty := .int) (v := nI (ln k)) (by rw [kw_get (kd_lt (by omega)), kentr_arr hk (by omega) (by omega)]) rfl rfl hd (kk H locs la hR hS hL)
    · cases hg
  · cases hg
theorem kcat_map (ad : Nat → Nat) (r : List Value) : ((r.map (conc ad)).map fun v => v.category).sum = kcat r := by
  unfold kcat
  rw [List.map_map]
  congr 2
  funext v
  exact conc_cat ad v
theorem snd_imax {l : Launch} {G : KG} {m pc : Nat} {idx : Nat} (hd : decode (kcode m) pc = .ok (.invokestatic idx, 3)) (hl : Cond.methodLink (kown m) idx Lib.Math.max.name ∈ kgT) (hs : Cond.static Lib.Math.max.name ∈ kgT) (hi : Cond.initialized "java/lang/Math" ∈ kgT) (hc : Cond.code Lib.Math.max.name Lib.Math.max.code 2 (some .int) ∈ kgT) (hf : 1 ≤ krf m) (ho : 8 + 15 ≤ krl m) : kSnd l G m pc (g_imax (pc + 3)) := by
  intro hG p e s mid args below meth cd Q cx ls st M pc' ls' st' M' hg H locs la hR hS hL kk
  unfold g_imax at hg
  split at hg
  · rename_i y x r
    split at hg
    · rename_i hk
      cases hg
      exact va_mmax cx.1 cx.2.1 (cx.2.2.1.trans hL.2.1.symm) cx.2.2.2.2.1 (cx.word hl) (cx.word hs) (cx.word hi) (cx.word hc) hf (by show ((r.map (conc G.1)).map fun v => v.category).sum + _ ≤ krl m; rw [kcat_map]; omega) (Nat.zero_le _) (Nat.zero_le _) hd (kk H locs la hR hS hL)
    · cases hg
  · cases hg
theorem snd_imin {l : Launch} {G : KG} {m pc : Nat} {idx : Nat} (hd : decode (kcode m) pc = .ok (.invokestatic idx, 3)) (hl : Cond.methodLink (kown m) idx Lib.Math.min.name ∈ kgT) (hs : Cond.static Lib.Math.min.name ∈ kgT) (hi : Cond.initialized "java/lang/Math" ∈ kgT) (hc : Cond.code Lib.Math.min.name Lib.Math.min.code 2 (some .int) ∈ kgT) (hf : 1 ≤ krf m) (ho : 8 + 15 ≤ krl m) : kSnd l G m pc (g_imin (pc + 3)) := by
  intro hG p e s mid args below meth cd Q cx ls st M pc' ls' st' M' hg H locs la hR hS hL kk
  unfold g_imin at hg
  split at hg
  · rename_i y x r
    split at hg
    · rename_i hk
      cases hg
      exact va_mmin cx.1 cx.2.1 (cx.2.2.1.trans hL.2.1.symm) cx.2.2.2.2.1 (cx.word hl) (cx.word hs) (cx.word hi) (cx.word hc) hf (by show ((r.map (conc G.1)).map fun v => v.category).sum + _ ≤ krl m; rw [kcat_map]; omega) (Nat.zero_le _) (Nat.zero_le _) hd (kk H locs la hR hS hL)
    · cases hg
  · cases hg
theorem snd_lmax {l : Launch} {G : KG} {m pc : Nat} {idx : Nat} (hd : decode (kcode m) pc = .ok (.invokestatic idx, 3)) (hl : Cond.methodLink (kown m) idx Lib.MathLoose.max_long.x ∈ kgT) (hs : Cond.static Lib.MathLoose.max_long.x ∈ kgT) (hi : Cond.initialized "java/lang/Math" ∈ kgT) (hc : Cond.code Lib.MathLoose.max_long.x Lib.MathLoose.max_long.code 4 (some .long) ∈ kgT) (hf : 1 ≤ krf m) (ho : 8 + 15 ≤ krl m) : kSnd l G m pc (g_lmax (pc + 3)) := by
  intro hG p e s mid args below meth cd Q cx ls st M pc' ls' st' M' hg H locs la hR hS hL kk
  unfold g_lmax at hg
  split at hg
  · rename_i y x r
    split at hg
    · rename_i hk
      cases hg
      exact va_mmax_long cx.1 cx.2.1 (cx.2.2.1.trans hL.2.1.symm) cx.2.2.2.2.1 (cx.word hl) (cx.word hs) (cx.word hi) (cx.word hc) hf (by show ((r.map (conc G.1)).map fun v => v.category).sum + _ ≤ krl m; rw [kcat_map]; omega) (Nat.zero_le _) (Nat.zero_le _) hd (kk H locs la hR hS hL)
    · cases hg
  · cases hg
theorem snd_acp {l : Launch} {G : KG} {m pc : Nat} {idx : Nat} (hd : decode (kcode m) pc = .ok (.invokestatic idx, 3)) (hl : Cond.methodLink (kown m) idx arraycopyName ∈ kgT) (hn : Cond.native arraycopyName ∈ kgT) (hs : Cond.static arraycopyName ∈ kgT) (hi : Cond.initialized "java/lang/System" ∈ kgT) (hf : 1 ≤ krf m) (ho : 8 + (nativeFrameWords "java/lang/System" "arraycopy" 5 + 11) ≤ krl m) : kSnd l G m pc (g_acp (pc + 3)) := by
  intro hG p e s mid args below meth cd Q cx ls st M pc' ls' st' M' hg H locs la hR hS hL kk
  unfold g_acp at hg
  split at hg
  · rename_i n dp b sp a r
    split at hg
    · rename_i hk
      cases hg
      obtain ⟨ha, hb, h1, h2, h3, h4, h5, h6⟩ := hk
      refine va_copyi (D := (G.2.1, G.2.2.1)) cx.1 cx.2.1 (cx.2.2.1.trans hL.2.1.symm) cx.2.2.2.2.1 (cx.word hl) (cx.word hn) (cx.word hs) (cx.word hi) cx.2.2.2.2.2.2.2.1 hR (kw_D hG) hS a b 0 0 (f := M a) (g := M b) (n0 := ln a) (n1 := ln b) (ty := .int) (by rw [kw_get (kd_lt (by omega)), kentr_arr ha (by omega) (by omega)]) (by rw [kw_get (kd_lt (by omega)), kentr_arr hb (by omega) (by omega)]) rfl rfl rfl h1 h2 h3 h4 h5 (fun _ _ => rfl) hf (by show ((st'.map (conc G.1)).map fun v => v.category).sum + _ ≤ krl m; rw [kcat_map]; omega) hd (fun H1 locs1 hP1 hD1 hS1 => kk H1 locs1 la ?_ hS1 hL)
      unfold kRep kcpy
      rw [← kw_setRow (kd_lt (by omega)) (e := .inl (G.2.2.2.1 5, ln b, .inl (va_cpy (M a) (M b) sp.toNatClampNeg dp.toNatClampNeg n.toNatClampNeg))) (by rw [kentr_arr hb (by omega) (by omega)])]
      exact hP1
    · cases hg
  · cases hg
end
section
/-! calls, ends, and the whole -/
def kQ (G : KG) (m : Nat) (Q : Option Value → KMem → Prop) : Array Value → State → Outcome → State → Prop :=
  if krc m = 0 then va_Qv (fun u : KMem => Q none u) (fun u t => kRep G u t.heap) G.2.2.2.2
  else va_Qi (fun (r : Int32) (u : KMem) => Q (some (.int r)) u) (fun u t => kRep G u t.heap) G.2.2.2.2
def kPc (G : KG) (as : List Value) (M : KMem) : Array Value → State → Prop := va_Pc (as.map (conc G.1)) (fun U => kRep G M U.heap ∧ kK G U)
def kMet (l : Launch) (G : KG) (m : Nat) (as : List Value) (M : KMem) (Q : Option Value → KMem → Prop) : Prop :=
  Met l (ky m) (kws m) (krm m) (kPc G as M) (kQ G m Q) 0 0 G.2.2.2.2
theorem kPc_blind {G : KG} {as : List Value} {M : KMem} : FrameBlind (kPc G as M) := fun a U g mk q => by
  obtain ⟨h1, h2, h3, h4⟩ := q
  exact ⟨h1, h2, va_K.moved (u := U) (U := U.calling g mk a) (Vm.Alike.refl U.vm) h3, fun w hw => va_Nw.same (u := U) (U := U.calling g mk a) rfl rfl (h4 w hw)⟩
/-- what the tables say of a method -/
def kMok (m : Nat) : Prop := Cond.code (ky m) (kcode m) (kml m) (kretT m) ∈ kgT ∧ Cond.initialized (ky m).cls ∈ kgT ∧ ((ky m).cls ≠ "java/lang/invoke/MethodHandle" ∧ (ky m).cls ≠ "java/lang/invoke/VarHandle" ∧ (parseMethodDescriptor (ky m).desc).map (fun d => d.parameters.length) = some (knar_ m)) ∧ plainName (ky m).cls = true
def kCallS (l : Launch) (G : KG) (m pc m' n nx : Nat) : Prop := kOK G → ∀ (p : Program) (e : Env) (s : State) (mid : MethodId) (args : Array Value) (below : List Frame) (meth : Method) (cd : Code) (Q : State → Prop), kCx G m p s mid meth cd args →
  ∀ (as rest ls : List Value) (M : KMem) (Q' : Option Value → KMem → Prop), as.length = n → kcall m' as rest = true → kMet l G m' as M Q' → ∀ (H : Heap) (locs : List Loc) (la : Array Slot), kRep G M H → va_S G.2.2.2.2 s.heap H locs → kL G (kml m) ls la →
  (∀ (r : Option Value) (M' : KMem) (H' : Heap) (locs' : List Loc), Q' r M' → kRep G M' H' → va_S G.2.2.2.2 s.heap H' locs' → W p l e (krm m) s mid args below meth cd H' locs' 0 0 Q (F0 mid nx la ((r.toList ++ rest).map (conc G.1)))) →
  W p l e (krm m) s mid args below meth cd H locs 0 0 Q (F0 mid pc la ((as.reverse ++ rest).map (conc G.1)))
section KCALL
variable {l : Launch} {G : KG} {m m' pc : Nat} {p : Program} {e : Env} {s : State} {mid : MethodId} {args : Array Value} {below : List Frame} {meth : Method} {cd : Code} {Q : State → Prop}
/-- behind a run of the callee -/
theorem kback {rest : List Value} {Q' : Option Value → KMem → Prop} {H : Heap} {locs : List Loc} {la : Array Slot} {a : Array Value} {st0 : List Value} {nx : Nat} (hnx : nx = pc + 3)
    (hr : va_Run p l e (krm m) s mid args below meth cd H locs 0 0 0 0 (F0 mid pc la st0) (rest.map (conc G.1)) (kQ G m' Q' a) G.2.2.2.2) (hS : va_S G.2.2.2.2 s.heap H locs)
    (kk : ∀ (r : Option Value) (M' : KMem) (H' : Heap) (locs' : List Loc), Q' r M' → kRep G M' H' → va_S G.2.2.2.2 s.heap H' locs' → W p l e (krm m) s mid args below meth cd H' locs' 0 0 Q (F0 mid nx la ((r.toList ++ rest).map (conc G.1)))) :
    W p l e (krm m) s mid args below meth cd H locs 0 0 Q (F0 mid pc la st0) := by
  subst hnx
  unfold kQ at hr
  by_cases hc : krc m' = 0
  · rw [if_pos hc] at hr
    exact va_callv hr hS (fun q _ h => h) (fun q h => h) (fun u t H1 locs1 ht _ hw hB _ _ hS1 => by
      rw [ht] at hB
      exact kk none u H1 locs1 hw hB hS1)
  · rw [if_neg hc] at hr
    exact va_calli hr hS (fun q _ h => h) (fun q h => h) (fun r u t H1 locs1 ht _ hw hB _ _ hS1 => by
      rw [ht] at hB
      exact kk (some (.int r)) u H1 locs1 hw hB hS1)
theorem kfix (cx : kCx G m p s mid meth cd args) : CallFix p mid cd (kcode m) (kml m) s args (kws m) (kown m) := ⟨cx.1, cx.2.1, cx.2.2.1, cx.2.2.2.2.1, cx.2.2.2.2.2.1⟩
theorem kgood (h1 : Cond.code (ky m') (kcode m') (kml m') (kretT m') ∈ kgT) : GoodIn (kws m) (kws m') := by
  intro w hw
  rcases List.mem_cons.mp hw with rfl | hw
  · exact kg_good h1
  · exact kg_good hw
theorem krest {as rest : List Value} (hc : kcall m' as rest = true) (la : Array Slot) (st0 : List Value) : 2 * (F0 mid pc la st0).monitorRoom + ((rest.map (conc G.1)).map fun v => v.category).sum ≤ 8 := by
  have h : kcat rest ≤ 8 := by
    unfold kcall at hc
    simp only [Bool.and_eq_true, decide_eq_true_eq] at hc
    exact hc.1.1.2
  exact lv_room (by rw [kcat_map]; exact h)
end KCALL
theorem kd_obj {G : KG} {k c : Nat} {M : KMem} (h : kd k = c) (hc : c < 5) : (kw G M)[k]? = some (G.1 k, .inr (c, kfs G.1 k (M k))) := by rw [kw_get (kd_lt (by omega)), kentr_obj h hc]
theorem snd_callV {l : Launch} {G : KG} {m pc m' nx n idx c N : Nat} {C : String} {T : u_T} (hd : decode (kcode m) pc = .ok (.invokevirtual idx, 3)) (hnx : nx = pc + 3) (hok : kMok m') (hst : kstat m' = false) (hcl : vwCl[c]? = some (C, T, N)) (hcc : kcls m' = c) (hC : (ky m').cls = C) (hc5 : c < 5) (hn : n = knar_ m' + 1)
    (hl : Cond.methodLink (kown m) idx (ky m') ∈ kgT) (hi : Cond.instanceMethod (ky m') ∈ kgT) (hs : Cond.selects C (ky m') (ky m') ∈ kgT) (hini : Cond.initialized C ∈ kgT) (hf : krf m' + 1 ≤ krf m ∧ 8 + (kml m' + 11) + krl m' ≤ krl m) : kCallS l G m pc m' n nx := by
  intro hG p e s mid args below meth cd Q cx as rest ls M Q' hlen hcall hM H locs la hR hS hL kk
  have hrecv : krecv m' as = true := by
    have h := hcall
    unfold kcall at h
    rw [hst] at h
    simp only [Bool.and_eq_true, Bool.false_or] at h
    exact h.1.2
  match as, hlen, hcall, hrecv, hM with
  | .ref k :: as', hlen, hcall, hrecv, hM =>
    have hk : kd k = c := by
      have := Nat.eq_of_beq_eq_true hrecv
      rw [hcc] at this
      exact this
    have hT : GoodIn (kws m) (wsV (kown m) idx C (ky m') (kws m')) := by
      intro w hw
      unfold wsV at hw
      rcases List.mem_append.mp hw with h | h
      · simp only [List.mem_cons, List.not_mem_nil, or_false] at h
        rcases h with rfl | rfl | rfl | rfl
        · exact kg_good hl
        · exact kg_good hi
        · exact kg_good hs
        · exact kg_good hini
      · exact kgood hok.1 w h
    refine kback (a := ((Value.ref k :: as').map (conc G.1)).toArray) hnx (va_runV (As := as'.map (conc G.1)) (b := G.1 k) (kfix cx) hM (cwV (rm := krm m') (mc := 0) (ms := 0) (knar_ m') cx.2.2.2.2.2.1 hT rfl rfl rfl ⟨hC, hok.2.2.1.1, hok.2.2.1.2.1, hok.2.2.1.2.2⟩ hf) ⟨kPc_blind, va_recv cx.2.2.2.2.2.2.2.1 hR hcl (kd_obj hk hc5), fun U hU hW => ⟨rfl, by rw [hU]; exact hR, cx.2.2.2.2.2.2.2.warm hW⟩⟩ rfl ?_ hL.2.1 ?_ (krest hcall la _) hd ⟨Nat.zero_le _, Nat.zero_le _⟩) hS kk
    · simp only [List.length_cons] at hlen
      rw [List.length_map]
      omega
    · simp [List.map_append, List.map_reverse, conc]
theorem snd_callS {l : Launch} {G : KG} {m pc m' nx n idx : Nat} (hd : decode (kcode m) pc = .ok (.invokestatic idx, 3)) (hnx : nx = pc + 3) (hok : kMok m') (hst : kstat m' = true) (hC : (ky m').cls = kown m) (hn : n = knar_ m')
    (hl : Cond.methodLink (kown m) idx (ky m') ∈ kgT) (hs : Cond.static (ky m') ∈ kgT) (hini : Cond.initialized (kown m) ∈ kgT) (hf : krf m' + 1 ≤ krf m ∧ 8 + (kml m' + 11) + krl m' ≤ krl m) : kCallS l G m pc m' n nx := by
  intro hG p e s mid args below meth cd Q cx as rest ls M Q' hlen hcall hM H locs la hR hS hL kk
  have hT : GoodIn (kws m) (wsS (kown m) idx (ky m') (kws m')) := by
    intro w hw
    unfold wsS at hw
    rcases List.mem_append.mp hw with h | h
    · simp only [List.mem_cons, List.not_mem_nil, or_false] at h
      rcases h with rfl | rfl | rfl
      · exact kg_good hl
      · exact kg_good hs
      · exact kg_good hini
    · exact kgood hok.1 w h
  refine kback (a := (as.map (conc G.1)).toArray) hnx (va_runS (As := as.map (conc G.1)) (kfix cx) hM (cwS (rm := krm m') (mc := 0) (ms := 0) (knar_ m') cx.2.2.2.2.2.1 hT rfl rfl rfl ⟨hC, hok.2.2.1.1, hok.2.2.1.2.1, hok.2.2.1.2.2⟩ hf) ⟨kPc_blind, fun U hU hW => ⟨rfl, by rw [hU]; exact hR, cx.2.2.2.2.2.2.2.warm hW⟩⟩ rfl ?_ hL.2.1 ?_ (krest hcall la _) hd ⟨Nat.zero_le _, Nat.zero_le _⟩) hS kk
  · rw [List.length_map]
    omega
  · simp [List.map_append, List.map_reverse]
theorem snd_callSN {l : Launch} {G : KG} {m pc m' nx n idx : Nat} {host : String} (hd : decode (kcode m) pc = .ok (.invokestatic idx, 3)) (hnx : nx = pc + 3) (hok : kMok m') (hst : kstat m' = true) (hn : n = knar_ m')
    (hl : (kown m, idx, ky m', host) ∈ knestD) (hs : Cond.static (ky m') ∈ kgT) (hf : krf m' + 1 ≤ krf m ∧ 8 + (kml m' + 11) + krl m' ≤ krl m) : kCallS l G m pc m' n nx := by
  intro hG p e s mid args below meth cd Q cx as rest ls M Q' hlen hcall hM H locs la hR hS hL kk
  refine kback (a := (as.map (conc G.1)).toArray) hnx (va_runSN (As := as.map (conc G.1)) (kfix cx) hM ⟨va_cnB (rm := krm m') (mc := 0) (ms := 0) (knar_ m') cx.2.2.2.2.2.1 (kgood hok.1) rfl rfl rfl (cx.2.2.2.2.2.2.2.2 _ hl) (cx.word hok.2.1) hok.2.2.1 hf, cx.word hs, trivial⟩ ⟨kPc_blind, fun U hU hW => ⟨rfl, by rw [hU]; exact hR, cx.2.2.2.2.2.2.2.warm hW⟩⟩ rfl ?_ hL.2.1 ?_ (krest hcall la _) hd ⟨Nat.zero_le _, Nat.zero_le _⟩) hS kk
  · rw [List.length_map]
    omega
  · simp [List.map_append, List.map_reverse]
def kRetS (m pc c : Nat) : Prop := krc m = c ∧ ((c = 0 ∧ decode (kcode m) pc = .ok (.return_, 1) ∧ kretT m = none) ∨ (c = 1 ∧ decode (kcode m) pc = .ok (.ireturn, 1) ∧ kretT m = some .int) ∨ (c = 2 ∧ decode (kcode m) pc = .ok (.ireturn, 1) ∧ kretT m = some .boolean))
def kOpOK (l : Launch) (G : KG) (m pc : Nat) (op : KOp) : Prop := match op with
  | .inl g => kSnd l G m pc g
  | .inr (.inl y) => kCallS l G m pc y.1 y.2.1 y.2.2 ∧ y.2.1 = kna y.1 ∧ kMok y.1
  | .inr (.inr c) => kRetS m pc c
theorem lv_args_mem {vs : List Value} (h : ∀ v ∈ vs, v.category = 1) : ∀ (k i : Nat) (v : Value), vs[i]? = some v → (k + i, v) ∈ lv_args k vs := by
  induction vs with
  | nil => intro k i v hv; simp at hv
  | cons a t ih =>
    intro k i v hv
    cases i with
    | zero =>
      simp only [List.getElem?_cons_zero, Option.some.injEq] at hv
      subst hv
      exact List.mem_cons_self
    | succ i =>
      simp only [List.getElem?_cons_succ] at hv
      refine List.mem_cons_of_mem _ ?_
      rw [if_neg (by rw [h a List.mem_cons_self]; decide)]
      have := ih (fun v hv => h v (List.mem_cons_of_mem _ hv)) (k + 1) i v hv
      rwa [show k + (i + 1) = k + 1 + i from by omega]
theorem lg_sl_len {vs : List Value} (h : ∀ v ∈ vs, v.category = 1) : (lg_sl vs).length = vs.length := by
  unfold lg_sl
  induction vs with
  | nil => rfl
  | cons a t ih =>
    rw [List.flatMap_cons, if_neg (by rw [h a List.mem_cons_self]; decide), List.length_append, ih (fun v hv => h v (List.mem_cons_of_mem _ hv))]
    simp; omega
theorem kentry {G : KG} {m : Nat} {as : List Value} (hcat : as.all kNL = true) (hlen : as.length ≤ kml m) : kL G (kml m) (kent m as) ((lg_sl (as.map (conc G.1)) ++ List.replicate (kml m - (lg_sl (as.map (conc G.1))).length) Slot.unset).toArray) := by
  have hc : ∀ v ∈ as.map (conc G.1), v.category = 1 := by
    intro v hv
    obtain ⟨w, hw, rfl⟩ := List.mem_map.mp hv
    rw [conc_cat]
    exact kNL_cat.mp (List.all_eq_true.mp hcat w hw)
  have hh := lv_entry (as.map (conc G.1)) (n := kml m) (by rw [lg_sl_len hc, List.length_map]; exact hlen)
  refine ⟨by simp [kent]; omega, hh.1, hh.2.1, fun i v hi hv => ?_⟩
  have hlt : i < as.length := by
    rcases Nat.lt_or_ge i as.length with q | q
    · exact q
    · exfalso
      unfold kent at hi
      rw [List.getElem?_append_right q] at hi
      have := List.mem_of_getElem? hi
      exact hv (List.eq_of_mem_replicate this)
  have hi2 : as[i]? = some v := by
    unfold kent at hi
    rwa [List.getElem?_append_left hlt] at hi
  have h3 := lv_args_mem hc 0 i (conc G.1 v) (by rw [List.getElem?_map, hi2]; rfl)
  rw [Nat.zero_add] at h3
  exact hh.2.2 _ h3
/-- from a walk of the body to the contract -/
theorem kmet_of {l : Launch} {G : KG} {m : Nat} {as : List Value} {M : KMem} {Q : Option Value → KMem → Prop} (hok : kMok m) (hcat : as.all kNL = true) (hlen : as.length ≤ kml m)
    (body : ∀ (p : Program) (e : Env) (s : State) (mid : MethodId) (args : Array Value) (below : List Frame) (meth : Method) (cd : Code), kCx G m p s mid meth cd args → ∀ (H : Heap) (locs : List Loc) (la : Array Slot), kRep G M H → va_S G.2.2.2.2 s.heap H locs → kL G (kml m) (kent m as) la →
      W p l e (krm m) s mid args below meth cd H locs 0 0 (MQ below (kQ G m Q) args s 0 0 G.2.2.2.2) (F0 mid 0 la [])) (hown : kown m = (ky m).cls) : kMet l G m as M Q := by
  refine Met.ofW (cc := kcode m) (maxL := kml m) (ret := kretT m) hok.2.2.2 rfl ?_
  intro p e s mid args below meth cd s₁ B hml hv
  obtain ⟨rfl, hR, hK⟩ := hv
  have hts := atoms_spec (ws := kws m) B.pre
  have hfc : s.vm.findClass (kown m) = some mid.cls := by rw [hown]; exact findClass_of_methodNamed B.named
  rw [lg_entry_eq]
  exact body p e s mid _ below meth cd ⟨B.exec, B.bytes, hml, B.returns, hfc, hts, B.notSynchronized, hK⟩ s.heap [] _ hR va_S.rf (kentry hcat hlen)
theorem kret0 {st : List Value} {M : KMem} {o : Option Value × KMem} (h : kret 0 st M = some o) : st = [] ∧ o = (none, M) := by
  match st, h with
  | [], h => cases h; exact ⟨rfl, rfl⟩
  | _ :: _, h => cases h
theorem kret1 {st : List Value} {M : KMem} {o : Option Value × KMem} (h : kret 1 st M = some o) : ∃ v, st = [.int v] ∧ o = (some (.int v), M) := by
  match st, h with
  | [], h => cases h
  | [.int v], h => cases h; exact ⟨v, rfl, rfl⟩
  | [.long v], h => cases h
  | [.float v], h => cases h
  | [.double v], h => cases h
  | [.null], h => cases h
  | [.ref v], h => cases h
  | [.retAddr v], h => cases h
  | a :: _ :: _, h => cases a <;> cases h
theorem kret2 {st : List Value} {M : KMem} {o : Option Value × KMem} (h : kret 2 st M = some o) : ∃ v, st = [.int v] ∧ (v = 0 ∨ v = 1) ∧ o = (some (.int v), M) := by
  match st, h with
  | [], h => cases h
  | [.int v], h =>
    have h : (if v = 0 ∨ v = 1 then some (some (Value.int v), M) else none) = some o := h
    split at h
    · rename_i hv; cases h; exact ⟨v, rfl, hv, rfl⟩
    · cases h
  | [.long v], h => cases h
  | [.float v], h => cases h
  | [.double v], h => cases h
  | [.null], h => cases h
  | [.ref v], h => cases h
  | [.retAddr v], h => cases h
  | a :: _ :: _, h => cases a <;> cases h
theorem kbody {l : Launch} {G : KG} (hG : kOK G) (hop : ∀ (m pc : Nat) (op : KOp), kprog m pc = some op → kOpOK l G m pc op) (hown : ∀ m, m < kn → kown m = (ky m).cls) (hlt : ∀ m pc op, kprog m pc = some op → m < kn) :
    ∀ (f m pc : Nat) (ls st : List Value) (M : KMem) (o : Option Value × KMem), krun f m pc ls st M = some o → ∀ (p : Program) (e : Env) (s : State) (mid : MethodId) (args : Array Value) (below : List Frame) (meth : Method) (cd : Code), kCx G m p s mid meth cd args →
      ∀ (H : Heap) (locs : List Loc) (la : Array Slot), kRep G M H → va_S G.2.2.2.2 s.heap H locs → kL G (kml m) ls la → W p l e (krm m) s mid args below meth cd H locs 0 0 (MQ below (kQ G m (fun r M' => r = o.1 ∧ M' = o.2)) args s 0 0 G.2.2.2.2) (F0 mid pc la (st.map (conc G.1))) := by
  intro f
  induction f with
  | zero => intro m pc ls st M o h; simp [krun] at h
  | succ f ih =>
    intro m pc ls st M o h p e s mid args below meth cd cx H locs la hR hS hL
    rw [krun] at h
    cases hp : kprog m pc with
    | none => rw [hp] at h; simp at h
    | some op =>
      rw [hp] at h
      have hok := hop m pc op hp
      rcases op with g | y | c
      · dsimp only at h
        cases hg : g ls st M with
        | none => rw [hg] at h; simp at h
        | some cc =>
          obtain ⟨pc', ls', st', M'⟩ := cc
          rw [hg] at h
          dsimp only at h
          exact hok hG p e s mid args below meth cd _ cx ls st M pc' ls' st' M' hg H locs la hR hS hL (fun H' locs' la' hR' hS' hL' => ih m pc' ls' st' M' o h p e s mid args below meth cd cx H' locs' la' hR' hS' hL')
      · obtain ⟨m', n, nx⟩ := y
        dsimp only at h
        obtain ⟨hcs, hn, hmok⟩ := hok
        dsimp only at hcs hn hmok
        by_cases hc : kcall m' (st.take n).reverse (st.drop n) = true
        · rw [if_pos hc] at h
          cases hr : krun f m' 0 (kent m' (st.take n).reverse) [] M with
          | none => rw [hr] at h; simp at h
          | some o1 =>
            rw [hr] at h
            dsimp only at h
            have hp' : m' < kn := by
              cases f with
              | zero => simp [krun] at hr
              | succ f =>
                rw [krun] at hr
                cases hq : kprog m' 0 with
                | none => rw [hq] at hr; simp at hr
                | some op' => exact hlt m' 0 op' hq
            have hcc := hc
            unfold kcall at hcc
            simp only [Bool.and_eq_true, decide_eq_true_eq] at hcc
            have hM : kMet l G m' (st.take n).reverse M (fun r M' => r = o1.1 ∧ M' = o1.2) :=
              kmet_of hmok hcc.1.1.1 hcc.2.1 (fun p e s mid args below meth cd cx H locs la hR hS hL => ih m' 0 _ [] M o1 hr p e s mid args below meth cd cx H locs la hR hS hL) (hown m' hp')
            have hlen : (st.take n).reverse.length = n := by
              rw [Nat.eq_of_beq_eq_true hcc.2.2, hn]
            have hst : st = (st.take n).reverse.reverse ++ st.drop n := by rw [List.reverse_reverse, List.take_append_drop]
            rw [hst]
            refine hcs hG p e s mid args below meth cd _ cx (st.take n).reverse (st.drop n) ls M _ hlen hc hM H locs la hR hS hL (fun r M' H' locs' hq hR' hS' => ?_)
            obtain ⟨rfl, rfl⟩ := hq
            exact ih m nx ls _ o1.2 o h p e s mid args below meth cd cx H' locs' la hR' hS' hL
        · rw [if_neg hc] at h
          cases h
      · dsimp only at h
        obtain ⟨hrc, hk⟩ := hok
        rcases hk with ⟨rfl, hd, hrt⟩ | ⟨rfl, hd, hrt⟩ | ⟨rfl, hd, hrt⟩
        · obtain ⟨rfl, rfl⟩ := kret0 h
          have hr : meth.sig.returnType = none := cx.2.2.2.1.trans hrt
          have hlocks := cx.2.2.2.2.2.2.1
          exact W.vret cx.1 cx.2.1 hr (fun t ht hW => by
            unfold kQ
            rw [if_pos hrc]
            exact ⟨⟨M, rfl, ⟨rfl, rfl⟩, by show kRep G M t.heap; rw [ht]; exact hR⟩, hS.F ht⟩) hS.2.2 hd hlocks
        · obtain ⟨v, rfl, rfl⟩ := kret1 h
          have hr : meth.sig.returnType = some .int := cx.2.2.2.1.trans hrt
          have hlocks := cx.2.2.2.2.2.2.1
          exact W.iret cx.1 cx.2.1 hr (fun t ht hW => by
            unfold kQ
            rw [if_neg (by omega)]
            exact ⟨⟨v, M, rfl, ⟨rfl, rfl⟩, by show kRep G M t.heap; rw [ht]; exact hR⟩, hS.F ht⟩) hS.2.2 hd hlocks
        · obtain ⟨v, rfl, hv, rfl⟩ := kret2 h
          have hr : meth.sig.returnType = some .boolean := cx.2.2.2.1.trans hrt
          have hlocks := cx.2.2.2.2.2.2.1
          exact W.zret cx.1 cx.2.1 hr (by rcases hv with rfl | rfl <;> rfl) (fun t ht hW => by
            unfold kQ
            rw [if_neg (by omega)]
            exact ⟨⟨v, M, rfl, ⟨rfl, rfl⟩, by show kRep G M t.heap; rw [ht]; exact hR⟩, hS.F ht⟩) hS.2.2 hd hlocks
end
section
theorem wY_0_0 : u_lay RX0 TX0 0 ∈ kgT := kg_mem 152 (by decide +kernel) (by decide +kernel)
theorem wY_0_1 : u_lay RX0 TX0 1 ∈ kgT := kg_mem 154 (by decide +kernel) (by decide +kernel)
theorem wY_0_2 : u_lay RX0 TX0 2 ∈ kgT := kg_mem 156 (by decide +kernel) (by decide +kernel)
theorem wY_0_3 : u_lay RX0 TX0 3 ∈ kgT := kg_mem 158 (by decide +kernel) (by decide +kernel)
theorem wY_0_4 : u_lay RX0 TX0 4 ∈ kgT := kg_mem 160 (by decide +kernel) (by decide +kernel)
theorem wY_1_0 : u_lay RX1 TX1 0 ∈ kgT := kg_mem 108 (by decide +kernel) (by decide +kernel)
theorem wY_1_1 : u_lay RX1 TX1 1 ∈ kgT := kg_mem 110 (by decide +kernel) (by decide +kernel)
theorem wY_1_2 : u_lay RX1 TX1 2 ∈ kgT := kg_mem 112 (by decide +kernel) (by decide +kernel)
theorem wY_1_3 : u_lay RX1 TX1 3 ∈ kgT := kg_mem 114 (by decide +kernel) (by decide +kernel)
theorem wY_1_4 : u_lay RX1 TX1 4 ∈ kgT := kg_mem 116 (by decide +kernel) (by decide +kernel)
theorem wY_1_5 : u_lay RX1 TX1 5 ∈ kgT := kg_mem 118 (by decide +kernel) (by decide +kernel)
theorem wY_1_6 : u_lay RX1 TX1 6 ∈ kgT := kg_mem 120 (by decide +kernel) (by decide +kernel)
theorem wY_1_7 : u_lay RX1 TX1 7 ∈ kgT := kg_mem 122 (by decide +kernel) (by decide +kernel)
theorem wY_1_8 : u_lay RX1 TX1 8 ∈ kgT := kg_mem 124 (by decide +kernel) (by decide +kernel)
theorem wY_1_9 : u_lay RX1 TX1 9 ∈ kgT := kg_mem 126 (by decide +kernel) (by decide +kernel)
theorem wY_1_10 : u_lay RX1 TX1 10 ∈ kgT := kg_mem 128 (by decide +kernel) (by decide +kernel)
theorem wY_1_11 : u_lay RX1 TX1 11 ∈ kgT := kg_mem 130 (by decide +kernel) (by decide +kernel)
theorem wY_1_12 : u_lay RX1 TX1 12 ∈ kgT := kg_mem 132 (by decide +kernel) (by decide +kernel)
theorem wY_1_13 : u_lay RX1 TX1 13 ∈ kgT := kg_mem 134 (by decide +kernel) (by decide +kernel)
theorem wY_2_0 : u_lay RX2 TX2 0 ∈ kgT := kg_mem 70 (by decide +kernel) (by decide +kernel)
theorem wY_2_1 : u_lay RX2 TX2 1 ∈ kgT := kg_mem 72 (by decide +kernel) (by decide +kernel)
theorem wY_2_2 : u_lay RX2 TX2 2 ∈ kgT := kg_mem 74 (by decide +kernel) (by decide +kernel)
theorem wY_2_3 : u_lay RX2 TX2 3 ∈ kgT := kg_mem 76 (by decide +kernel) (by decide +kernel)
theorem wY_3_0 : u_lay RX3 TX3 0 ∈ kgT := kg_mem 171 (by decide +kernel) (by decide +kernel)
theorem wY_3_1 : u_lay RX3 TX3 1 ∈ kgT := kg_mem 173 (by decide +kernel) (by decide +kernel)
theorem wY_3_2 : u_lay RX3 TX3 2 ∈ kgT := kg_mem 175 (by decide +kernel) (by decide +kernel)
theorem wY_3_3 : u_lay RX3 TX3 3 ∈ kgT := kg_mem 177 (by decide +kernel) (by decide +kernel)
theorem wY_3_4 : u_lay RX3 TX3 4 ∈ kgT := kg_mem 179 (by decide +kernel) (by decide +kernel)
theorem wY_3_5 : u_lay RX3 TX3 5 ∈ kgT := kg_mem 181 (by decide +kernel) (by decide +kernel)
theorem wY_4_0 : u_lay RX4 TX4 0 ∈ kgT := kg_mem 476 (by decide +kernel) (by decide +kernel)
theorem wY_4_1 : u_lay RX4 TX4 1 ∈ kgT := kg_mem 478 (by decide +kernel) (by decide +kernel)
theorem wY_4_2 : u_lay RX4 TX4 2 ∈ kgT := kg_mem 480 (by decide +kernel) (by decide +kernel)
theorem wY_4_3 : u_lay RX4 TX4 3 ∈ kgT := kg_mem 482 (by decide +kernel) (by decide +kernel)
theorem wY_4_4 : u_lay RX4 TX4 4 ∈ kgT := kg_mem 484 (by decide +kernel) (by decide +kernel)
theorem wY_4_5 : u_lay RX4 TX4 5 ∈ kgT := kg_mem 486 (by decide +kernel) (by decide +kernel)
theorem wY_4_6 : u_lay RX4 TX4 6 ∈ kgT := kg_mem 488 (by decide +kernel) (by decide +kernel)
theorem wY_4_7 : u_lay RX4 TX4 7 ∈ kgT := kg_mem 490 (by decide +kernel) (by decide +kernel)
theorem wI_0 : Cond.initialized RX0 ∈ kgT := kg_mem 33 (by decide +kernel) (by decide +kernel)
theorem wC_X0_readPairs : Cond.code yX0_readPairs cX0_readPairs 3 (some .int) ∈ kgT := kg_mem 261 (by decide +kernel) (by decide +kernel)
theorem wN_X0_readPairs : Cond.instanceMethod yX0_readPairs ∈ kgT := kg_mem 259 (by decide +kernel) (by decide +kernel)
theorem wL_X0_readPairs : Cond.selects RX0 yX0_readPairs yX0_readPairs ∈ kgT := kg_mem 260 (by decide +kernel) (by decide +kernel)
theorem wC_X0_forget : Cond.code yX0_forget cX0_forget 2 none ∈ kgT := kg_mem 265 (by decide +kernel) (by decide +kernel)
theorem wN_X0_forget : Cond.instanceMethod yX0_forget ∈ kgT := kg_mem 264 (by decide +kernel) (by decide +kernel)
theorem wL_X0_forget : Cond.selects RX0 yX0_forget yX0_forget ∈ kgT := kg_mem 1 (by decide +kernel) (by decide +kernel)
theorem wC_X0_readPair : Cond.code yX0_readPair cX0_readPair 2 (some .int) ∈ kgT := kg_mem 277 (by decide +kernel) (by decide +kernel)
theorem wN_X0_readPair : Cond.instanceMethod yX0_readPair ∈ kgT := kg_mem 276 (by decide +kernel) (by decide +kernel)
theorem wL_X0_readPair : Cond.selects RX0 yX0_readPair yX0_readPair ∈ kgT := kg_mem 4 (by decide +kernel) (by decide +kernel)
theorem wC_X0_readMass : Cond.code yX0_readMass cX0_readMass 6 (some .int) ∈ kgT := kg_mem 290 (by decide +kernel) (by decide +kernel)
theorem wN_X0_readMass : Cond.instanceMethod yX0_readMass ∈ kgT := kg_mem 289 (by decide +kernel) (by decide +kernel)
theorem wL_X0_readMass : Cond.selects RX0 yX0_readMass yX0_readMass ∈ kgT := kg_mem 7 (by decide +kernel) (by decide +kernel)
theorem wC_X0_skipSpaces : Cond.code yX0_skipSpaces cX0_skipSpaces 1 none ∈ kgT := kg_mem 269 (by decide +kernel) (by decide +kernel)
theorem wN_X0_skipSpaces : Cond.instanceMethod yX0_skipSpaces ∈ kgT := kg_mem 268 (by decide +kernel) (by decide +kernel)
theorem wL_X0_skipSpaces : Cond.selects RX0 yX0_skipSpaces yX0_skipSpaces ∈ kgT := kg_mem 2 (by decide +kernel) (by decide +kernel)
theorem wC_X0_isSign : Cond.code yX0_isSign cX0_isSign 2 (some .boolean) ∈ kgT := kg_mem 273 (by decide +kernel) (by decide +kernel)
theorem wN_X0_isSign : Cond.instanceMethod yX0_isSign ∈ kgT := kg_mem 272 (by decide +kernel) (by decide +kernel)
theorem wL_X0_isSign : Cond.selects RX0 yX0_isSign yX0_isSign ∈ kgT := kg_mem 3 (by decide +kernel) (by decide +kernel)
theorem wC_X0_isDigit : Cond.code yX0_isDigit cX0_isDigit 1 (some .boolean) ∈ kgT := kg_mem 281 (by decide +kernel) (by decide +kernel)
theorem wN_X0_isDigit : Cond.instanceMethod yX0_isDigit ∈ kgT := kg_mem 280 (by decide +kernel) (by decide +kernel)
theorem wL_X0_isDigit : Cond.selects RX0 yX0_isDigit yX0_isDigit ∈ kgT := kg_mem 5 (by decide +kernel) (by decide +kernel)
theorem wC_X0_digit : Cond.code yX0_digit cX0_digit 1 (some .int) ∈ kgT := kg_mem 286 (by decide +kernel) (by decide +kernel)
theorem wN_X0_digit : Cond.instanceMethod yX0_digit ∈ kgT := kg_mem 285 (by decide +kernel) (by decide +kernel)
theorem wL_X0_digit : Cond.selects RX0 yX0_digit yX0_digit ∈ kgT := kg_mem 6 (by decide +kernel) (by decide +kernel)
theorem wI_1 : Cond.initialized RX1 ∈ kgT := kg_mem 31 (by decide +kernel) (by decide +kernel)
theorem wC_X1_copyFrom : Cond.code yX1_copyFrom cX1_copyFrom 3 none ∈ kgT := kg_mem 201 (by decide +kernel) (by decide +kernel)
theorem wN_X1_copyFrom : Cond.instanceMethod yX1_copyFrom ∈ kgT := kg_mem 199 (by decide +kernel) (by decide +kernel)
theorem wL_X1_copyFrom : Cond.selects RX1 yX1_copyFrom yX1_copyFrom ∈ kgT := kg_mem 200 (by decide +kernel) (by decide +kernel)
theorem wC_X1_isTray : Cond.code yX1_isTray cX1_isTray 2 (some .boolean) ∈ kgT := kg_mem 342 (by decide +kernel) (by decide +kernel)
theorem wN_X1_isTray : Cond.instanceMethod yX1_isTray ∈ kgT := kg_mem 340 (by decide +kernel) (by decide +kernel)
theorem wL_X1_isTray : Cond.selects RX1 yX1_isTray yX1_isTray ∈ kgT := kg_mem 341 (by decide +kernel) (by decide +kernel)
theorem wC_X1_isSieve : Cond.code yX1_isSieve cX1_isSieve 2 (some .boolean) ∈ kgT := kg_mem 406 (by decide +kernel) (by decide +kernel)
theorem wN_X1_isSieve : Cond.instanceMethod yX1_isSieve ∈ kgT := kg_mem 404 (by decide +kernel) (by decide +kernel)
theorem wL_X1_isSieve : Cond.selects RX1 yX1_isSieve yX1_isSieve ∈ kgT := kg_mem 405 (by decide +kernel) (by decide +kernel)
theorem wC_X1_halveSample : Cond.code yX1_halveSample cX1_halveSample 6 none ∈ kgT := kg_mem 237 (by decide +kernel) (by decide +kernel)
theorem wN_X1_halveSample : Cond.instanceMethod yX1_halveSample ∈ kgT := kg_mem 235 (by decide +kernel) (by decide +kernel)
theorem wL_X1_halveSample : Cond.selects RX1 yX1_halveSample yX1_halveSample ∈ kgT := kg_mem 236 (by decide +kernel) (by decide +kernel)
theorem wC_X1_findSieve : Cond.code yX1_findSieve cX1_findSieve 3 (some .int) ∈ kgT := kg_mem 299 (by decide +kernel) (by decide +kernel)
theorem wN_X1_findSieve : Cond.instanceMethod yX1_findSieve ∈ kgT := kg_mem 297 (by decide +kernel) (by decide +kernel)
theorem wL_X1_findSieve : Cond.selects RX1 yX1_findSieve yX1_findSieve ∈ kgT := kg_mem 298 (by decide +kernel) (by decide +kernel)
theorem wC_X1_insertSieve : Cond.code yX1_insertSieve cX1_insertSieve 3 (some .int) ∈ kgT := kg_mem 314 (by decide +kernel) (by decide +kernel)
theorem wN_X1_insertSieve : Cond.instanceMethod yX1_insertSieve ∈ kgT := kg_mem 312 (by decide +kernel) (by decide +kernel)
theorem wL_X1_insertSieve : Cond.selects RX1 yX1_insertSieve yX1_insertSieve ∈ kgT := kg_mem 313 (by decide +kernel) (by decide +kernel)
theorem wC_X1_takeSieve : Cond.code yX1_takeSieve cX1_takeSieve 3 none ∈ kgT := kg_mem 322 (by decide +kernel) (by decide +kernel)
theorem wN_X1_takeSieve : Cond.instanceMethod yX1_takeSieve ∈ kgT := kg_mem 320 (by decide +kernel) (by decide +kernel)
theorem wL_X1_takeSieve : Cond.selects RX1 yX1_takeSieve yX1_takeSieve ∈ kgT := kg_mem 321 (by decide +kernel) (by decide +kernel)
theorem wC_X1_endAnalysis : Cond.code yX1_endAnalysis cX1_endAnalysis 2 none ∈ kgT := kg_mem 303 (by decide +kernel) (by decide +kernel)
theorem wN_X1_endAnalysis : Cond.instanceMethod yX1_endAnalysis ∈ kgT := kg_mem 301 (by decide +kernel) (by decide +kernel)
theorem wL_X1_endAnalysis : Cond.selects RX1 yX1_endAnalysis yX1_endAnalysis ∈ kgT := kg_mem 302 (by decide +kernel) (by decide +kernel)
theorem wC_X1_beginAnalysis : Cond.code yX1_beginAnalysis cX1_beginAnalysis 2 none ∈ kgT := kg_mem 365 (by decide +kernel) (by decide +kernel)
theorem wN_X1_beginAnalysis : Cond.instanceMethod yX1_beginAnalysis ∈ kgT := kg_mem 363 (by decide +kernel) (by decide +kernel)
theorem wL_X1_beginAnalysis : Cond.selects RX1 yX1_beginAnalysis yX1_beginAnalysis ∈ kgT := kg_mem 364 (by decide +kernel) (by decide +kernel)
theorem wC_X1_shakeOneMinute : Cond.code yX1_shakeOneMinute cX1_shakeOneMinute 2 (some .int) ∈ kgT := kg_mem 374 (by decide +kernel) (by decide +kernel)
theorem wN_X1_shakeOneMinute : Cond.instanceMethod yX1_shakeOneMinute ∈ kgT := kg_mem 372 (by decide +kernel) (by decide +kernel)
theorem wL_X1_shakeOneMinute : Cond.selects RX1 yX1_shakeOneMinute yX1_shakeOneMinute ∈ kgT := kg_mem 373 (by decide +kernel) (by decide +kernel)
theorem wC_X1_lostMass : Cond.code yX1_lostMass cX1_lostMass 4 (some .int) ∈ kgT := kg_mem 414 (by decide +kernel) (by decide +kernel)
theorem wN_X1_lostMass : Cond.instanceMethod yX1_lostMass ∈ kgT := kg_mem 412 (by decide +kernel) (by decide +kernel)
theorem wL_X1_lostMass : Cond.selects RX1 yX1_lostMass yX1_lostMass ∈ kgT := kg_mem 413 (by decide +kernel) (by decide +kernel)
theorem wC_X1_hasCollected : Cond.code yX1_hasCollected cX1_hasCollected 1 (some .boolean) ∈ kgT := kg_mem 427 (by decide +kernel) (by decide +kernel)
theorem wN_X1_hasCollected : Cond.instanceMethod yX1_hasCollected ∈ kgT := kg_mem 425 (by decide +kernel) (by decide +kernel)
theorem wL_X1_hasCollected : Cond.selects RX1 yX1_hasCollected yX1_hasCollected ∈ kgT := kg_mem 426 (by decide +kernel) (by decide +kernel)
theorem wC_X1_passingOf : Cond.code yX1_passingOf cX1_passingOf 2 (some .int) ∈ kgT := kg_mem 435 (by decide +kernel) (by decide +kernel)
theorem wN_X1_passingOf : Cond.instanceMethod yX1_passingOf ∈ kgT := kg_mem 433 (by decide +kernel) (by decide +kernel)
theorem wL_X1_passingOf : Cond.selects RX1 yX1_passingOf yX1_passingOf ∈ kgT := kg_mem 434 (by decide +kernel) (by decide +kernel)
theorem wC_X1_collectedFrom : Cond.code yX1_collectedFrom cX1_collectedFrom 4 (some .int) ∈ kgT := kg_mem 431 (by decide +kernel) (by decide +kernel)
theorem wN_X1_collectedFrom : Cond.instanceMethod yX1_collectedFrom ∈ kgT := kg_mem 429 (by decide +kernel) (by decide +kernel)
theorem wL_X1_collectedFrom : Cond.selects RX1 yX1_collectedFrom yX1_collectedFrom ∈ kgT := kg_mem 430 (by decide +kernel) (by decide +kernel)
theorem wI_2 : Cond.initialized RX2 ∈ kgT := kg_mem 32 (by decide +kernel) (by decide +kernel)
theorem wC_X2_copyFrom : Cond.code yX2_copyFrom cX2_copyFrom 2 none ∈ kgT := kg_mem 214 (by decide +kernel) (by decide +kernel)
theorem wN_X2_copyFrom : Cond.instanceMethod yX2_copyFrom ∈ kgT := kg_mem 212 (by decide +kernel) (by decide +kernel)
theorem wL_X2_copyFrom : Cond.selects RX2 yX2_copyFrom yX2_copyFrom ∈ kgT := kg_mem 213 (by decide +kernel) (by decide +kernel)
theorem wC_X2_throwAway : Cond.code yX2_throwAway cX2_throwAway 1 none ∈ kgT := kg_mem 307 (by decide +kernel) (by decide +kernel)
theorem wN_X2_throwAway : Cond.instanceMethod yX2_throwAway ∈ kgT := kg_mem 305 (by decide +kernel) (by decide +kernel)
theorem wL_X2_throwAway : Cond.selects RX2 yX2_throwAway yX2_throwAway ∈ kgT := kg_mem 306 (by decide +kernel) (by decide +kernel)
theorem wC_X2_openness : Cond.code yX2_openness cX2_openness 2 (some .int) ∈ kgT := kg_mem 347 (by decide +kernel) (by decide +kernel)
theorem wN_X2_openness : Cond.instanceMethod yX2_openness ∈ kgT := kg_mem 345 (by decide +kernel) (by decide +kernel)
theorem wL_X2_openness : Cond.selects RX2 yX2_openness yX2_openness ∈ kgT := kg_mem 346 (by decide +kernel) (by decide +kernel)
theorem wC_X2_dropOnto : Cond.code yX2_dropOnto cX2_dropOnto 7 (some .int) ∈ kgT := kg_mem 378 (by decide +kernel) (by decide +kernel)
theorem wN_X2_dropOnto : Cond.instanceMethod yX2_dropOnto ∈ kgT := kg_mem 376 (by decide +kernel) (by decide +kernel)
theorem wL_X2_dropOnto : Cond.selects RX2 yX2_dropOnto yX2_dropOnto ∈ kgT := kg_mem 377 (by decide +kernel) (by decide +kernel)
theorem wC_X2_blind : Cond.code yX2_blind cX2_blind 3 none ∈ kgT := kg_mem 393 (by decide +kernel) (by decide +kernel)
theorem wN_X2_blind : Cond.instanceMethod yX2_blind ∈ kgT := kg_mem 391 (by decide +kernel) (by decide +kernel)
theorem wL_X2_blind : Cond.selects RX2 yX2_blind yX2_blind ∈ kgT := kg_mem 392 (by decide +kernel) (by decide +kernel)
theorem wC_X2_fallingOf : Cond.code yX2_fallingOf cX2_fallingOf 3 (some .int) ∈ kgT := kg_mem 385 (by decide +kernel) (by decide +kernel)
theorem wS_X2_fallingOf : Cond.static yX2_fallingOf ∈ kgT := kg_mem 384 (by decide +kernel) (by decide +kernel)
theorem wC_X2_easeOf : Cond.code yX2_easeOf cX2_easeOf 1 (some .int) ∈ kgT := kg_mem 382 (by decide +kernel) (by decide +kernel)
theorem wS_X2_easeOf : Cond.static yX2_easeOf ∈ kgT := kg_mem 381 (by decide +kernel) (by decide +kernel)
theorem wI_3 : Cond.initialized RX3 ∈ kgT := kg_mem 30 (by decide +kernel) (by decide +kernel)
theorem wC_X3_setMass : Cond.code yX3_setMass cX3_setMass 4 (some .int) ∈ kgT := kg_mem 187 (by decide +kernel) (by decide +kernel)
theorem wN_X3_setMass : Cond.instanceMethod yX3_setMass ∈ kgT := kg_mem 185 (by decide +kernel) (by decide +kernel)
theorem wL_X3_setMass : Cond.selects RX3 yX3_setMass yX3_setMass ∈ kgT := kg_mem 186 (by decide +kernel) (by decide +kernel)
theorem wC_X3_mass : Cond.code yX3_mass cX3_mass 2 (some .int) ∈ kgT := kg_mem 219 (by decide +kernel) (by decide +kernel)
theorem wN_X3_mass : Cond.instanceMethod yX3_mass ∈ kgT := kg_mem 217 (by decide +kernel) (by decide +kernel)
theorem wL_X3_mass : Cond.selects RX3 yX3_mass yX3_mass ∈ kgT := kg_mem 218 (by decide +kernel) (by decide +kernel)
theorem wC_X3_reserve : Cond.code yX3_reserve cX3_reserve 2 (some .int) ∈ kgT := kg_mem 229 (by decide +kernel) (by decide +kernel)
theorem wN_X3_reserve : Cond.instanceMethod yX3_reserve ∈ kgT := kg_mem 227 (by decide +kernel) (by decide +kernel)
theorem wL_X3_reserve : Cond.selects RX3 yX3_reserve yX3_reserve ∈ kgT := kg_mem 228 (by decide +kernel) (by decide +kernel)
theorem wC_X3_split : Cond.code yX3_split cX3_split 2 (some .int) ∈ kgT := kg_mem 233 (by decide +kernel) (by decide +kernel)
theorem wN_X3_split : Cond.instanceMethod yX3_split ∈ kgT := kg_mem 231 (by decide +kernel) (by decide +kernel)
theorem wL_X3_split : Cond.selects RX3 yX3_split yX3_split ∈ kgT := kg_mem 232 (by decide +kernel) (by decide +kernel)
theorem wC_X3_splitTo : Cond.code yX3_splitTo cX3_splitTo 3 (some .int) ∈ kgT := kg_mem 241 (by decide +kernel) (by decide +kernel)
theorem wN_X3_splitTo : Cond.instanceMethod yX3_splitTo ∈ kgT := kg_mem 239 (by decide +kernel) (by decide +kernel)
theorem wL_X3_splitTo : Cond.selects RX3 yX3_splitTo yX3_splitTo ∈ kgT := kg_mem 240 (by decide +kernel) (by decide +kernel)
theorem wC_X3_combine : Cond.code yX3_combine cX3_combine 2 (some .int) ∈ kgT := kg_mem 245 (by decide +kernel) (by decide +kernel)
theorem wN_X3_combine : Cond.instanceMethod yX3_combine ∈ kgT := kg_mem 243 (by decide +kernel) (by decide +kernel)
theorem wL_X3_combine : Cond.selects RX3 yX3_combine yX3_combine ∈ kgT := kg_mem 244 (by decide +kernel) (by decide +kernel)
theorem wC_X3_appendCharacter : Cond.code yX3_appendCharacter cX3_appendCharacter 2 (some .int) ∈ kgT := kg_mem 249 (by decide +kernel) (by decide +kernel)
theorem wN_X3_appendCharacter : Cond.instanceMethod yX3_appendCharacter ∈ kgT := kg_mem 247 (by decide +kernel) (by decide +kernel)
theorem wL_X3_appendCharacter : Cond.selects RX3 yX3_appendCharacter yX3_appendCharacter ∈ kgT := kg_mem 248 (by decide +kernel) (by decide +kernel)
theorem wC_X3_clearText : Cond.code yX3_clearText cX3_clearText 2 (some .int) ∈ kgT := kg_mem 253 (by decide +kernel) (by decide +kernel)
theorem wN_X3_clearText : Cond.instanceMethod yX3_clearText ∈ kgT := kg_mem 251 (by decide +kernel) (by decide +kernel)
theorem wL_X3_clearText : Cond.selects RX3 yX3_clearText yX3_clearText ∈ kgT := kg_mem 252 (by decide +kernel) (by decide +kernel)
theorem wC_X3_load : Cond.code yX3_load cX3_load 2 (some .int) ∈ kgT := kg_mem 257 (by decide +kernel) (by decide +kernel)
theorem wN_X3_load : Cond.instanceMethod yX3_load ∈ kgT := kg_mem 255 (by decide +kernel) (by decide +kernel)
theorem wL_X3_load : Cond.selects RX3 yX3_load yX3_load ∈ kgT := kg_mem 256 (by decide +kernel) (by decide +kernel)
theorem wC_X3_addSieve : Cond.code yX3_addSieve cX3_addSieve 2 (some .int) ∈ kgT := kg_mem 295 (by decide +kernel) (by decide +kernel)
theorem wN_X3_addSieve : Cond.instanceMethod yX3_addSieve ∈ kgT := kg_mem 293 (by decide +kernel) (by decide +kernel)
theorem wL_X3_addSieve : Cond.selects RX3 yX3_addSieve yX3_addSieve ∈ kgT := kg_mem 294 (by decide +kernel) (by decide +kernel)
theorem wC_X3_removeSieve : Cond.code yX3_removeSieve cX3_removeSieve 3 (some .int) ∈ kgT := kg_mem 318 (by decide +kernel) (by decide +kernel)
theorem wN_X3_removeSieve : Cond.instanceMethod yX3_removeSieve ∈ kgT := kg_mem 316 (by decide +kernel) (by decide +kernel)
theorem wL_X3_removeSieve : Cond.selects RX3 yX3_removeSieve yX3_removeSieve ∈ kgT := kg_mem 317 (by decide +kernel) (by decide +kernel)
theorem wC_X3_setRules : Cond.code yX3_setRules cX3_setRules 6 (some .int) ∈ kgT := kg_mem 326 (by decide +kernel) (by decide +kernel)
theorem wN_X3_setRules : Cond.instanceMethod yX3_setRules ∈ kgT := kg_mem 324 (by decide +kernel) (by decide +kernel)
theorem wL_X3_setRules : Cond.selects RX3 yX3_setRules yX3_setRules ∈ kgT := kg_mem 325 (by decide +kernel) (by decide +kernel)
theorem wC_X3_setBand : Cond.code yX3_setBand cX3_setBand 5 (some .int) ∈ kgT := kg_mem 330 (by decide +kernel) (by decide +kernel)
theorem wN_X3_setBand : Cond.instanceMethod yX3_setBand ∈ kgT := kg_mem 328 (by decide +kernel) (by decide +kernel)
theorem wL_X3_setBand : Cond.selects RX3 yX3_setBand yX3_setBand ∈ kgT := kg_mem 329 (by decide +kernel) (by decide +kernel)
theorem wC_X3_count : Cond.code yX3_count cX3_count 2 (some .int) ∈ kgT := kg_mem 334 (by decide +kernel) (by decide +kernel)
theorem wN_X3_count : Cond.instanceMethod yX3_count ∈ kgT := kg_mem 332 (by decide +kernel) (by decide +kernel)
theorem wL_X3_count : Cond.selects RX3 yX3_count yX3_count ∈ kgT := kg_mem 333 (by decide +kernel) (by decide +kernel)
theorem wC_X3_tray : Cond.code yX3_tray cX3_tray 4 (some .int) ∈ kgT := kg_mem 338 (by decide +kernel) (by decide +kernel)
theorem wN_X3_tray : Cond.instanceMethod yX3_tray ∈ kgT := kg_mem 336 (by decide +kernel) (by decide +kernel)
theorem wL_X3_tray : Cond.selects RX3 yX3_tray yX3_tray ∈ kgT := kg_mem 337 (by decide +kernel) (by decide +kernel)
theorem wC_X3_on : Cond.code yX3_on cX3_on 3 (some .int) ∈ kgT := kg_mem 357 (by decide +kernel) (by decide +kernel)
theorem wN_X3_on : Cond.instanceMethod yX3_on ∈ kgT := kg_mem 355 (by decide +kernel) (by decide +kernel)
theorem wL_X3_on : Cond.selects RX3 yX3_on yX3_on ∈ kgT := kg_mem 356 (by decide +kernel) (by decide +kernel)
theorem wC_X3_charge : Cond.code yX3_charge cX3_charge 2 (some .int) ∈ kgT := kg_mem 361 (by decide +kernel) (by decide +kernel)
theorem wN_X3_charge : Cond.instanceMethod yX3_charge ∈ kgT := kg_mem 359 (by decide +kernel) (by decide +kernel)
theorem wL_X3_charge : Cond.selects RX3 yX3_charge yX3_charge ∈ kgT := kg_mem 360 (by decide +kernel) (by decide +kernel)
theorem wC_X3_shake : Cond.code yX3_shake cX3_shake 4 (some .int) ∈ kgT := kg_mem 370 (by decide +kernel) (by decide +kernel)
theorem wN_X3_shake : Cond.instanceMethod yX3_shake ∈ kgT := kg_mem 368 (by decide +kernel) (by decide +kernel)
theorem wL_X3_shake : Cond.selects RX3 yX3_shake yX3_shake ∈ kgT := kg_mem 369 (by decide +kernel) (by decide +kernel)
theorem wC_X3_collect : Cond.code yX3_collect cX3_collect 4 (some .int) ∈ kgT := kg_mem 397 (by decide +kernel) (by decide +kernel)
theorem wN_X3_collect : Cond.instanceMethod yX3_collect ∈ kgT := kg_mem 395 (by decide +kernel) (by decide +kernel)
theorem wL_X3_collect : Cond.selects RX3 yX3_collect yX3_collect ∈ kgT := kg_mem 396 (by decide +kernel) (by decide +kernel)
theorem wC_X3_brush : Cond.code yX3_brush cX3_brush 5 (some .int) ∈ kgT := kg_mem 402 (by decide +kernel) (by decide +kernel)
theorem wN_X3_brush : Cond.instanceMethod yX3_brush ∈ kgT := kg_mem 400 (by decide +kernel) (by decide +kernel)
theorem wL_X3_brush : Cond.selects RX3 yX3_brush yX3_brush ∈ kgT := kg_mem 401 (by decide +kernel) (by decide +kernel)
theorem wC_X3_loss : Cond.code yX3_loss cX3_loss 1 (some .int) ∈ kgT := kg_mem 410 (by decide +kernel) (by decide +kernel)
theorem wN_X3_loss : Cond.instanceMethod yX3_loss ∈ kgT := kg_mem 408 (by decide +kernel) (by decide +kernel)
theorem wL_X3_loss : Cond.selects RX3 yX3_loss yX3_loss ∈ kgT := kg_mem 409 (by decide +kernel) (by decide +kernel)
theorem wC_X3_isGood : Cond.code yX3_isGood cX3_isGood 1 (some .int) ∈ kgT := kg_mem 419 (by decide +kernel) (by decide +kernel)
theorem wN_X3_isGood : Cond.instanceMethod yX3_isGood ∈ kgT := kg_mem 417 (by decide +kernel) (by decide +kernel)
theorem wL_X3_isGood : Cond.selects RX3 yX3_isGood yX3_isGood ∈ kgT := kg_mem 418 (by decide +kernel) (by decide +kernel)
theorem wC_X3_passing : Cond.code yX3_passing cX3_passing 2 (some .int) ∈ kgT := kg_mem 423 (by decide +kernel) (by decide +kernel)
theorem wN_X3_passing : Cond.instanceMethod yX3_passing ∈ kgT := kg_mem 421 (by decide +kernel) (by decide +kernel)
theorem wL_X3_passing : Cond.selects RX3 yX3_passing yX3_passing ∈ kgT := kg_mem 422 (by decide +kernel) (by decide +kernel)
theorem wC_X3_misses : Cond.code yX3_misses cX3_misses 4 (some .int) ∈ kgT := kg_mem 440 (by decide +kernel) (by decide +kernel)
theorem wN_X3_misses : Cond.instanceMethod yX3_misses ∈ kgT := kg_mem 438 (by decide +kernel) (by decide +kernel)
theorem wL_X3_misses : Cond.selects RX3 yX3_misses yX3_misses ∈ kgT := kg_mem 439 (by decide +kernel) (by decide +kernel)
theorem wC_X3_modulus : Cond.code yX3_modulus cX3_modulus 3 (some .int) ∈ kgT := kg_mem 444 (by decide +kernel) (by decide +kernel)
theorem wN_X3_modulus : Cond.instanceMethod yX3_modulus ∈ kgT := kg_mem 442 (by decide +kernel) (by decide +kernel)
theorem wL_X3_modulus : Cond.selects RX3 yX3_modulus yX3_modulus ∈ kgT := kg_mem 443 (by decide +kernel) (by decide +kernel)
theorem wC_X3_truePassing : Cond.code yX3_truePassing cX3_truePassing 5 (some .int) ∈ kgT := kg_mem 448 (by decide +kernel) (by decide +kernel)
theorem wN_X3_truePassing : Cond.instanceMethod yX3_truePassing ∈ kgT := kg_mem 446 (by decide +kernel) (by decide +kernel)
theorem wL_X3_truePassing : Cond.selects RX3 yX3_truePassing yX3_truePassing ∈ kgT := kg_mem 447 (by decide +kernel) (by decide +kernel)
theorem wC_X3_minutesTo : Cond.code yX3_minutesTo cX3_minutesTo 3 (some .int) ∈ kgT := kg_mem 453 (by decide +kernel) (by decide +kernel)
theorem wN_X3_minutesTo : Cond.instanceMethod yX3_minutesTo ∈ kgT := kg_mem 451 (by decide +kernel) (by decide +kernel)
theorem wL_X3_minutesTo : Cond.selects RX3 yX3_minutesTo yX3_minutesTo ∈ kgT := kg_mem 452 (by decide +kernel) (by decide +kernel)
theorem wC_X3_dustIn : Cond.code yX3_dustIn cX3_dustIn 3 (some .int) ∈ kgT := kg_mem 457 (by decide +kernel) (by decide +kernel)
theorem wN_X3_dustIn : Cond.instanceMethod yX3_dustIn ∈ kgT := kg_mem 455 (by decide +kernel) (by decide +kernel)
theorem wL_X3_dustIn : Cond.selects RX3 yX3_dustIn yX3_dustIn ∈ kgT := kg_mem 456 (by decide +kernel) (by decide +kernel)
theorem wC_X3_undo : Cond.code yX3_undo cX3_undo 1 (some .int) ∈ kgT := kg_mem 461 (by decide +kernel) (by decide +kernel)
theorem wN_X3_undo : Cond.instanceMethod yX3_undo ∈ kgT := kg_mem 459 (by decide +kernel) (by decide +kernel)
theorem wL_X3_undo : Cond.selects RX3 yX3_undo yX3_undo ∈ kgT := kg_mem 460 (by decide +kernel) (by decide +kernel)
theorem wC_X3_saveState : Cond.code yX3_saveState cX3_saveState 1 none ∈ kgT := kg_mem 197 (by decide +kernel) (by decide +kernel)
theorem wN_X3_saveState : Cond.instanceMethod yX3_saveState ∈ kgT := kg_mem 196 (by decide +kernel) (by decide +kernel)
theorem wL_X3_saveState : Cond.selects RX3 yX3_saveState yX3_saveState ∈ kgT := kg_mem 0 (by decide +kernel) (by decide +kernel)
theorem wC_X3_isIn : Cond.code yX3_isIn cX3_isIn 3 (some .boolean) ∈ kgT := kg_mem 193 (by decide +kernel) (by decide +kernel)
theorem wS_X3_isIn : Cond.static yX3_isIn ∈ kgT := kg_mem 192 (by decide +kernel) (by decide +kernel)
theorem wC_X3_isClass : Cond.code yX3_isClass cX3_isClass 1 (some .boolean) ∈ kgT := kg_mem 190 (by decide +kernel) (by decide +kernel)
theorem wS_X3_isClass : Cond.static yX3_isClass ∈ kgT := kg_mem 189 (by decide +kernel) (by decide +kernel)
theorem wC_X3_massIn : Cond.code yX3_massIn cX3_massIn 2 (some .int) ∈ kgT := kg_mem 222 (by decide +kernel) (by decide +kernel)
theorem wS_X3_massIn : Cond.static yX3_massIn ∈ kgT := kg_mem 221 (by decide +kernel) (by decide +kernel)
theorem wC_X3_sumOf : Cond.code yX3_sumOf cX3_sumOf 6 (some .int) ∈ kgT := kg_mem 225 (by decide +kernel) (by decide +kernel)
theorem wS_X3_sumOf : Cond.static yX3_sumOf ∈ kgT := kg_mem 224 (by decide +kernel) (by decide +kernel)
theorem wC_X3_clearRow : Cond.code yX3_clearRow cX3_clearRow 2 none ∈ kgT := kg_mem 310 (by decide +kernel) (by decide +kernel)
theorem wS_X3_clearRow : Cond.static yX3_clearRow ∈ kgT := kg_mem 309 (by decide +kernel) (by decide +kernel)
theorem wC_X3_copyRow : Cond.code yX3_copyRow cX3_copyRow 2 none ∈ kgT := kg_mem 204 (by decide +kernel) (by decide +kernel)
theorem wS_X3_copyRow : Cond.static yX3_copyRow ∈ kgT := kg_mem 203 (by decide +kernel) (by decide +kernel)
theorem wC_X3_perThousand : Cond.code yX3_perThousand cX3_perThousand 2 (some .int) ∈ kgT := kg_mem 350 (by decide +kernel) (by decide +kernel)
theorem wS_X3_perThousand : Cond.static yX3_perThousand ∈ kgT := kg_mem 349 (by decide +kernel) (by decide +kernel)
theorem wI_4 : Cond.initialized RX4 ∈ kgT := kg_mem 34 (by decide +kernel) (by decide +kernel)
theorem wC_X4_in : Cond.code yX4_in cX4_in 3 (some .boolean) ∈ kgT := kg_mem 504 (by decide +kernel) (by decide +kernel)
theorem wS_X4_in : Cond.static yX4_in ∈ kgT := kg_mem 503 (by decide +kernel) (by decide +kernel)
theorem wC_X4_notes : Cond.code yX4_notes cX4_notes 2 none ∈ kgT := kg_mem 508 (by decide +kernel) (by decide +kernel)
theorem wN_X4_notes : Cond.instanceMethod yX4_notes ∈ kgT := kg_mem 507 (by decide +kernel) (by decide +kernel)
theorem wL_X4_notes : Cond.selects RX4 yX4_notes yX4_notes ∈ kgT := kg_mem 8 (by decide +kernel) (by decide +kernel)
theorem wC_X4_undo : Cond.code yX4_undo cX4_undo 2 (some .int) ∈ kgT := kg_mem 497 (by decide +kernel) (by decide +kernel)
theorem wN_X4_undo : Cond.instanceMethod yX4_undo ∈ kgT := kg_mem 495 (by decide +kernel) (by decide +kernel)
theorem wL_X4_undo : Cond.selects RX4 yX4_undo yX4_undo ∈ kgT := kg_mem 496 (by decide +kernel) (by decide +kernel)
theorem wC_X4_sum : Cond.code yX4_sum cX4_sum 4 (some .int) ∈ kgT := kg_mem 520 (by decide +kernel) (by decide +kernel)
theorem wN_X4_sum : Cond.instanceMethod yX4_sum ∈ kgT := kg_mem 519 (by decide +kernel) (by decide +kernel)
theorem wL_X4_sum : Cond.selects RX4 yX4_sum yX4_sum ∈ kgT := kg_mem 10 (by decide +kernel) (by decide +kernel)
theorem wC_X4_setMass : Cond.code yX4_setMass cX4_setMass 4 (some .int) ∈ kgT := kg_mem 501 (by decide +kernel) (by decide +kernel)
theorem wN_X4_setMass : Cond.instanceMethod yX4_setMass ∈ kgT := kg_mem 499 (by decide +kernel) (by decide +kernel)
theorem wL_X4_setMass : Cond.selects RX4 yX4_setMass yX4_setMass ∈ kgT := kg_mem 500 (by decide +kernel) (by decide +kernel)
theorem wC_X4_massAt : Cond.code yX4_massAt cX4_massAt 3 (some .int) ∈ kgT := kg_mem 516 (by decide +kernel) (by decide +kernel)
theorem wN_X4_massAt : Cond.instanceMethod yX4_massAt ∈ kgT := kg_mem 515 (by decide +kernel) (by decide +kernel)
theorem wL_X4_massAt : Cond.selects RX4 yX4_massAt yX4_massAt ∈ kgT := kg_mem 9 (by decide +kernel) (by decide +kernel)
theorem wC_X4_mass : Cond.code yX4_mass cX4_mass 2 (some .int) ∈ kgT := kg_mem 512 (by decide +kernel) (by decide +kernel)
theorem wN_X4_mass : Cond.instanceMethod yX4_mass ∈ kgT := kg_mem 510 (by decide +kernel) (by decide +kernel)
theorem wL_X4_mass : Cond.selects RX4 yX4_mass yX4_mass ∈ kgT := kg_mem 511 (by decide +kernel) (by decide +kernel)
theorem wC_X4_reserve : Cond.code yX4_reserve cX4_reserve 2 (some .int) ∈ kgT := kg_mem 524 (by decide +kernel) (by decide +kernel)
theorem wN_X4_reserve : Cond.instanceMethod yX4_reserve ∈ kgT := kg_mem 522 (by decide +kernel) (by decide +kernel)
theorem wL_X4_reserve : Cond.selects RX4 yX4_reserve yX4_reserve ∈ kgT := kg_mem 523 (by decide +kernel) (by decide +kernel)
theorem wC_X4_divides : Cond.code yX4_divides cX4_divides 6 none ∈ kgT := kg_mem 532 (by decide +kernel) (by decide +kernel)
theorem wN_X4_divides : Cond.instanceMethod yX4_divides ∈ kgT := kg_mem 531 (by decide +kernel) (by decide +kernel)
theorem wL_X4_divides : Cond.selects RX4 yX4_divides yX4_divides ∈ kgT := kg_mem 11 (by decide +kernel) (by decide +kernel)
theorem wC_X4_split : Cond.code yX4_split cX4_split 2 (some .int) ∈ kgT := kg_mem 528 (by decide +kernel) (by decide +kernel)
theorem wN_X4_split : Cond.instanceMethod yX4_split ∈ kgT := kg_mem 526 (by decide +kernel) (by decide +kernel)
theorem wL_X4_split : Cond.selects RX4 yX4_split yX4_split ∈ kgT := kg_mem 527 (by decide +kernel) (by decide +kernel)
theorem wC_X4_splitTo : Cond.code yX4_splitTo cX4_splitTo 3 (some .int) ∈ kgT := kg_mem 536 (by decide +kernel) (by decide +kernel)
theorem wN_X4_splitTo : Cond.instanceMethod yX4_splitTo ∈ kgT := kg_mem 534 (by decide +kernel) (by decide +kernel)
theorem wL_X4_splitTo : Cond.selects RX4 yX4_splitTo yX4_splitTo ∈ kgT := kg_mem 535 (by decide +kernel) (by decide +kernel)
theorem wC_X4_combine : Cond.code yX4_combine cX4_combine 2 (some .int) ∈ kgT := kg_mem 540 (by decide +kernel) (by decide +kernel)
theorem wN_X4_combine : Cond.instanceMethod yX4_combine ∈ kgT := kg_mem 538 (by decide +kernel) (by decide +kernel)
theorem wL_X4_combine : Cond.selects RX4 yX4_combine yX4_combine ∈ kgT := kg_mem 539 (by decide +kernel) (by decide +kernel)
theorem wC_X4_appendCharacter : Cond.code yX4_appendCharacter cX4_appendCharacter 2 (some .int) ∈ kgT := kg_mem 544 (by decide +kernel) (by decide +kernel)
theorem wN_X4_appendCharacter : Cond.instanceMethod yX4_appendCharacter ∈ kgT := kg_mem 542 (by decide +kernel) (by decide +kernel)
theorem wL_X4_appendCharacter : Cond.selects RX4 yX4_appendCharacter yX4_appendCharacter ∈ kgT := kg_mem 543 (by decide +kernel) (by decide +kernel)
theorem wC_X4_clearText : Cond.code yX4_clearText cX4_clearText 2 (some .int) ∈ kgT := kg_mem 548 (by decide +kernel) (by decide +kernel)
theorem wN_X4_clearText : Cond.instanceMethod yX4_clearText ∈ kgT := kg_mem 546 (by decide +kernel) (by decide +kernel)
theorem wL_X4_clearText : Cond.selects RX4 yX4_clearText yX4_clearText ∈ kgT := kg_mem 547 (by decide +kernel) (by decide +kernel)
theorem wC_X4_here : Cond.code yX4_here cX4_here 1 (some .int) ∈ kgT := kg_mem 560 (by decide +kernel) (by decide +kernel)
theorem wN_X4_here : Cond.instanceMethod yX4_here ∈ kgT := kg_mem 559 (by decide +kernel) (by decide +kernel)
theorem wL_X4_here : Cond.selects RX4 yX4_here yX4_here ∈ kgT := kg_mem 13 (by decide +kernel) (by decide +kernel)
theorem wC_X4_readsPair : Cond.code yX4_readsPair cX4_readsPair 6 (some .boolean) ∈ kgT := kg_mem 564 (by decide +kernel) (by decide +kernel)
theorem wN_X4_readsPair : Cond.instanceMethod yX4_readsPair ∈ kgT := kg_mem 563 (by decide +kernel) (by decide +kernel)
theorem wL_X4_readsPair : Cond.selects RX4 yX4_readsPair yX4_readsPair ∈ kgT := kg_mem 14 (by decide +kernel) (by decide +kernel)
theorem wC_X4_reads : Cond.code yX4_reads cX4_reads 2 (some .boolean) ∈ kgT := kg_mem 556 (by decide +kernel) (by decide +kernel)
theorem wN_X4_reads : Cond.instanceMethod yX4_reads ∈ kgT := kg_mem 555 (by decide +kernel) (by decide +kernel)
theorem wL_X4_reads : Cond.selects RX4 yX4_reads yX4_reads ∈ kgT := kg_mem 12 (by decide +kernel) (by decide +kernel)
theorem wC_X4_load : Cond.code yX4_load cX4_load 2 (some .int) ∈ kgT := kg_mem 552 (by decide +kernel) (by decide +kernel)
theorem wN_X4_load : Cond.instanceMethod yX4_load ∈ kgT := kg_mem 550 (by decide +kernel) (by decide +kernel)
theorem wL_X4_load : Cond.selects RX4 yX4_load yX4_load ∈ kgT := kg_mem 551 (by decide +kernel) (by decide +kernel)
theorem wC_X4_at : Cond.code yX4_at cX4_at 2 (some .int) ∈ kgT := kg_mem 613 (by decide +kernel) (by decide +kernel)
theorem wN_X4_at : Cond.instanceMethod yX4_at ∈ kgT := kg_mem 612 (by decide +kernel) (by decide +kernel)
theorem wL_X4_at : Cond.selects RX4 yX4_at yX4_at ∈ kgT := kg_mem 20 (by decide +kernel) (by decide +kernel)
theorem wC_X4_trayWith : Cond.code yX4_trayWith cX4_trayWith 3 (some .int) ∈ kgT := kg_mem 573 (by decide +kernel) (by decide +kernel)
theorem wN_X4_trayWith : Cond.instanceMethod yX4_trayWith ∈ kgT := kg_mem 572 (by decide +kernel) (by decide +kernel)
theorem wL_X4_trayWith : Cond.selects RX4 yX4_trayWith yX4_trayWith ∈ kgT := kg_mem 15 (by decide +kernel) (by decide +kernel)
theorem wC_X4_ends : Cond.code yX4_ends cX4_ends 2 none ∈ kgT := kg_mem 577 (by decide +kernel) (by decide +kernel)
theorem wN_X4_ends : Cond.instanceMethod yX4_ends ∈ kgT := kg_mem 576 (by decide +kernel) (by decide +kernel)
theorem wL_X4_ends : Cond.selects RX4 yX4_ends yX4_ends ∈ kgT := kg_mem 16 (by decide +kernel) (by decide +kernel)
theorem wC_X4_addSieve : Cond.code yX4_addSieve cX4_addSieve 3 (some .int) ∈ kgT := kg_mem 569 (by decide +kernel) (by decide +kernel)
theorem wN_X4_addSieve : Cond.instanceMethod yX4_addSieve ∈ kgT := kg_mem 567 (by decide +kernel) (by decide +kernel)
theorem wL_X4_addSieve : Cond.selects RX4 yX4_addSieve yX4_addSieve ∈ kgT := kg_mem 568 (by decide +kernel) (by decide +kernel)
theorem wC_X4_removeSieve : Cond.code yX4_removeSieve cX4_removeSieve 4 (some .int) ∈ kgT := kg_mem 581 (by decide +kernel) (by decide +kernel)
theorem wN_X4_removeSieve : Cond.instanceMethod yX4_removeSieve ∈ kgT := kg_mem 579 (by decide +kernel) (by decide +kernel)
theorem wL_X4_removeSieve : Cond.selects RX4 yX4_removeSieve yX4_removeSieve ∈ kgT := kg_mem 580 (by decide +kernel) (by decide +kernel)
theorem wC_X4_changes : Cond.code yX4_changes cX4_changes 4 (some .int) ∈ kgT := kg_mem 589 (by decide +kernel) (by decide +kernel)
theorem wN_X4_changes : Cond.instanceMethod yX4_changes ∈ kgT := kg_mem 588 (by decide +kernel) (by decide +kernel)
theorem wL_X4_changes : Cond.selects RX4 yX4_changes yX4_changes ∈ kgT := kg_mem 17 (by decide +kernel) (by decide +kernel)
theorem wC_X4_setRules : Cond.code yX4_setRules cX4_setRules 6 (some .int) ∈ kgT := kg_mem 585 (by decide +kernel) (by decide +kernel)
theorem wN_X4_setRules : Cond.instanceMethod yX4_setRules ∈ kgT := kg_mem 583 (by decide +kernel) (by decide +kernel)
theorem wL_X4_setRules : Cond.selects RX4 yX4_setRules yX4_setRules ∈ kgT := kg_mem 584 (by decide +kernel) (by decide +kernel)
theorem wC_X4_setBand : Cond.code yX4_setBand cX4_setBand 5 (some .int) ∈ kgT := kg_mem 593 (by decide +kernel) (by decide +kernel)
theorem wN_X4_setBand : Cond.instanceMethod yX4_setBand ∈ kgT := kg_mem 591 (by decide +kernel) (by decide +kernel)
theorem wL_X4_setBand : Cond.selects RX4 yX4_setBand yX4_setBand ∈ kgT := kg_mem 592 (by decide +kernel) (by decide +kernel)
theorem wC_X4_count : Cond.code yX4_count cX4_count 2 (some .int) ∈ kgT := kg_mem 597 (by decide +kernel) (by decide +kernel)
theorem wN_X4_count : Cond.instanceMethod yX4_count ∈ kgT := kg_mem 595 (by decide +kernel) (by decide +kernel)
theorem wL_X4_count : Cond.selects RX4 yX4_count yX4_count ∈ kgT := kg_mem 596 (by decide +kernel) (by decide +kernel)
theorem wC_X4_isTray : Cond.code yX4_isTray cX4_isTray 2 (some .boolean) ∈ kgT := kg_mem 605 (by decide +kernel) (by decide +kernel)
theorem wN_X4_isTray : Cond.instanceMethod yX4_isTray ∈ kgT := kg_mem 604 (by decide +kernel) (by decide +kernel)
theorem wL_X4_isTray : Cond.selects RX4 yX4_isTray yX4_isTray ∈ kgT := kg_mem 18 (by decide +kernel) (by decide +kernel)
theorem wC_X4_isSieve : Cond.code yX4_isSieve cX4_isSieve 2 (some .boolean) ∈ kgT := kg_mem 609 (by decide +kernel) (by decide +kernel)
theorem wN_X4_isSieve : Cond.instanceMethod yX4_isSieve ∈ kgT := kg_mem 608 (by decide +kernel) (by decide +kernel)
theorem wL_X4_isSieve : Cond.selects RX4 yX4_isSieve yX4_isSieve ∈ kgT := kg_mem 19 (by decide +kernel) (by decide +kernel)
theorem wC_X4_openness : Cond.code yX4_openness cX4_openness 3 (some .int) ∈ kgT := kg_mem 617 (by decide +kernel) (by decide +kernel)
theorem wN_X4_openness : Cond.instanceMethod yX4_openness ∈ kgT := kg_mem 616 (by decide +kernel) (by decide +kernel)
theorem wL_X4_openness : Cond.selects RX4 yX4_openness yX4_openness ∈ kgT := kg_mem 21 (by decide +kernel) (by decide +kernel)
theorem wC_X4_tray : Cond.code yX4_tray cX4_tray 3 (some .int) ∈ kgT := kg_mem 601 (by decide +kernel) (by decide +kernel)
theorem wN_X4_tray : Cond.instanceMethod yX4_tray ∈ kgT := kg_mem 599 (by decide +kernel) (by decide +kernel)
theorem wL_X4_tray : Cond.selects RX4 yX4_tray yX4_tray ∈ kgT := kg_mem 600 (by decide +kernel) (by decide +kernel)
theorem wC_X4_on : Cond.code yX4_on cX4_on 3 (some .int) ∈ kgT := kg_mem 621 (by decide +kernel) (by decide +kernel)
theorem wN_X4_on : Cond.instanceMethod yX4_on ∈ kgT := kg_mem 619 (by decide +kernel) (by decide +kernel)
theorem wL_X4_on : Cond.selects RX4 yX4_on yX4_on ∈ kgT := kg_mem 620 (by decide +kernel) (by decide +kernel)
theorem wC_X4_charge : Cond.code yX4_charge cX4_charge 3 (some .int) ∈ kgT := kg_mem 625 (by decide +kernel) (by decide +kernel)
theorem wN_X4_charge : Cond.instanceMethod yX4_charge ∈ kgT := kg_mem 623 (by decide +kernel) (by decide +kernel)
theorem wL_X4_charge : Cond.selects RX4 yX4_charge yX4_charge ∈ kgT := kg_mem 624 (by decide +kernel) (by decide +kernel)
theorem wC_X4_falling : Cond.code yX4_falling cX4_falling 6 (some .int) ∈ kgT := kg_mem 636 (by decide +kernel) (by decide +kernel)
theorem wS_X4_falling : Cond.static yX4_falling ∈ kgT := kg_mem 635 (by decide +kernel) (by decide +kernel)
theorem wC_X4_minute : Cond.code yX4_minute cX4_minute 8 (some .int) ∈ kgT := kg_mem 633 (by decide +kernel) (by decide +kernel)
theorem wN_X4_minute : Cond.instanceMethod yX4_minute ∈ kgT := kg_mem 632 (by decide +kernel) (by decide +kernel)
theorem wL_X4_minute : Cond.selects RX4 yX4_minute yX4_minute ∈ kgT := kg_mem 22 (by decide +kernel) (by decide +kernel)
theorem wC_X4_shake : Cond.code yX4_shake cX4_shake 4 (some .int) ∈ kgT := kg_mem 629 (by decide +kernel) (by decide +kernel)
theorem wN_X4_shake : Cond.instanceMethod yX4_shake ∈ kgT := kg_mem 627 (by decide +kernel) (by decide +kernel)
theorem wL_X4_shake : Cond.selects RX4 yX4_shake yX4_shake ∈ kgT := kg_mem 628 (by decide +kernel) (by decide +kernel)
theorem wC_X4_collect : Cond.code yX4_collect cX4_collect 4 (some .int) ∈ kgT := kg_mem 644 (by decide +kernel) (by decide +kernel)
theorem wN_X4_collect : Cond.instanceMethod yX4_collect ∈ kgT := kg_mem 642 (by decide +kernel) (by decide +kernel)
theorem wL_X4_collect : Cond.selects RX4 yX4_collect yX4_collect ∈ kgT := kg_mem 643 (by decide +kernel) (by decide +kernel)
theorem wC_X4_brush : Cond.code yX4_brush cX4_brush 4 (some .int) ∈ kgT := kg_mem 648 (by decide +kernel) (by decide +kernel)
theorem wN_X4_brush : Cond.instanceMethod yX4_brush ∈ kgT := kg_mem 646 (by decide +kernel) (by decide +kernel)
theorem wL_X4_brush : Cond.selects RX4 yX4_brush yX4_brush ∈ kgT := kg_mem 647 (by decide +kernel) (by decide +kernel)
theorem wC_X4_lost : Cond.code yX4_lost cX4_lost 3 (some .int) ∈ kgT := kg_mem 656 (by decide +kernel) (by decide +kernel)
theorem wN_X4_lost : Cond.instanceMethod yX4_lost ∈ kgT := kg_mem 655 (by decide +kernel) (by decide +kernel)
theorem wL_X4_lost : Cond.selects RX4 yX4_lost yX4_lost ∈ kgT := kg_mem 23 (by decide +kernel) (by decide +kernel)
theorem wC_X4_loss : Cond.code yX4_loss cX4_loss 1 (some .int) ∈ kgT := kg_mem 652 (by decide +kernel) (by decide +kernel)
theorem wN_X4_loss : Cond.instanceMethod yX4_loss ∈ kgT := kg_mem 650 (by decide +kernel) (by decide +kernel)
theorem wL_X4_loss : Cond.selects RX4 yX4_loss yX4_loss ∈ kgT := kg_mem 651 (by decide +kernel) (by decide +kernel)
theorem wC_X4_isGood : Cond.code yX4_isGood cX4_isGood 1 (some .int) ∈ kgT := kg_mem 660 (by decide +kernel) (by decide +kernel)
theorem wN_X4_isGood : Cond.instanceMethod yX4_isGood ∈ kgT := kg_mem 658 (by decide +kernel) (by decide +kernel)
theorem wL_X4_isGood : Cond.selects RX4 yX4_isGood yX4_isGood ∈ kgT := kg_mem 659 (by decide +kernel) (by decide +kernel)
theorem wC_X4_collected : Cond.code yX4_collected cX4_collected 4 (some .int) ∈ kgT := kg_mem 673 (by decide +kernel) (by decide +kernel)
theorem wN_X4_collected : Cond.instanceMethod yX4_collected ∈ kgT := kg_mem 672 (by decide +kernel) (by decide +kernel)
theorem wL_X4_collected : Cond.selects RX4 yX4_collected yX4_collected ∈ kgT := kg_mem 25 (by decide +kernel) (by decide +kernel)
theorem wC_X4_isTold : Cond.code yX4_isTold cX4_isTold 1 (some .boolean) ∈ kgT := kg_mem 669 (by decide +kernel) (by decide +kernel)
theorem wN_X4_isTold : Cond.instanceMethod yX4_isTold ∈ kgT := kg_mem 668 (by decide +kernel) (by decide +kernel)
theorem wL_X4_isTold : Cond.selects RX4 yX4_isTold yX4_isTold ∈ kgT := kg_mem 24 (by decide +kernel) (by decide +kernel)
theorem wC_X4_passes : Cond.code yX4_passes cX4_passes 2 (some .int) ∈ kgT := kg_mem 677 (by decide +kernel) (by decide +kernel)
theorem wN_X4_passes : Cond.instanceMethod yX4_passes ∈ kgT := kg_mem 676 (by decide +kernel) (by decide +kernel)
theorem wL_X4_passes : Cond.selects RX4 yX4_passes yX4_passes ∈ kgT := kg_mem 26 (by decide +kernel) (by decide +kernel)
theorem wC_X4_passing : Cond.code yX4_passing cX4_passing 2 (some .int) ∈ kgT := kg_mem 665 (by decide +kernel) (by decide +kernel)
theorem wN_X4_passing : Cond.instanceMethod yX4_passing ∈ kgT := kg_mem 663 (by decide +kernel) (by decide +kernel)
theorem wL_X4_passing : Cond.selects RX4 yX4_passing yX4_passing ∈ kgT := kg_mem 664 (by decide +kernel) (by decide +kernel)
theorem wC_X4_misses : Cond.code yX4_misses cX4_misses 4 (some .int) ∈ kgT := kg_mem 681 (by decide +kernel) (by decide +kernel)
theorem wN_X4_misses : Cond.instanceMethod yX4_misses ∈ kgT := kg_mem 679 (by decide +kernel) (by decide +kernel)
theorem wL_X4_misses : Cond.selects RX4 yX4_misses yX4_misses ∈ kgT := kg_mem 680 (by decide +kernel) (by decide +kernel)
theorem wC_X4_modulus : Cond.code yX4_modulus cX4_modulus 3 (some .int) ∈ kgT := kg_mem 685 (by decide +kernel) (by decide +kernel)
theorem wN_X4_modulus : Cond.instanceMethod yX4_modulus ∈ kgT := kg_mem 683 (by decide +kernel) (by decide +kernel)
theorem wL_X4_modulus : Cond.selects RX4 yX4_modulus yX4_modulus ∈ kgT := kg_mem 684 (by decide +kernel) (by decide +kernel)
theorem wC_X4_truePassing : Cond.code yX4_truePassing cX4_truePassing 6 (some .int) ∈ kgT := kg_mem 689 (by decide +kernel) (by decide +kernel)
theorem wN_X4_truePassing : Cond.instanceMethod yX4_truePassing ∈ kgT := kg_mem 687 (by decide +kernel) (by decide +kernel)
theorem wL_X4_truePassing : Cond.selects RX4 yX4_truePassing yX4_truePassing ∈ kgT := kg_mem 688 (by decide +kernel) (by decide +kernel)
theorem wC_X4_keeps : Cond.code yX4_keeps cX4_keeps 2 none ∈ kgT := kg_mem 697 (by decide +kernel) (by decide +kernel)
theorem wN_X4_keeps : Cond.instanceMethod yX4_keeps ∈ kgT := kg_mem 696 (by decide +kernel) (by decide +kernel)
theorem wL_X4_keeps : Cond.selects RX4 yX4_keeps yX4_keeps ∈ kgT := kg_mem 27 (by decide +kernel) (by decide +kernel)
theorem wC_X4_restores : Cond.code yX4_restores cX4_restores 2 none ∈ kgT := kg_mem 701 (by decide +kernel) (by decide +kernel)
theorem wN_X4_restores : Cond.instanceMethod yX4_restores ∈ kgT := kg_mem 700 (by decide +kernel) (by decide +kernel)
theorem wL_X4_restores : Cond.selects RX4 yX4_restores yX4_restores ∈ kgT := kg_mem 28 (by decide +kernel) (by decide +kernel)
theorem wC_X4_minutesTo : Cond.code yX4_minutesTo cX4_minutesTo 4 (some .int) ∈ kgT := kg_mem 693 (by decide +kernel) (by decide +kernel)
theorem wN_X4_minutesTo : Cond.instanceMethod yX4_minutesTo ∈ kgT := kg_mem 691 (by decide +kernel) (by decide +kernel)
theorem wL_X4_minutesTo : Cond.selects RX4 yX4_minutesTo yX4_minutesTo ∈ kgT := kg_mem 692 (by decide +kernel) (by decide +kernel)
theorem wC_X4_dustIn : Cond.code yX4_dustIn cX4_dustIn 5 (some .int) ∈ kgT := kg_mem 705 (by decide +kernel) (by decide +kernel)
theorem wN_X4_dustIn : Cond.instanceMethod yX4_dustIn ∈ kgT := kg_mem 703 (by decide +kernel) (by decide +kernel)
theorem wL_X4_dustIn : Cond.selects RX4 yX4_dustIn yX4_dustIn ∈ kgT := kg_mem 704 (by decide +kernel) (by decide +kernel)
theorem wM_0_23 : Cond.methodLink RX0 23 yX0_forget ∈ kgT := kg_mem 262 (by decide +kernel) (by decide +kernel)
theorem wM_0_26 : Cond.methodLink RX0 26 yX0_skipSpaces ∈ kgT := kg_mem 266 (by decide +kernel) (by decide +kernel)
theorem wF_0_29 : Cond.fieldLink RX0 29 "SieveBench$SampleText" "at" "I" ∈ kgT := kg_mem 151 (by decide +kernel) (by decide +kernel)
theorem wF_0_33 : Cond.fieldLink RX0 33 "SieveBench$SampleText" "length" "I" ∈ kgT := kg_mem 149 (by decide +kernel) (by decide +kernel)
theorem wM_0_36 : Cond.methodLink RX0 36 yX0_readPair ∈ kgT := kg_mem 274 (by decide +kernel) (by decide +kernel)
theorem wM_0_40 : Cond.methodLink RX0 40 yX0_isSign ∈ kgT := kg_mem 270 (by decide +kernel) (by decide +kernel)
theorem wF_0_15 : Cond.fieldLink RX0 15 "SieveBench$SampleText" "masses" "[I" ∈ kgT := kg_mem 146 (by decide +kernel) (by decide +kernel)
theorem wF_0_19 : Cond.fieldLink RX0 19 "SieveBench$SampleText" "named" "[Z" ∈ kgT := kg_mem 148 (by decide +kernel) (by decide +kernel)
theorem wM_0_44 : Cond.methodLink RX0 44 yX0_isDigit ∈ kgT := kg_mem 278 (by decide +kernel) (by decide +kernel)
theorem wM_0_48 : Cond.methodLink RX0 48 yX0_digit ∈ kgT := kg_mem 283 (by decide +kernel) (by decide +kernel)
theorem wM_0_51 : Cond.methodLink RX0 51 yX0_readMass ∈ kgT := kg_mem 287 (by decide +kernel) (by decide +kernel)
theorem wF_0_9 : Cond.fieldLink RX0 9 "SieveBench$SampleText" "signs" "[C" ∈ kgT := kg_mem 144 (by decide +kernel) (by decide +kernel)
theorem wF_1_9 : Cond.fieldLink RX1 9 "SieveBench$State" "sample" "[I" ∈ kgT := kg_mem 80 (by decide +kernel) (by decide +kernel)
theorem wF_1_15 : Cond.fieldLink RX1 15 "SieveBench$State" "reserved" "[I" ∈ kgT := kg_mem 82 (by decide +kernel) (by decide +kernel)
theorem wF_1_20 : Cond.fieldLink RX1 20 "SieveBench$State" "trays" "[LSieveBench$Tray;" ∈ kgT := kg_mem 84 (by decide +kernel) (by decide +kernel)
theorem wM_1_48 : Cond.methodLink RX1 48 yX2_copyFrom ∈ kgT := kg_mem 211 (by decide +kernel) (by decide +kernel)
theorem wF_1_24 : Cond.fieldLink RX1 24 "SieveBench$State" "lowest" "[I" ∈ kgT := kg_mem 86 (by decide +kernel) (by decide +kernel)
theorem wF_1_27 : Cond.fieldLink RX1 27 "SieveBench$State" "highest" "[I" ∈ kgT := kg_mem 88 (by decide +kernel) (by decide +kernel)
theorem wF_1_52 : Cond.fieldLink RX1 52 "SieveBench$State" "sieves" "I" ∈ kgT := kg_mem 90 (by decide +kernel) (by decide +kernel)
theorem wF_1_30 : Cond.fieldLink RX1 30 "SieveBench$State" "capacity" "I" ∈ kgT := kg_mem 92 (by decide +kernel) (by decide +kernel)
theorem wF_1_34 : Cond.fieldLink RX1 34 "SieveBench$State" "blinding" "I" ∈ kgT := kg_mem 94 (by decide +kernel) (by decide +kernel)
theorem wF_1_37 : Cond.fieldLink RX1 37 "SieveBench$State" "dustRate" "I" ∈ kgT := kg_mem 96 (by decide +kernel) (by decide +kernel)
theorem wF_1_40 : Cond.fieldLink RX1 40 "SieveBench$State" "tolerance" "I" ∈ kgT := kg_mem 98 (by decide +kernel) (by decide +kernel)
theorem wF_1_55 : Cond.fieldLink RX1 55 "SieveBench$State" "inAnalysis" "Z" ∈ kgT := kg_mem 100 (by decide +kernel) (by decide +kernel)
theorem wF_1_59 : Cond.fieldLink RX1 59 "SieveBench$State" "total" "I" ∈ kgT := kg_mem 102 (by decide +kernel) (by decide +kernel)
theorem wF_1_62 : Cond.fieldLink RX1 62 "SieveBench$State" "minutes" "I" ∈ kgT := kg_mem 104 (by decide +kernel) (by decide +kernel)
theorem wF_1_65 : Cond.fieldLink RX1 65 "SieveBench$State" "flow" "I" ∈ kgT := kg_mem 106 (by decide +kernel) (by decide +kernel)
theorem wF_1_72 : Cond.fieldLink RX1 72 "SieveBench$Tray" "aperture" "I" ∈ kgT := kg_mem 62 (by decide +kernel) (by decide +kernel)
theorem wM_1_75 : Cond.methodLink RX1 75 yX2_throwAway ∈ kgT := kg_mem 304 (by decide +kernel) (by decide +kernel)
theorem wF_1_78 : Cond.fieldLink RX1 78 "SieveBench$Tray" "lying" "[I" ∈ kgT := kg_mem 59 (by decide +kernel) (by decide +kernel)
theorem wM_1_85 : Cond.methodLink RX1 85 yX2_dropOnto ∈ kgT := kg_mem 375 (by decide +kernel) (by decide +kernel)
theorem wM_1_89 : Cond.methodLink RX1 89 yX2_blind ∈ kgT := kg_mem 390 (by decide +kernel) (by decide +kernel)
theorem wF_1_97 : Cond.fieldLink RX1 97 "SieveBench$Tray" "stuck" "I" ∈ kgT := kg_mem 65 (by decide +kernel) (by decide +kernel)
theorem wF_1_100 : Cond.fieldLink RX1 100 "SieveBench$Tray" "collected" "I" ∈ kgT := kg_mem 68 (by decide +kernel) (by decide +kernel)
theorem wM_1_103 : Cond.methodLink RX1 103 yX1_collectedFrom ∈ kgT := kg_mem 428 (by decide +kernel) (by decide +kernel)
theorem wF_2_9 : Cond.fieldLink RX2 9 "SieveBench$Tray" "lying" "[I" ∈ kgT := kg_mem 58 (by decide +kernel) (by decide +kernel)
theorem wF_2_19 : Cond.fieldLink RX2 19 "SieveBench$Tray" "aperture" "I" ∈ kgT := kg_mem 61 (by decide +kernel) (by decide +kernel)
theorem wF_2_23 : Cond.fieldLink RX2 23 "SieveBench$Tray" "stuck" "I" ∈ kgT := kg_mem 64 (by decide +kernel) (by decide +kernel)
theorem wF_2_26 : Cond.fieldLink RX2 26 "SieveBench$Tray" "collected" "I" ∈ kgT := kg_mem 67 (by decide +kernel) (by decide +kernel)
theorem wM_2_37 : Cond.methodLink RX2 37 Lib.Math.max.name ∈ kgT := kg_mem 351 (by decide +kernel) (by decide +kernel)
theorem wS_snd_imax : Cond.static Lib.Math.max.name ∈ kgT := kg_mem 352 (by decide +kernel) (by decide +kernel)
theorem wI_math : Cond.initialized "java/lang/Math" ∈ kgT := kg_mem 35 (by decide +kernel) (by decide +kernel)
theorem wC_snd_imax : Cond.code Lib.Math.max.name Lib.Math.max.code 2 (some .int) ∈ kgT := kg_mem 353 (by decide +kernel) (by decide +kernel)
theorem wM_2_42 : Cond.methodLink RX2 42 yX2_openness ∈ kgT := kg_mem 379 (by decide +kernel) (by decide +kernel)
theorem wM_2_46 : Cond.methodLink RX2 46 yX2_easeOf ∈ kgT := kg_mem 380 (by decide +kernel) (by decide +kernel)
theorem wM_2_49 : Cond.methodLink RX2 49 yX2_fallingOf ∈ kgT := kg_mem 383 (by decide +kernel) (by decide +kernel)
theorem wK_2_53 : Cond.constantLong RX2 53 1000000 ∈ kgT := kg_mem 386 (by decide +kernel) (by decide +kernel)
theorem wM_2_55 : Cond.methodLink RX2 55 Lib.MathLoose.max_long.x ∈ kgT := kg_mem 387 (by decide +kernel) (by decide +kernel)
theorem wS_snd_lmax : Cond.static Lib.MathLoose.max_long.x ∈ kgT := kg_mem 388 (by decide +kernel) (by decide +kernel)
theorem wC_snd_lmax : Cond.code Lib.MathLoose.max_long.x Lib.MathLoose.max_long.code 4 (some .long) ∈ kgT := kg_mem 389 (by decide +kernel) (by decide +kernel)
theorem wM_3_30 : Cond.methodLink RX3 30 yX3_isClass ∈ kgT := kg_mem 188 (by decide +kernel) (by decide +kernel)
theorem wM_3_34 : Cond.methodLink RX3 34 yX3_isIn ∈ kgT := kg_mem 191 (by decide +kernel) (by decide +kernel)
theorem wM_3_38 : Cond.methodLink RX3 38 yX3_saveState ∈ kgT := kg_mem 194 (by decide +kernel) (by decide +kernel)
theorem wF_3_10 : Cond.fieldLink RX3 10 "SieveBench" "state" "LSieveBench$State;" ∈ kgT := kg_mem 165 (by decide +kernel) (by decide +kernel)
theorem wF_3_41 : Cond.fieldLink RX3 41 "SieveBench$State" "sample" "[I" ∈ kgT := kg_mem 81 (by decide +kernel) (by decide +kernel)
theorem wM_3_45 : Cond.methodLink RX3 45 yX3_massIn ∈ kgT := kg_mem 220 (by decide +kernel) (by decide +kernel)
theorem wF_3_49 : Cond.fieldLink RX3 49 "SieveBench$State" "reserved" "[I" ∈ kgT := kg_mem 83 (by decide +kernel) (by decide +kernel)
theorem wM_3_52 : Cond.methodLink RX3 52 yX3_sumOf ∈ kgT := kg_mem 223 (by decide +kernel) (by decide +kernel)
theorem wM_3_56 : Cond.methodLink RX3 56 yX1_halveSample ∈ kgT := kg_mem 234 (by decide +kernel) (by decide +kernel)
theorem wF_3_26 : Cond.fieldLink RX3 26 "SieveBench" "text" "LSieveBench$SampleText;" ∈ kgT := kg_mem 168 (by decide +kernel) (by decide +kernel)
theorem wF_3_60 : Cond.fieldLink RX3 60 "SieveBench$SampleText" "length" "I" ∈ kgT := kg_mem 150 (by decide +kernel) (by decide +kernel)
theorem wF_3_64 : Cond.fieldLink RX3 64 "SieveBench$SampleText" "signs" "[C" ∈ kgT := kg_mem 145 (by decide +kernel) (by decide +kernel)
theorem wM_3_68 : Cond.methodLink RX3 68 yX0_readPairs ∈ kgT := kg_mem 258 (by decide +kernel) (by decide +kernel)
theorem wF_3_72 : Cond.fieldLink RX3 72 "SieveBench$SampleText" "masses" "[I" ∈ kgT := kg_mem 147 (by decide +kernel) (by decide +kernel)
theorem wM_3_75 : Cond.methodLink RX3 75 yX3_copyRow ∈ kgT := kg_mem 291 (by decide +kernel) (by decide +kernel)
theorem wM_3_79 : Cond.methodLink RX3 79 yX1_findSieve ∈ kgT := kg_mem 296 (by decide +kernel) (by decide +kernel)
theorem wF_3_83 : Cond.fieldLink RX3 83 "SieveBench$State" "sieves" "I" ∈ kgT := kg_mem 91 (by decide +kernel) (by decide +kernel)
theorem wM_3_86 : Cond.methodLink RX3 86 yX1_endAnalysis ∈ kgT := kg_mem 300 (by decide +kernel) (by decide +kernel)
theorem wM_3_89 : Cond.methodLink RX3 89 yX1_insertSieve ∈ kgT := kg_mem 311 (by decide +kernel) (by decide +kernel)
theorem wM_3_92 : Cond.methodLink RX3 92 yX1_takeSieve ∈ kgT := kg_mem 319 (by decide +kernel) (by decide +kernel)
theorem wF_3_96 : Cond.fieldLink RX3 96 "SieveBench$State" "capacity" "I" ∈ kgT := kg_mem 93 (by decide +kernel) (by decide +kernel)
theorem wF_3_99 : Cond.fieldLink RX3 99 "SieveBench$State" "blinding" "I" ∈ kgT := kg_mem 95 (by decide +kernel) (by decide +kernel)
theorem wF_3_102 : Cond.fieldLink RX3 102 "SieveBench$State" "dustRate" "I" ∈ kgT := kg_mem 97 (by decide +kernel) (by decide +kernel)
theorem wF_3_105 : Cond.fieldLink RX3 105 "SieveBench$State" "tolerance" "I" ∈ kgT := kg_mem 99 (by decide +kernel) (by decide +kernel)
theorem wF_3_108 : Cond.fieldLink RX3 108 "SieveBench$State" "lowest" "[I" ∈ kgT := kg_mem 87 (by decide +kernel) (by decide +kernel)
theorem wF_3_111 : Cond.fieldLink RX3 111 "SieveBench$State" "highest" "[I" ∈ kgT := kg_mem 89 (by decide +kernel) (by decide +kernel)
theorem wF_3_114 : Cond.fieldLink RX3 114 "SieveBench$State" "inAnalysis" "Z" ∈ kgT := kg_mem 101 (by decide +kernel) (by decide +kernel)
theorem wF_3_118 : Cond.fieldLink RX3 118 "SieveBench$State" "minutes" "I" ∈ kgT := kg_mem 105 (by decide +kernel) (by decide +kernel)
theorem wF_3_121 : Cond.fieldLink RX3 121 "SieveBench$State" "flow" "I" ∈ kgT := kg_mem 107 (by decide +kernel) (by decide +kernel)
theorem wF_3_124 : Cond.fieldLink RX3 124 "SieveBench" "savedStates" "I" ∈ kgT := kg_mem 170 (by decide +kernel) (by decide +kernel)
theorem wM_3_127 : Cond.methodLink RX3 127 yX1_isTray ∈ kgT := kg_mem 339 (by decide +kernel) (by decide +kernel)
theorem wF_3_130 : Cond.fieldLink RX3 130 "SieveBench$State" "trays" "[LSieveBench$Tray;" ∈ kgT := kg_mem 85 (by decide +kernel) (by decide +kernel)
theorem wF_3_134 : Cond.fieldLink RX3 134 "SieveBench$Tray" "aperture" "I" ∈ kgT := kg_mem 63 (by decide +kernel) (by decide +kernel)
theorem wF_3_139 : Cond.fieldLink RX3 139 "SieveBench$Tray" "lying" "[I" ∈ kgT := kg_mem 60 (by decide +kernel) (by decide +kernel)
theorem wF_3_142 : Cond.fieldLink RX3 142 "SieveBench$Tray" "stuck" "I" ∈ kgT := kg_mem 66 (by decide +kernel) (by decide +kernel)
theorem wF_3_145 : Cond.fieldLink RX3 145 "SieveBench$Tray" "collected" "I" ∈ kgT := kg_mem 69 (by decide +kernel) (by decide +kernel)
theorem wM_3_148 : Cond.methodLink RX3 148 yX2_openness ∈ kgT := kg_mem 344 (by decide +kernel) (by decide +kernel)
theorem wM_3_151 : Cond.methodLink RX3 151 yX1_beginAnalysis ∈ kgT := kg_mem 362 (by decide +kernel) (by decide +kernel)
theorem wM_3_154 : Cond.methodLink RX3 154 yX1_shakeOneMinute ∈ kgT := kg_mem 371 (by decide +kernel) (by decide +kernel)
theorem wM_3_157 : Cond.methodLink RX3 157 yX3_clearRow ∈ kgT := kg_mem 398 (by decide +kernel) (by decide +kernel)
theorem wM_3_161 : Cond.methodLink RX3 161 yX1_isSieve ∈ kgT := kg_mem 403 (by decide +kernel) (by decide +kernel)
theorem wM_3_164 : Cond.methodLink RX3 164 yX1_lostMass ∈ kgT := kg_mem 411 (by decide +kernel) (by decide +kernel)
theorem wF_3_167 : Cond.fieldLink RX3 167 "SieveBench$State" "total" "I" ∈ kgT := kg_mem 103 (by decide +kernel) (by decide +kernel)
theorem wM_3_170 : Cond.methodLink RX3 170 yX1_hasCollected ∈ kgT := kg_mem 424 (by decide +kernel) (by decide +kernel)
theorem wM_3_174 : Cond.methodLink RX3 174 yX1_passingOf ∈ kgT := kg_mem 432 (by decide +kernel) (by decide +kernel)
theorem wM_3_177 : Cond.methodLink RX3 177 yX3_perThousand ∈ kgT := kg_mem 449 (by decide +kernel) (by decide +kernel)
theorem wF_3_16 : Cond.fieldLink RX3 16 "SieveBench" "forecast" "LSieveBench$State;" ∈ kgT := kg_mem 166 (by decide +kernel) (by decide +kernel)
theorem wM_3_181 : Cond.methodLink RX3 181 yX1_copyFrom ∈ kgT := kg_mem 198 (by decide +kernel) (by decide +kernel)
theorem wF_3_185 : Cond.fieldLink RX3 185 "SieveBench" "nextSlot" "I" ∈ kgT := kg_mem 169 (by decide +kernel) (by decide +kernel)
theorem wF_3_19 : Cond.fieldLink RX3 19 "SieveBench" "saved" "[LSieveBench$State;" ∈ kgT := kg_mem 167 (by decide +kernel) (by decide +kernel)
theorem wM_3_188 : Cond.methodLink RX3 188 Lib.Math.min.name ∈ kgT := kg_mem 205 (by decide +kernel) (by decide +kernel)
theorem wS_snd_imin : Cond.static Lib.Math.min.name ∈ kgT := kg_mem 206 (by decide +kernel) (by decide +kernel)
theorem wC_snd_imin : Cond.code Lib.Math.min.name Lib.Math.min.code 2 (some .int) ∈ kgT := kg_mem 207 (by decide +kernel) (by decide +kernel)
theorem wM_3_193 : Cond.methodLink RX3 193 arraycopyName ∈ kgT := kg_mem 208 (by decide +kernel) (by decide +kernel)
theorem wV_acp : Cond.native arraycopyName ∈ kgT := kg_mem 210 (by decide +kernel) (by decide +kernel)
theorem wS_acp : Cond.static arraycopyName ∈ kgT := kg_mem 209 (by decide +kernel) (by decide +kernel)
theorem wI_sys : Cond.initialized "java/lang/System" ∈ kgT := kg_mem 36 (by decide +kernel) (by decide +kernel)
theorem wF_4_26 : Cond.fieldLink RX4 26 "SieveBenchModel" "pasts" "I" ∈ kgT := kg_mem 470 (by decide +kernel) (by decide +kernel)
theorem wF_4_13 : Cond.fieldLink RX4 13 "SieveBenchModel" "past" "[I" ∈ kgT := kg_mem 469 (by decide +kernel) (by decide +kernel)
theorem wF_4_7 : Cond.fieldLink RX4 7 "SieveBenchModel" "s" "[I" ∈ kgT := kg_mem 468 (by decide +kernel) (by decide +kernel)
theorem wM_4_30 : Cond.methodLink RX4 30 yX4_in ∈ kgT := kg_mem 502 (by decide +kernel) (by decide +kernel)
theorem wM_4_34 : Cond.methodLink RX4 34 yX4_notes ∈ kgT := kg_mem 505 (by decide +kernel) (by decide +kernel)
theorem wM_4_37 : Cond.methodLink RX4 37 yX4_sum ∈ kgT := kg_mem 517 (by decide +kernel) (by decide +kernel)
theorem wM_4_41 : Cond.methodLink RX4 41 yX4_massAt ∈ kgT := kg_mem 513 (by decide +kernel) (by decide +kernel)
theorem wM_4_45 : Cond.methodLink RX4 45 yX4_divides ∈ kgT := kg_mem 529 (by decide +kernel) (by decide +kernel)
theorem wF_4_49 : Cond.fieldLink RX4 49 "SieveBenchModel" "typed" "I" ∈ kgT := kg_mem 472 (by decide +kernel) (by decide +kernel)
theorem wF_4_16 : Cond.fieldLink RX4 16 "SieveBenchModel" "text" "[B" ∈ kgT := kg_mem 471 (by decide +kernel) (by decide +kernel)
theorem wF_4_52 : Cond.fieldLink RX4 52 "SieveBenchModel" "next" "I" ∈ kgT := kg_mem 475 (by decide +kernel) (by decide +kernel)
theorem wM_4_55 : Cond.methodLink RX4 55 yX4_here ∈ kgT := kg_mem 557 (by decide +kernel) (by decide +kernel)
theorem wF_4_23 : Cond.fieldLink RX4 23 "SieveBenchModel" "told" "[I" ∈ kgT := kg_mem 474 (by decide +kernel) (by decide +kernel)
theorem wK_4_59 : Cond.constant RX4 59 100000 ∈ kgT := kg_mem 565 (by decide +kernel) (by decide +kernel)
theorem wM_4_60 : Cond.methodLink RX4 60 yX4_readsPair ∈ kgT := kg_mem 561 (by decide +kernel) (by decide +kernel)
theorem wM_4_64 : Cond.methodLink RX4 64 yX4_reads ∈ kgT := kg_mem 553 (by decide +kernel) (by decide +kernel)
theorem wM_4_67 : Cond.methodLink RX4 67 yX4_trayWith ∈ kgT := kg_mem 570 (by decide +kernel) (by decide +kernel)
theorem wM_4_70 : Cond.methodLink RX4 70 yX4_ends ∈ kgT := kg_mem 574 (by decide +kernel) (by decide +kernel)
theorem wM_4_73 : Cond.methodLink RX4 73 yX4_changes ∈ kgT := kg_mem 586 (by decide +kernel) (by decide +kernel)
theorem wM_4_76 : Cond.methodLink RX4 76 yX4_isSieve ∈ kgT := kg_mem 606 (by decide +kernel) (by decide +kernel)
theorem wM_4_80 : Cond.methodLink RX4 80 yX4_at ∈ kgT := kg_mem 610 (by decide +kernel) (by decide +kernel)
theorem wM_4_83 : Cond.methodLink RX4 83 yX4_isTray ∈ kgT := kg_mem 602 (by decide +kernel) (by decide +kernel)
theorem wM_4_86 : Cond.methodLink RX4 86 yX4_openness ∈ kgT := kg_mem 614 (by decide +kernel) (by decide +kernel)
theorem wK_4_89 : Cond.constantLong RX4 89 300 ∈ kgT := kg_mem 637 (by decide +kernel) (by decide +kernel)
theorem wK_4_91 : Cond.constantLong RX4 91 600 ∈ kgT := kg_mem 638 (by decide +kernel) (by decide +kernel)
theorem wK_4_93 : Cond.constantLong RX4 93 900 ∈ kgT := kg_mem 639 (by decide +kernel) (by decide +kernel)
theorem wK_4_95 : Cond.constantLong RX4 95 1000000 ∈ kgT := kg_mem 640 (by decide +kernel) (by decide +kernel)
theorem wM_4_97 : Cond.methodLink RX4 97 yX4_falling ∈ kgT := kg_mem 634 (by decide +kernel) (by decide +kernel)
theorem wM_4_101 : Cond.methodLink RX4 101 yX4_minute ∈ kgT := kg_mem 630 (by decide +kernel) (by decide +kernel)
theorem wM_4_104 : Cond.methodLink RX4 104 yX4_lost ∈ kgT := kg_mem 653 (by decide +kernel) (by decide +kernel)
theorem wK_4_107 : Cond.constantLong RX4 107 1000 ∈ kgT := kg_mem 661 (by decide +kernel) (by decide +kernel)
theorem wM_4_109 : Cond.methodLink RX4 109 yX4_collected ∈ kgT := kg_mem 670 (by decide +kernel) (by decide +kernel)
theorem wM_4_112 : Cond.methodLink RX4 112 yX4_isTold ∈ kgT := kg_mem 666 (by decide +kernel) (by decide +kernel)
theorem wM_4_115 : Cond.methodLink RX4 115 yX4_passes ∈ kgT := kg_mem 674 (by decide +kernel) (by decide +kernel)
theorem wF_4_20 : Cond.fieldLink RX4 20 "SieveBenchModel" "kept" "[I" ∈ kgT := kg_mem 473 (by decide +kernel) (by decide +kernel)
theorem wM_4_118 : Cond.methodLink RX4 118 yX4_keeps ∈ kgT := kg_mem 694 (by decide +kernel) (by decide +kernel)
theorem wM_4_121 : Cond.methodLink RX4 121 yX4_restores ∈ kgT := kg_mem 698 (by decide +kernel) (by decide +kernel)
theorem hin0 : ∀ w ∈ u_ws RX0 TX0 5, w ∈ kgT := by
  intro w hw
  obtain ⟨k, hk, rfl⟩ := List.mem_map.mp hw
  have hk := List.mem_range.mp hk
  match k, hk with
  | 0, _ => exact wY_0_0
  | 1, _ => exact wY_0_1
  | 2, _ => exact wY_0_2
  | 3, _ => exact wY_0_3
  | 4, _ => exact wY_0_4
theorem hin1 : ∀ w ∈ u_ws RX1 TX1 14, w ∈ kgT := by
  intro w hw
  obtain ⟨k, hk, rfl⟩ := List.mem_map.mp hw
  have hk := List.mem_range.mp hk
  match k, hk with
  | 0, _ => exact wY_1_0
  | 1, _ => exact wY_1_1
  | 2, _ => exact wY_1_2
  | 3, _ => exact wY_1_3
  | 4, _ => exact wY_1_4
  | 5, _ => exact wY_1_5
  | 6, _ => exact wY_1_6
  | 7, _ => exact wY_1_7
  | 8, _ => exact wY_1_8
  | 9, _ => exact wY_1_9
  | 10, _ => exact wY_1_10
  | 11, _ => exact wY_1_11
  | 12, _ => exact wY_1_12
  | 13, _ => exact wY_1_13
theorem hin2 : ∀ w ∈ u_ws RX2 TX2 4, w ∈ kgT := by
  intro w hw
  obtain ⟨k, hk, rfl⟩ := List.mem_map.mp hw
  have hk := List.mem_range.mp hk
  match k, hk with
  | 0, _ => exact wY_2_0
  | 1, _ => exact wY_2_1
  | 2, _ => exact wY_2_2
  | 3, _ => exact wY_2_3
theorem hin3 : ∀ w ∈ u_ws RX3 TX3 6, w ∈ kgT := by
  intro w hw
  obtain ⟨k, hk, rfl⟩ := List.mem_map.mp hw
  have hk := List.mem_range.mp hk
  match k, hk with
  | 0, _ => exact wY_3_0
  | 1, _ => exact wY_3_1
  | 2, _ => exact wY_3_2
  | 3, _ => exact wY_3_3
  | 4, _ => exact wY_3_4
  | 5, _ => exact wY_3_5
theorem hin4 : ∀ w ∈ u_ws RX4 TX4 8, w ∈ kgT := by
  intro w hw
  obtain ⟨k, hk, rfl⟩ := List.mem_map.mp hw
  have hk := List.mem_range.mp hk
  match k, hk with
  | 0, _ => exact wY_4_0
  | 1, _ => exact wY_4_1
  | 2, _ => exact wY_4_2
  | 3, _ => exact wY_4_3
  | 4, _ => exact wY_4_4
  | 5, _ => exact wY_4_5
  | 6, _ => exact wY_4_6
  | 7, _ => exact wY_4_7
theorem mok_0 : kMok 0 := ⟨wC_X0_readPairs, wI_0, ⟨by decide +kernel, by decide +kernel, by decide +kernel⟩, by decide +kernel⟩
theorem mok_1 : kMok 1 := ⟨wC_X0_forget, wI_0, ⟨by decide +kernel, by decide +kernel, by decide +kernel⟩, by decide +kernel⟩
theorem mok_2 : kMok 2 := ⟨wC_X0_readPair, wI_0, ⟨by decide +kernel, by decide +kernel, by decide +kernel⟩, by decide +kernel⟩
theorem mok_3 : kMok 3 := ⟨wC_X0_readMass, wI_0, ⟨by decide +kernel, by decide +kernel, by decide +kernel⟩, by decide +kernel⟩
theorem mok_4 : kMok 4 := ⟨wC_X0_skipSpaces, wI_0, ⟨by decide +kernel, by decide +kernel, by decide +kernel⟩, by decide +kernel⟩
theorem mok_5 : kMok 5 := ⟨wC_X0_isSign, wI_0, ⟨by decide +kernel, by decide +kernel, by decide +kernel⟩, by decide +kernel⟩
theorem mok_6 : kMok 6 := ⟨wC_X0_isDigit, wI_0, ⟨by decide +kernel, by decide +kernel, by decide +kernel⟩, by decide +kernel⟩
theorem mok_7 : kMok 7 := ⟨wC_X0_digit, wI_0, ⟨by decide +kernel, by decide +kernel, by decide +kernel⟩, by decide +kernel⟩
theorem mok_8 : kMok 8 := ⟨wC_X1_copyFrom, wI_1, ⟨by decide +kernel, by decide +kernel, by decide +kernel⟩, by decide +kernel⟩
theorem mok_9 : kMok 9 := ⟨wC_X1_isTray, wI_1, ⟨by decide +kernel, by decide +kernel, by decide +kernel⟩, by decide +kernel⟩
theorem mok_10 : kMok 10 := ⟨wC_X1_isSieve, wI_1, ⟨by decide +kernel, by decide +kernel, by decide +kernel⟩, by decide +kernel⟩
theorem mok_11 : kMok 11 := ⟨wC_X1_halveSample, wI_1, ⟨by decide +kernel, by decide +kernel, by decide +kernel⟩, by decide +kernel⟩
theorem mok_12 : kMok 12 := ⟨wC_X1_findSieve, wI_1, ⟨by decide +kernel, by decide +kernel, by decide +kernel⟩, by decide +kernel⟩
theorem mok_13 : kMok 13 := ⟨wC_X1_insertSieve, wI_1, ⟨by decide +kernel, by decide +kernel, by decide +kernel⟩, by decide +kernel⟩
theorem mok_14 : kMok 14 := ⟨wC_X1_takeSieve, wI_1, ⟨by decide +kernel, by decide +kernel, by decide +kernel⟩, by decide +kernel⟩
theorem mok_15 : kMok 15 := ⟨wC_X1_endAnalysis, wI_1, ⟨by decide +kernel, by decide +kernel, by decide +kernel⟩, by decide +kernel⟩
theorem mok_16 : kMok 16 := ⟨wC_X1_beginAnalysis, wI_1, ⟨by decide +kernel, by decide +kernel, by decide +kernel⟩, by decide +kernel⟩
theorem mok_17 : kMok 17 := ⟨wC_X1_shakeOneMinute, wI_1, ⟨by decide +kernel, by decide +kernel, by decide +kernel⟩, by decide +kernel⟩
theorem mok_18 : kMok 18 := ⟨wC_X1_lostMass, wI_1, ⟨by decide +kernel, by decide +kernel, by decide +kernel⟩, by decide +kernel⟩
theorem mok_19 : kMok 19 := ⟨wC_X1_hasCollected, wI_1, ⟨by decide +kernel, by decide +kernel, by decide +kernel⟩, by decide +kernel⟩
theorem mok_20 : kMok 20 := ⟨wC_X1_passingOf, wI_1, ⟨by decide +kernel, by decide +kernel, by decide +kernel⟩, by decide +kernel⟩
theorem mok_21 : kMok 21 := ⟨wC_X1_collectedFrom, wI_1, ⟨by decide +kernel, by decide +kernel, by decide +kernel⟩, by decide +kernel⟩
theorem mok_22 : kMok 22 := ⟨wC_X2_copyFrom, wI_2, ⟨by decide +kernel, by decide +kernel, by decide +kernel⟩, by decide +kernel⟩
theorem mok_23 : kMok 23 := ⟨wC_X2_throwAway, wI_2, ⟨by decide +kernel, by decide +kernel, by decide +kernel⟩, by decide +kernel⟩
theorem mok_24 : kMok 24 := ⟨wC_X2_openness, wI_2, ⟨by decide +kernel, by decide +kernel, by decide +kernel⟩, by decide +kernel⟩
theorem mok_25 : kMok 25 := ⟨wC_X2_dropOnto, wI_2, ⟨by decide +kernel, by decide +kernel, by decide +kernel⟩, by decide +kernel⟩
theorem mok_26 : kMok 26 := ⟨wC_X2_blind, wI_2, ⟨by decide +kernel, by decide +kernel, by decide +kernel⟩, by decide +kernel⟩
theorem mok_27 : kMok 27 := ⟨wC_X2_fallingOf, wI_2, ⟨by decide +kernel, by decide +kernel, by decide +kernel⟩, by decide +kernel⟩
theorem mok_28 : kMok 28 := ⟨wC_X2_easeOf, wI_2, ⟨by decide +kernel, by decide +kernel, by decide +kernel⟩, by decide +kernel⟩
theorem mok_29 : kMok 29 := ⟨wC_X3_setMass, wI_3, ⟨by decide +kernel, by decide +kernel, by decide +kernel⟩, by decide +kernel⟩
theorem mok_30 : kMok 30 := ⟨wC_X3_mass, wI_3, ⟨by decide +kernel, by decide +kernel, by decide +kernel⟩, by decide +kernel⟩
theorem mok_31 : kMok 31 := ⟨wC_X3_reserve, wI_3, ⟨by decide +kernel, by decide +kernel, by decide +kernel⟩, by decide +kernel⟩
theorem mok_32 : kMok 32 := ⟨wC_X3_split, wI_3, ⟨by decide +kernel, by decide +kernel, by decide +kernel⟩, by decide +kernel⟩
theorem mok_33 : kMok 33 := ⟨wC_X3_splitTo, wI_3, ⟨by decide +kernel, by decide +kernel, by decide +kernel⟩, by decide +kernel⟩
theorem mok_34 : kMok 34 := ⟨wC_X3_combine, wI_3, ⟨by decide +kernel, by decide +kernel, by decide +kernel⟩, by decide +kernel⟩
theorem mok_35 : kMok 35 := ⟨wC_X3_appendCharacter, wI_3, ⟨by decide +kernel, by decide +kernel, by decide +kernel⟩, by decide +kernel⟩
theorem mok_36 : kMok 36 := ⟨wC_X3_clearText, wI_3, ⟨by decide +kernel, by decide +kernel, by decide +kernel⟩, by decide +kernel⟩
theorem mok_37 : kMok 37 := ⟨wC_X3_load, wI_3, ⟨by decide +kernel, by decide +kernel, by decide +kernel⟩, by decide +kernel⟩
theorem mok_38 : kMok 38 := ⟨wC_X3_addSieve, wI_3, ⟨by decide +kernel, by decide +kernel, by decide +kernel⟩, by decide +kernel⟩
theorem mok_39 : kMok 39 := ⟨wC_X3_removeSieve, wI_3, ⟨by decide +kernel, by decide +kernel, by decide +kernel⟩, by decide +kernel⟩
theorem mok_40 : kMok 40 := ⟨wC_X3_setRules, wI_3, ⟨by decide +kernel, by decide +kernel, by decide +kernel⟩, by decide +kernel⟩
theorem mok_41 : kMok 41 := ⟨wC_X3_setBand, wI_3, ⟨by decide +kernel, by decide +kernel, by decide +kernel⟩, by decide +kernel⟩
theorem mok_42 : kMok 42 := ⟨wC_X3_count, wI_3, ⟨by decide +kernel, by decide +kernel, by decide +kernel⟩, by decide +kernel⟩
theorem mok_43 : kMok 43 := ⟨wC_X3_tray, wI_3, ⟨by decide +kernel, by decide +kernel, by decide +kernel⟩, by decide +kernel⟩
theorem mok_44 : kMok 44 := ⟨wC_X3_on, wI_3, ⟨by decide +kernel, by decide +kernel, by decide +kernel⟩, by decide +kernel⟩
theorem mok_45 : kMok 45 := ⟨wC_X3_charge, wI_3, ⟨by decide +kernel, by decide +kernel, by decide +kernel⟩, by decide +kernel⟩
theorem mok_46 : kMok 46 := ⟨wC_X3_shake, wI_3, ⟨by decide +kernel, by decide +kernel, by decide +kernel⟩, by decide +kernel⟩
theorem mok_47 : kMok 47 := ⟨wC_X3_collect, wI_3, ⟨by decide +kernel, by decide +kernel, by decide +kernel⟩, by decide +kernel⟩
theorem mok_48 : kMok 48 := ⟨wC_X3_brush, wI_3, ⟨by decide +kernel, by decide +kernel, by decide +kernel⟩, by decide +kernel⟩
theorem mok_49 : kMok 49 := ⟨wC_X3_loss, wI_3, ⟨by decide +kernel, by decide +kernel, by decide +kernel⟩, by decide +kernel⟩
theorem mok_50 : kMok 50 := ⟨wC_X3_isGood, wI_3, ⟨by decide +kernel, by decide +kernel, by decide +kernel⟩, by decide +kernel⟩
theorem mok_51 : kMok 51 := ⟨wC_X3_passing, wI_3, ⟨by decide +kernel, by decide +kernel, by decide +kernel⟩, by decide +kernel⟩
theorem mok_52 : kMok 52 := ⟨wC_X3_misses, wI_3, ⟨by decide +kernel, by decide +kernel, by decide +kernel⟩, by decide +kernel⟩
theorem mok_53 : kMok 53 := ⟨wC_X3_modulus, wI_3, ⟨by decide +kernel, by decide +kernel, by decide +kernel⟩, by decide +kernel⟩
theorem mok_54 : kMok 54 := ⟨wC_X3_truePassing, wI_3, ⟨by decide +kernel, by decide +kernel, by decide +kernel⟩, by decide +kernel⟩
theorem mok_55 : kMok 55 := ⟨wC_X3_minutesTo, wI_3, ⟨by decide +kernel, by decide +kernel, by decide +kernel⟩, by decide +kernel⟩
theorem mok_56 : kMok 56 := ⟨wC_X3_dustIn, wI_3, ⟨by decide +kernel, by decide +kernel, by decide +kernel⟩, by decide +kernel⟩
theorem mok_57 : kMok 57 := ⟨wC_X3_undo, wI_3, ⟨by decide +kernel, by decide +kernel, by decide +kernel⟩, by decide +kernel⟩
theorem mok_58 : kMok 58 := ⟨wC_X3_saveState, wI_3, ⟨by decide +kernel, by decide +kernel, by decide +kernel⟩, by decide +kernel⟩
theorem mok_59 : kMok 59 := ⟨wC_X3_isIn, wI_3, ⟨by decide +kernel, by decide +kernel, by decide +kernel⟩, by decide +kernel⟩
theorem mok_60 : kMok 60 := ⟨wC_X3_isClass, wI_3, ⟨by decide +kernel, by decide +kernel, by decide +kernel⟩, by decide +kernel⟩
theorem mok_61 : kMok 61 := ⟨wC_X3_massIn, wI_3, ⟨by decide +kernel, by decide +kernel, by decide +kernel⟩, by decide +kernel⟩
theorem mok_62 : kMok 62 := ⟨wC_X3_sumOf, wI_3, ⟨by decide +kernel, by decide +kernel, by decide +kernel⟩, by decide +kernel⟩
theorem mok_63 : kMok 63 := ⟨wC_X3_clearRow, wI_3, ⟨by decide +kernel, by decide +kernel, by decide +kernel⟩, by decide +kernel⟩
theorem mok_64 : kMok 64 := ⟨wC_X3_copyRow, wI_3, ⟨by decide +kernel, by decide +kernel, by decide +kernel⟩, by decide +kernel⟩
theorem mok_65 : kMok 65 := ⟨wC_X3_perThousand, wI_3, ⟨by decide +kernel, by decide +kernel, by decide +kernel⟩, by decide +kernel⟩
theorem mok_66 : kMok 66 := ⟨wC_X4_in, wI_4, ⟨by decide +kernel, by decide +kernel, by decide +kernel⟩, by decide +kernel⟩
theorem mok_67 : kMok 67 := ⟨wC_X4_notes, wI_4, ⟨by decide +kernel, by decide +kernel, by decide +kernel⟩, by decide +kernel⟩
theorem mok_68 : kMok 68 := ⟨wC_X4_undo, wI_4, ⟨by decide +kernel, by decide +kernel, by decide +kernel⟩, by decide +kernel⟩
theorem mok_69 : kMok 69 := ⟨wC_X4_sum, wI_4, ⟨by decide +kernel, by decide +kernel, by decide +kernel⟩, by decide +kernel⟩
theorem mok_70 : kMok 70 := ⟨wC_X4_setMass, wI_4, ⟨by decide +kernel, by decide +kernel, by decide +kernel⟩, by decide +kernel⟩
theorem mok_71 : kMok 71 := ⟨wC_X4_massAt, wI_4, ⟨by decide +kernel, by decide +kernel, by decide +kernel⟩, by decide +kernel⟩
theorem mok_72 : kMok 72 := ⟨wC_X4_mass, wI_4, ⟨by decide +kernel, by decide +kernel, by decide +kernel⟩, by decide +kernel⟩
theorem mok_73 : kMok 73 := ⟨wC_X4_reserve, wI_4, ⟨by decide +kernel, by decide +kernel, by decide +kernel⟩, by decide +kernel⟩
theorem mok_74 : kMok 74 := ⟨wC_X4_divides, wI_4, ⟨by decide +kernel, by decide +kernel, by decide +kernel⟩, by decide +kernel⟩
theorem mok_75 : kMok 75 := ⟨wC_X4_split, wI_4, ⟨by decide +kernel, by decide +kernel, by decide +kernel⟩, by decide +kernel⟩
theorem mok_76 : kMok 76 := ⟨wC_X4_splitTo, wI_4, ⟨by decide +kernel, by decide +kernel, by decide +kernel⟩, by decide +kernel⟩
theorem mok_77 : kMok 77 := ⟨wC_X4_combine, wI_4, ⟨by decide +kernel, by decide +kernel, by decide +kernel⟩, by decide +kernel⟩
theorem mok_78 : kMok 78 := ⟨wC_X4_appendCharacter, wI_4, ⟨by decide +kernel, by decide +kernel, by decide +kernel⟩, by decide +kernel⟩
theorem mok_79 : kMok 79 := ⟨wC_X4_clearText, wI_4, ⟨by decide +kernel, by decide +kernel, by decide +kernel⟩, by decide +kernel⟩
theorem mok_80 : kMok 80 := ⟨wC_X4_here, wI_4, ⟨by decide +kernel, by decide +kernel, by decide +kernel⟩, by decide +kernel⟩
theorem mok_81 : kMok 81 := ⟨wC_X4_readsPair, wI_4, ⟨by decide +kernel, by decide +kernel, by decide +kernel⟩, by decide +kernel⟩
theorem mok_82 : kMok 82 := ⟨wC_X4_reads, wI_4, ⟨by decide +kernel, by decide +kernel, by decide +kernel⟩, by decide +kernel⟩
theorem mok_83 : kMok 83 := ⟨wC_X4_load, wI_4, ⟨by decide +kernel, by decide +kernel, by decide +kernel⟩, by decide +kernel⟩
theorem mok_84 : kMok 84 := ⟨wC_X4_at, wI_4, ⟨by decide +kernel, by decide +kernel, by decide +kernel⟩, by decide +kernel⟩
theorem mok_85 : kMok 85 := ⟨wC_X4_trayWith, wI_4, ⟨by decide +kernel, by decide +kernel, by decide +kernel⟩, by decide +kernel⟩
theorem mok_86 : kMok 86 := ⟨wC_X4_ends, wI_4, ⟨by decide +kernel, by decide +kernel, by decide +kernel⟩, by decide +kernel⟩
theorem mok_87 : kMok 87 := ⟨wC_X4_addSieve, wI_4, ⟨by decide +kernel, by decide +kernel, by decide +kernel⟩, by decide +kernel⟩
theorem mok_88 : kMok 88 := ⟨wC_X4_removeSieve, wI_4, ⟨by decide +kernel, by decide +kernel, by decide +kernel⟩, by decide +kernel⟩
theorem mok_89 : kMok 89 := ⟨wC_X4_changes, wI_4, ⟨by decide +kernel, by decide +kernel, by decide +kernel⟩, by decide +kernel⟩
theorem mok_90 : kMok 90 := ⟨wC_X4_setRules, wI_4, ⟨by decide +kernel, by decide +kernel, by decide +kernel⟩, by decide +kernel⟩
theorem mok_91 : kMok 91 := ⟨wC_X4_setBand, wI_4, ⟨by decide +kernel, by decide +kernel, by decide +kernel⟩, by decide +kernel⟩
theorem mok_92 : kMok 92 := ⟨wC_X4_count, wI_4, ⟨by decide +kernel, by decide +kernel, by decide +kernel⟩, by decide +kernel⟩
theorem mok_93 : kMok 93 := ⟨wC_X4_isTray, wI_4, ⟨by decide +kernel, by decide +kernel, by decide +kernel⟩, by decide +kernel⟩
theorem mok_94 : kMok 94 := ⟨wC_X4_isSieve, wI_4, ⟨by decide +kernel, by decide +kernel, by decide +kernel⟩, by decide +kernel⟩
theorem mok_95 : kMok 95 := ⟨wC_X4_openness, wI_4, ⟨by decide +kernel, by decide +kernel, by decide +kernel⟩, by decide +kernel⟩
theorem mok_96 : kMok 96 := ⟨wC_X4_tray, wI_4, ⟨by decide +kernel, by decide +kernel, by decide +kernel⟩, by decide +kernel⟩
theorem mok_97 : kMok 97 := ⟨wC_X4_on, wI_4, ⟨by decide +kernel, by decide +kernel, by decide +kernel⟩, by decide +kernel⟩
theorem mok_98 : kMok 98 := ⟨wC_X4_charge, wI_4, ⟨by decide +kernel, by decide +kernel, by decide +kernel⟩, by decide +kernel⟩
theorem mok_99 : kMok 99 := ⟨wC_X4_falling, wI_4, ⟨by decide +kernel, by decide +kernel, by decide +kernel⟩, by decide +kernel⟩
theorem mok_100 : kMok 100 := ⟨wC_X4_minute, wI_4, ⟨by decide +kernel, by decide +kernel, by decide +kernel⟩, by decide +kernel⟩
theorem mok_101 : kMok 101 := ⟨wC_X4_shake, wI_4, ⟨by decide +kernel, by decide +kernel, by decide +kernel⟩, by decide +kernel⟩
theorem mok_102 : kMok 102 := ⟨wC_X4_collect, wI_4, ⟨by decide +kernel, by decide +kernel, by decide +kernel⟩, by decide +kernel⟩
theorem mok_103 : kMok 103 := ⟨wC_X4_brush, wI_4, ⟨by decide +kernel, by decide +kernel, by decide +kernel⟩, by decide +kernel⟩
theorem mok_104 : kMok 104 := ⟨wC_X4_lost, wI_4, ⟨by decide +kernel, by decide +kernel, by decide +kernel⟩, by decide +kernel⟩
theorem mok_105 : kMok 105 := ⟨wC_X4_loss, wI_4, ⟨by decide +kernel, by decide +kernel, by decide +kernel⟩, by decide +kernel⟩
theorem mok_106 : kMok 106 := ⟨wC_X4_isGood, wI_4, ⟨by decide +kernel, by decide +kernel, by decide +kernel⟩, by decide +kernel⟩
theorem mok_107 : kMok 107 := ⟨wC_X4_collected, wI_4, ⟨by decide +kernel, by decide +kernel, by decide +kernel⟩, by decide +kernel⟩
theorem mok_108 : kMok 108 := ⟨wC_X4_isTold, wI_4, ⟨by decide +kernel, by decide +kernel, by decide +kernel⟩, by decide +kernel⟩
theorem mok_109 : kMok 109 := ⟨wC_X4_passes, wI_4, ⟨by decide +kernel, by decide +kernel, by decide +kernel⟩, by decide +kernel⟩
theorem mok_110 : kMok 110 := ⟨wC_X4_passing, wI_4, ⟨by decide +kernel, by decide +kernel, by decide +kernel⟩, by decide +kernel⟩
theorem mok_111 : kMok 111 := ⟨wC_X4_misses, wI_4, ⟨by decide +kernel, by decide +kernel, by decide +kernel⟩, by decide +kernel⟩
theorem mok_112 : kMok 112 := ⟨wC_X4_modulus, wI_4, ⟨by decide +kernel, by decide +kernel, by decide +kernel⟩, by decide +kernel⟩
theorem mok_113 : kMok 113 := ⟨wC_X4_truePassing, wI_4, ⟨by decide +kernel, by decide +kernel, by decide +kernel⟩, by decide +kernel⟩
theorem mok_114 : kMok 114 := ⟨wC_X4_keeps, wI_4, ⟨by decide +kernel, by decide +kernel, by decide +kernel⟩, by decide +kernel⟩
theorem mok_115 : kMok 115 := ⟨wC_X4_restores, wI_4, ⟨by decide +kernel, by decide +kernel, by decide +kernel⟩, by decide +kernel⟩
theorem mok_116 : kMok 116 := ⟨wC_X4_minutesTo, wI_4, ⟨by decide +kernel, by decide +kernel, by decide +kernel⟩, by decide +kernel⟩
theorem mok_117 : kMok 117 := ⟨wC_X4_dustIn, wI_4, ⟨by decide +kernel, by decide +kernel, by decide +kernel⟩, by decide +kernel⟩
end
