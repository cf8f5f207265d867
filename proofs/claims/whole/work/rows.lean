section
-- ===== PART A: goes FIRST, ahead of the names: the tables' words, and 'selects' of the private methods out of them =====
/-- a private method of a class that the tables say can be made, by its rows of tables_1 -/
def lw_okq (q : MethodName × Nat) : Prop := (q.1.cls ≠ "java/lang/invoke/MethodHandle" ∧ q.1.cls ≠ "java/lang/invoke/VarHandle") ∧ Cond.instantiable q.1.cls q.2 ∈ tables_1 ∧ Cond.privateMethod q.1 ∈ tables_1 ∧ Cond.instanceMethod q.1 ∈ tables_1
theorem lw_p0 : lw_okq (⟨"CoverJoin", "isEdition", "(I)Z"⟩, 13) := ⟨⟨by decide +kernel, by decide +kernel⟩, List.mem_of_getElem? (i := 7) (by decide +kernel), List.mem_of_getElem? (i := 93) (by decide +kernel), List.mem_of_getElem? (i := 94) (by decide +kernel)⟩
theorem lw_p1 : lw_okq (⟨"CoverJoin", "addRun", "(IIJ)I"⟩, 13) := ⟨⟨by decide +kernel, by decide +kernel⟩, List.mem_of_getElem? (i := 7) (by decide +kernel), List.mem_of_getElem? (i := 112) (by decide +kernel), List.mem_of_getElem? (i := 113) (by decide +kernel)⟩
theorem lw_p2 : lw_okq (⟨"CoverJoin", "isRun", "(I)Z"⟩, 13) := ⟨⟨by decide +kernel, by decide +kernel⟩, List.mem_of_getElem? (i := 7) (by decide +kernel), List.mem_of_getElem? (i := 120) (by decide +kernel), List.mem_of_getElem? (i := 121) (by decide +kernel)⟩
theorem lw_p3 : lw_okq (⟨"CoverJoin", "isLine", "(II)Z"⟩, 13) := ⟨⟨by decide +kernel, by decide +kernel⟩, List.mem_of_getElem? (i := 7) (by decide +kernel), List.mem_of_getElem? (i := 124) (by decide +kernel), List.mem_of_getElem? (i := 125) (by decide +kernel)⟩
theorem lw_p4 : lw_okq (⟨"CoverJoin", "hitsLine", "(II)Z"⟩, 13) := ⟨⟨by decide +kernel, by decide +kernel⟩, List.mem_of_getElem? (i := 7) (by decide +kernel), List.mem_of_getElem? (i := 128) (by decide +kernel), List.mem_of_getElem? (i := 129) (by decide +kernel)⟩
theorem lw_p5 : lw_okq (⟨"CoverJoin", "compare", "(II)V"⟩, 13) := ⟨⟨by decide +kernel, by decide +kernel⟩, List.mem_of_getElem? (i := 7) (by decide +kernel), List.mem_of_getElem? (i := 140) (by decide +kernel), List.mem_of_getElem? (i := 141) (by decide +kernel)⟩
theorem lw_p6 : lw_okq (⟨"CoverJoin", "countPairs", "(II)V"⟩, 13) := ⟨⟨by decide +kernel, by decide +kernel⟩, List.mem_of_getElem? (i := 7) (by decide +kernel), List.mem_of_getElem? (i := 144) (by decide +kernel), List.mem_of_getElem? (i := 145) (by decide +kernel)⟩
theorem lw_p7 : lw_okq (⟨"CoverJoin", "choosePairs", "(II)V"⟩, 13) := ⟨⟨by decide +kernel, by decide +kernel⟩, List.mem_of_getElem? (i := 7) (by decide +kernel), List.mem_of_getElem? (i := 151) (by decide +kernel), List.mem_of_getElem? (i := 152) (by decide +kernel)⟩
theorem lw_p8 : lw_okq (⟨"CoverJoin", "placeOf", "(III)I"⟩, 13) := ⟨⟨by decide +kernel, by decide +kernel⟩, List.mem_of_getElem? (i := 7) (by decide +kernel), List.mem_of_getElem? (i := 155) (by decide +kernel), List.mem_of_getElem? (i := 156) (by decide +kernel)⟩
theorem lw_p9 : lw_okq (⟨"CoverJoin", "pairsOf", "(IJ)J"⟩, 13) := ⟨⟨by decide +kernel, by decide +kernel⟩, List.mem_of_getElem? (i := 7) (by decide +kernel), List.mem_of_getElem? (i := 159) (by decide +kernel), List.mem_of_getElem? (i := 160) (by decide +kernel)⟩
theorem lw_p10 : lw_okq (⟨"CoverJoin", "hitShare", "(II)I"⟩, 13) := ⟨⟨by decide +kernel, by decide +kernel⟩, List.mem_of_getElem? (i := 7) (by decide +kernel), List.mem_of_getElem? (i := 178) (by decide +kernel), List.mem_of_getElem? (i := 179) (by decide +kernel)⟩
theorem lw_p11 : lw_okq (⟨"CoverJoin", "wholeShare", "(II)I"⟩, 13) := ⟨⟨by decide +kernel, by decide +kernel⟩, List.mem_of_getElem? (i := 7) (by decide +kernel), List.mem_of_getElem? (i := 188) (by decide +kernel), List.mem_of_getElem? (i := 189) (by decide +kernel)⟩
theorem lw_p12 : lw_okq (⟨"CoverJoin", "ungenerated", "(I)J"⟩, 13) := ⟨⟨by decide +kernel, by decide +kernel⟩, List.mem_of_getElem? (i := 7) (by decide +kernel), List.mem_of_getElem? (i := 196) (by decide +kernel), List.mem_of_getElem? (i := 197) (by decide +kernel)⟩
theorem lw_p13 : lw_okq (⟨"CoverJoin", "gatherCandidates", "(I)V"⟩, 13) := ⟨⟨by decide +kernel, by decide +kernel⟩, List.mem_of_getElem? (i := 7) (by decide +kernel), List.mem_of_getElem? (i := 216) (by decide +kernel), List.mem_of_getElem? (i := 217) (by decide +kernel)⟩
theorem lw_p14 : lw_okq (⟨"CoverJoin", "weightOf", "(I)J"⟩, 13) := ⟨⟨by decide +kernel, by decide +kernel⟩, List.mem_of_getElem? (i := 7) (by decide +kernel), List.mem_of_getElem? (i := 220) (by decide +kernel), List.mem_of_getElem? (i := 221) (by decide +kernel)⟩
theorem lw_p15 : lw_okq (⟨"CoverJoinModel", "newRun", "(IIJ)I"⟩, 13) := ⟨⟨by decide +kernel, by decide +kernel⟩, List.mem_of_getElem? (i := 238) (by decide +kernel), List.mem_of_getElem? (i := 304) (by decide +kernel), List.mem_of_getElem? (i := 305) (by decide +kernel)⟩
def lw_privs_1 : List (MethodName × Nat) := [(⟨"CoverJoin", "isEdition", "(I)Z"⟩, 13), (⟨"CoverJoin", "addRun", "(IIJ)I"⟩, 13), (⟨"CoverJoin", "isRun", "(I)Z"⟩, 13), (⟨"CoverJoin", "isLine", "(II)Z"⟩, 13), (⟨"CoverJoin", "hitsLine", "(II)Z"⟩, 13), (⟨"CoverJoin", "compare", "(II)V"⟩, 13), (⟨"CoverJoin", "countPairs", "(II)V"⟩, 13), (⟨"CoverJoin", "choosePairs", "(II)V"⟩, 13), (⟨"CoverJoin", "placeOf", "(III)I"⟩, 13), (⟨"CoverJoin", "pairsOf", "(IJ)J"⟩, 13), (⟨"CoverJoin", "hitShare", "(II)I"⟩, 13), (⟨"CoverJoin", "wholeShare", "(II)I"⟩, 13), (⟨"CoverJoin", "ungenerated", "(I)J"⟩, 13), (⟨"CoverJoin", "gatherCandidates", "(I)V"⟩, 13), (⟨"CoverJoin", "weightOf", "(I)J"⟩, 13), (⟨"CoverJoinModel", "newRun", "(IIJ)I"⟩, 13)]
theorem lw_r1 : ∀ q ∈ lw_privs_1, lw_okq q := List.forall_mem_cons.mpr ⟨lw_p0, List.forall_mem_cons.mpr ⟨lw_p1, List.forall_mem_cons.mpr ⟨lw_p2, List.forall_mem_cons.mpr ⟨lw_p3, List.forall_mem_cons.mpr ⟨lw_p4, List.forall_mem_cons.mpr ⟨lw_p5, List.forall_mem_cons.mpr ⟨lw_p6, List.forall_mem_cons.mpr ⟨lw_p7, List.forall_mem_cons.mpr ⟨lw_p8, List.forall_mem_cons.mpr ⟨lw_p9, List.forall_mem_cons.mpr ⟨lw_p10, List.forall_mem_cons.mpr ⟨lw_p11, List.forall_mem_cons.mpr ⟨lw_p12, List.forall_mem_cons.mpr ⟨lw_p13, List.forall_mem_cons.mpr ⟨lw_p14, List.forall_mem_cons.mpr ⟨lw_p15, fun _ h => absurd h List.not_mem_nil⟩⟩⟩⟩⟩⟩⟩⟩⟩⟩⟩⟩⟩⟩⟩⟩
theorem lw_p16 : lw_okq (⟨"CoverJoinModel", "isLine", "(II)Z"⟩, 13) := ⟨⟨by decide +kernel, by decide +kernel⟩, List.mem_of_getElem? (i := 238) (by decide +kernel), List.mem_of_getElem? (i := 312) (by decide +kernel), List.mem_of_getElem? (i := 313) (by decide +kernel)⟩
theorem lw_p17 : lw_okq (⟨"CoverJoinModel", "isHit", "(II)Z"⟩, 13) := ⟨⟨by decide +kernel, by decide +kernel⟩, List.mem_of_getElem? (i := 238) (by decide +kernel), List.mem_of_getElem? (i := 316) (by decide +kernel), List.mem_of_getElem? (i := 317) (by decide +kernel)⟩
theorem lw_p18 : lw_okq (⟨"CoverJoinModel", "compare", "(II)V"⟩, 13) := ⟨⟨by decide +kernel, by decide +kernel⟩, List.mem_of_getElem? (i := 238) (by decide +kernel), List.mem_of_getElem? (i := 328) (by decide +kernel), List.mem_of_getElem? (i := 329) (by decide +kernel)⟩
theorem lw_p19 : lw_okq (⟨"CoverJoinModel", "isAlike", "(IIII)Z"⟩, 13) := ⟨⟨by decide +kernel, by decide +kernel⟩, List.mem_of_getElem? (i := 238) (by decide +kernel), List.mem_of_getElem? (i := 332) (by decide +kernel), List.mem_of_getElem? (i := 333) (by decide +kernel)⟩
theorem lw_p20 : lw_okq (⟨"CoverJoinModel", "shareOf", "(IIZ)I"⟩, 13) := ⟨⟨by decide +kernel, by decide +kernel⟩, List.mem_of_getElem? (i := 238) (by decide +kernel), List.mem_of_getElem? (i := 348) (by decide +kernel), List.mem_of_getElem? (i := 349) (by decide +kernel)⟩
def lw_privs_2 : List (MethodName × Nat) := [(⟨"CoverJoinModel", "isLine", "(II)Z"⟩, 13), (⟨"CoverJoinModel", "isHit", "(II)Z"⟩, 13), (⟨"CoverJoinModel", "compare", "(II)V"⟩, 13), (⟨"CoverJoinModel", "isAlike", "(IIII)Z"⟩, 13), (⟨"CoverJoinModel", "shareOf", "(IIZ)I"⟩, 13)]
theorem lw_r2 : ∀ q ∈ lw_privs_2, lw_okq q := List.forall_mem_cons.mpr ⟨lw_p16, List.forall_mem_cons.mpr ⟨lw_p17, List.forall_mem_cons.mpr ⟨lw_p18, List.forall_mem_cons.mpr ⟨lw_p19, List.forall_mem_cons.mpr ⟨lw_p20, fun _ h => absurd h List.not_mem_nil⟩⟩⟩⟩⟩
def lw_privs : List (MethodName × Nat) := lw_privs_1 ++ (lw_privs_2)
def lw_tbl : List Cond := k2_sels lw_privs ++ tables_1
theorem lw_privs_ok : ∀ q ∈ lw_privs, lw_okq q := by
  show ∀ q ∈ lw_privs_1 ++ (lw_privs_2), lw_okq q
  exact List.forall_mem_append.mpr ⟨lw_r1, lw_r2⟩

abbrev RC : String := "CoverJoin"
abbrev RD : String := "CoverJoin$Candidates"
abbrev RM : String := "CoverJoinModel"
abbrev RJ : String := "java/lang/Long"
abbrev RQ : String := "java/lang/Math"
abbrev RL : String := "CoverJoinLaw"
abbrev RO : String := "java/lang/Object"
def TD : u_T := fun k => match k with
  | 0 => ("CoverJoin$Candidates", "count", "I", false)
  | 1 => ("CoverJoin$Candidates", "hits", "[J", true)
  | 2 => ("CoverJoin$Candidates", "weights", "[J", true)
  | _ => ("CoverJoin$Candidates", "reach", "[J", true)
def tyD : Nat → FieldType := fun k => match k with
  | 0 => .int
  | 1 => .array .long
  | 2 => .array .long
  | _ => .array .long
theorem nmD : ∀ a, a < 4 → ∀ b, b < 4 → a ≠ b → (TD a).2.1 ≠ (TD b).2.1 := by decide +kernel
theorem tyD_ok : ∀ k, k < 4 → parseFieldDescriptor (TD k).2.2.1 = some (tyD k) := by decide +kernel
def TC : u_T := fun k => match k with
  | 0 => ("CoverJoin", "editionCount", "I", false)
  | 1 => ("CoverJoin", "lineCounts", "[I", true)
  | 2 => ("CoverJoin", "closed", "[Z", true)
  | 3 => ("CoverJoin", "contents", "[[I", true)
  | 4 => ("CoverJoin", "owned", "[[J", true)
  | 5 => ("CoverJoin", "runCount", "I", false)
  | 6 => ("CoverJoin", "runEditions", "[I", true)
  | 7 => ("CoverJoin", "runCosts", "[I", true)
  | 8 => ("CoverJoin", "runHits", "[J", true)
  | 9 => ("CoverJoin", "mostPairs", "[[I", true)
  | 10 => ("CoverJoin", "pairs", "[I", true)
  | 11 => ("CoverJoin", "candidates", "LCoverJoin$Candidates;", true)
  | _ => ("CoverJoin", "chosenRuns", "I", false)
def tyC : Nat → FieldType := fun k => match k with
  | 0 => .int
  | 1 => .array .int
  | 2 => .array .boolean
  | 3 => .array (.array .int)
  | 4 => .array (.array .long)
  | 5 => .int
  | 6 => .array .int
  | 7 => .array .int
  | 8 => .array .long
  | 9 => .array (.array .int)
  | 10 => .array .int
  | 11 => .object "CoverJoin$Candidates"
  | _ => .int
theorem nmC : ∀ a, a < 13 → ∀ b, b < 13 → a ≠ b → (TC a).2.1 ≠ (TC b).2.1 := by decide +kernel
theorem tyC_ok : ∀ k, k < 13 → parseFieldDescriptor (TC k).2.2.1 = some (tyC k) := by decide +kernel
def TM : u_T := fun k => match k with
  | 0 => ("CoverJoinModel", "editions", "I", false)
  | 1 => ("CoverJoinModel", "runs", "I", false)
  | 2 => ("CoverJoinModel", "chosen", "I", false)
  | 3 => ("CoverJoinModel", "lines", "[I", true)
  | 4 => ("CoverJoinModel", "content", "[I", true)
  | 5 => ("CoverJoinModel", "owner", "[I", true)
  | 6 => ("CoverJoinModel", "generated", "[Z", true)
  | 7 => ("CoverJoinModel", "isFast", "[Z", true)
  | 8 => ("CoverJoinModel", "editionOf", "[I", true)
  | 9 => ("CoverJoinModel", "cost", "[I", true)
  | 10 => ("CoverJoinModel", "hits", "[J", true)
  | 11 => ("CoverJoinModel", "longest", "[I", true)
  | _ => ("CoverJoinModel", "pair", "[I", true)
def tyM : Nat → FieldType := fun k => match k with
  | 0 => .int
  | 1 => .int
  | 2 => .int
  | 3 => .array .int
  | 4 => .array .int
  | 5 => .array .int
  | 6 => .array .boolean
  | 7 => .array .boolean
  | 8 => .array .int
  | 9 => .array .int
  | 10 => .array .long
  | 11 => .array .int
  | _ => .array .int
theorem nmM : ∀ a, a < 13 → ∀ b, b < 13 → a ≠ b → (TM a).2.1 ≠ (TM b).2.1 := by decide +kernel
theorem tyM_ok : ∀ k, k < 13 → parseFieldDescriptor (TM k).2.2.1 = some (tyM k) := by decide +kernel
abbrev cC_init : ByteArray := prog_1_method_1_code
abbrev yC_init : MethodName := ⟨"CoverJoin", "<init>", "()V"⟩
abbrev cD_init : ByteArray := prog_2_method_1_code
abbrev yD_init : MethodName := ⟨"CoverJoin$Candidates", "<init>", "()V"⟩
abbrev cC_edition : ByteArray := prog_1_method_2_code
abbrev yC_edition : MethodName := ⟨"CoverJoin", "edition", "()I"⟩
abbrev cC_line : ByteArray := prog_1_method_3_code
abbrev yC_line : MethodName := ⟨"CoverJoin", "line", "(IIIZ)I"⟩
abbrev cC_isEdition : ByteArray := prog_1_method_18_code
abbrev yC_isEdition : MethodName := ⟨"CoverJoin", "isEdition", "(I)Z"⟩
abbrev cC_isOwner : ByteArray := prog_1_method_21_code
abbrev yC_isOwner : MethodName := ⟨"CoverJoin", "isOwner", "(I)Z"⟩
abbrev cC_bitOf : ByteArray := prog_1_method_22_code
abbrev yC_bitOf : MethodName := ⟨"CoverJoin", "bitOf", "(I)J"⟩
abbrev cC_lines : ByteArray := prog_1_method_4_code
abbrev yC_lines : MethodName := ⟨"CoverJoin", "lines", "(I)I"⟩
abbrev cC_run : ByteArray := prog_1_method_5_code
abbrev yC_run : MethodName := ⟨"CoverJoin", "run", "(II)I"⟩
abbrev cC_addRun : ByteArray := prog_1_method_25_code
abbrev yC_addRun : MethodName := ⟨"CoverJoin", "addRun", "(IIJ)I"⟩
abbrev cC_hit : ByteArray := prog_1_method_6_code
abbrev yC_hit : MethodName := ⟨"CoverJoin", "hit", "(II)Z"⟩
abbrev cC_isRun : ByteArray := prog_1_method_19_code
abbrev yC_isRun : MethodName := ⟨"CoverJoin", "isRun", "(I)Z"⟩
abbrev cC_isLine : ByteArray := prog_1_method_20_code
abbrev yC_isLine : MethodName := ⟨"CoverJoin", "isLine", "(II)Z"⟩
abbrev cC_hitsLine : ByteArray := prog_1_method_24_code
abbrev yC_hitsLine : MethodName := ⟨"CoverJoin", "hitsLine", "(II)Z"⟩
abbrev cC_covered : ByteArray := prog_1_method_7_code
abbrev yC_covered : MethodName := ⟨"CoverJoin", "covered", "(II)Z"⟩
abbrev cC_map : ByteArray := prog_1_method_8_code
abbrev yC_map : MethodName := ⟨"CoverJoin", "map", "(II)I"⟩
abbrev cC_compare : ByteArray := prog_1_method_29_code
abbrev yC_compare : MethodName := ⟨"CoverJoin", "compare", "(II)V"⟩
abbrev cC_countPairs : ByteArray := prog_1_method_30_code
abbrev yC_countPairs : MethodName := ⟨"CoverJoin", "countPairs", "(II)V"⟩
abbrev cC_choosePairs : ByteArray := prog_1_method_31_code
abbrev yC_choosePairs : MethodName := ⟨"CoverJoin", "choosePairs", "(II)V"⟩
abbrev cC_placeOf : ByteArray := prog_1_method_32_code
abbrev yC_placeOf : MethodName := ⟨"CoverJoin", "placeOf", "(III)I"⟩
abbrev cC_pairsOf : ByteArray := prog_1_method_33_code
abbrev yC_pairsOf : MethodName := ⟨"CoverJoin", "pairsOf", "(IJ)J"⟩
abbrev cC_join : ByteArray := prog_1_method_9_code
abbrev yC_join : MethodName := ⟨"CoverJoin", "join", "(II)I"⟩
abbrev cC_same : ByteArray := prog_1_method_10_code
abbrev yC_same : MethodName := ⟨"CoverJoin", "same", "(III)I"⟩
abbrev cC_share : ByteArray := prog_1_method_11_code
abbrev yC_share : MethodName := ⟨"CoverJoin", "share", "(IIZ)I"⟩
abbrev cC_hitShare : ByteArray := prog_1_method_27_code
abbrev yC_hitShare : MethodName := ⟨"CoverJoin", "hitShare", "(II)I"⟩
abbrev cJ_bitCount : ByteArray := prog_5_method_50_code
abbrev yJ_bitCount : MethodName := ⟨"java/lang/Long", "bitCount", "(J)I"⟩
abbrev cC_wholeShare : ByteArray := prog_1_method_26_code
abbrev yC_wholeShare : MethodName := ⟨"CoverJoin", "wholeShare", "(II)I"⟩
abbrev cC_fresh : ByteArray := prog_1_method_12_code
abbrev yC_fresh : MethodName := ⟨"CoverJoin", "fresh", "(IIZ)I"⟩
abbrev cC_ungenerated : ByteArray := prog_1_method_28_code
abbrev yC_ungenerated : MethodName := ⟨"CoverJoin", "ungenerated", "(I)J"⟩
abbrev cC_firstBits : ByteArray := prog_1_method_23_code
abbrev yC_firstBits : MethodName := ⟨"CoverJoin", "firstBits", "(I)J"⟩
abbrev cC_falls : ByteArray := prog_1_method_13_code
abbrev yC_falls : MethodName := ⟨"CoverJoin", "falls", "(III)I"⟩
abbrev cC_dead : ByteArray := prog_1_method_14_code
abbrev yC_dead : MethodName := ⟨"CoverJoin", "dead", "(I)I"⟩
abbrev cC_least : ByteArray := prog_1_method_15_code
abbrev yC_least : MethodName := ⟨"CoverJoin", "least", "(I)I"⟩
abbrev cC_gatherCandidates : ByteArray := prog_1_method_34_code
abbrev yC_gatherCandidates : MethodName := ⟨"CoverJoin", "gatherCandidates", "(I)V"⟩
abbrev cC_weightOf : ByteArray := prog_1_method_35_code
abbrev yC_weightOf : MethodName := ⟨"CoverJoin", "weightOf", "(I)J"⟩
abbrev cC_lightest : ByteArray := prog_1_method_36_code
abbrev yC_lightest : MethodName := ⟨"CoverJoin", "lightest", "(LCoverJoin$Candidates;IJJJ)J"⟩
abbrev cC_chosen : ByteArray := prog_1_method_16_code
abbrev yC_chosen : MethodName := ⟨"CoverJoin", "chosen", "()I"⟩
abbrev cC_about : ByteArray := prog_1_method_17_code
abbrev yC_about : MethodName := ⟨"CoverJoin", "about", "(II)I"⟩
abbrev cM_init : ByteArray := prog_4_method_1_code
abbrev yM_init : MethodName := ⟨"CoverJoinModel", "<init>", "()V"⟩
abbrev cM_edition : ByteArray := prog_4_method_3_code
abbrev yM_edition : MethodName := ⟨"CoverJoinModel", "edition", "()I"⟩
abbrev cM_line : ByteArray := prog_4_method_4_code
abbrev yM_line : MethodName := ⟨"CoverJoinModel", "line", "(IIIZ)I"⟩
abbrev cM_in : ByteArray := prog_4_method_2_code
abbrev yM_in : MethodName := ⟨"CoverJoinModel", "in", "(II)Z"⟩
abbrev cM_lines : ByteArray := prog_4_method_5_code
abbrev yM_lines : MethodName := ⟨"CoverJoinModel", "lines", "(I)I"⟩
abbrev cM_run : ByteArray := prog_4_method_7_code
abbrev yM_run : MethodName := ⟨"CoverJoinModel", "run", "(II)I"⟩
abbrev cM_newRun : ByteArray := prog_4_method_6_code
abbrev yM_newRun : MethodName := ⟨"CoverJoinModel", "newRun", "(IIJ)I"⟩
abbrev cM_hit : ByteArray := prog_4_method_10_code
abbrev yM_hit : MethodName := ⟨"CoverJoinModel", "hit", "(II)Z"⟩
abbrev cM_isLine : ByteArray := prog_4_method_9_code
abbrev yM_isLine : MethodName := ⟨"CoverJoinModel", "isLine", "(II)Z"⟩
abbrev cM_isHit : ByteArray := prog_4_method_8_code
abbrev yM_isHit : MethodName := ⟨"CoverJoinModel", "isHit", "(II)Z"⟩
abbrev cM_covered : ByteArray := prog_4_method_11_code
abbrev yM_covered : MethodName := ⟨"CoverJoinModel", "covered", "(II)Z"⟩
abbrev cM_same : ByteArray := prog_4_method_14_code
abbrev yM_same : MethodName := ⟨"CoverJoinModel", "same", "(III)I"⟩
abbrev cM_compare : ByteArray := prog_4_method_13_code
abbrev yM_compare : MethodName := ⟨"CoverJoinModel", "compare", "(II)V"⟩
abbrev cM_isAlike : ByteArray := prog_4_method_12_code
abbrev yM_isAlike : MethodName := ⟨"CoverJoinModel", "isAlike", "(IIII)Z"⟩
abbrev cM_map : ByteArray := prog_4_method_15_code
abbrev yM_map : MethodName := ⟨"CoverJoinModel", "map", "(II)I"⟩
abbrev cM_join : ByteArray := prog_4_method_16_code
abbrev yM_join : MethodName := ⟨"CoverJoinModel", "join", "(II)I"⟩
abbrev cM_share : ByteArray := prog_4_method_18_code
abbrev yM_share : MethodName := ⟨"CoverJoinModel", "share", "(IIZ)I"⟩
abbrev cM_shareOf : ByteArray := prog_4_method_17_code
abbrev yM_shareOf : MethodName := ⟨"CoverJoinModel", "shareOf", "(IIZ)I"⟩
abbrev cM_fresh : ByteArray := prog_4_method_19_code
abbrev yM_fresh : MethodName := ⟨"CoverJoinModel", "fresh", "(IIZ)I"⟩
abbrev cM_falls : ByteArray := prog_4_method_20_code
abbrev yM_falls : MethodName := ⟨"CoverJoinModel", "falls", "(III)I"⟩
abbrev cM_dead : ByteArray := prog_4_method_21_code
abbrev yM_dead : MethodName := ⟨"CoverJoinModel", "dead", "(I)I"⟩
abbrev cM_least : ByteArray := prog_4_method_23_code
abbrev yM_least : MethodName := ⟨"CoverJoinModel", "least", "(I)I"⟩
abbrev cM_ones : ByteArray := prog_4_method_22_code
abbrev yM_ones : MethodName := ⟨"CoverJoinModel", "ones", "(I)I"⟩
abbrev cM_chosen : ByteArray := prog_4_method_24_code
abbrev yM_chosen : MethodName := ⟨"CoverJoinModel", "chosen", "()I"⟩
abbrev cM_about : ByteArray := prog_4_method_25_code
abbrev yM_about : MethodName := ⟨"CoverJoinModel", "about", "(II)I"⟩
abbrev cL_law : ByteArray := code
abbrev yL_law : MethodName := ⟨"CoverJoinLaw", "law", "([I)Z"⟩
/-- the words that every contract here takes: those of the tables that stay -/
def cw_T : List Cond := lw_tbl.filter goodWord
theorem cw_mem {w : Cond} (h1 : w ∈ lw_tbl) (h2 : goodWord w = true) : w ∈ cw_T := List.mem_filter.mpr ⟨h1, h2⟩
theorem cw_lw {w : Cond} (h : w ∈ cw_T) : w ∈ lw_tbl := (List.mem_filter.mp h).1
theorem cw_good {w : Cond} (h : w ∈ cw_T) : (w.onTables && w.keeps) = true ∨ ∃ ty, w = .arrayClass ty := good_of_word (List.mem_filter.mp h).2
theorem se_C_isEdition : Cond.selects RC yC_isEdition yC_isEdition ∈ cw_T := cw_mem (List.mem_of_getElem? (i := 0) (by decide +kernel)) (by decide +kernel)
theorem se_C_addRun : Cond.selects RC yC_addRun yC_addRun ∈ cw_T := cw_mem (List.mem_of_getElem? (i := 1) (by decide +kernel)) (by decide +kernel)
theorem se_C_isRun : Cond.selects RC yC_isRun yC_isRun ∈ cw_T := cw_mem (List.mem_of_getElem? (i := 2) (by decide +kernel)) (by decide +kernel)
theorem se_C_isLine : Cond.selects RC yC_isLine yC_isLine ∈ cw_T := cw_mem (List.mem_of_getElem? (i := 3) (by decide +kernel)) (by decide +kernel)
theorem se_C_hitsLine : Cond.selects RC yC_hitsLine yC_hitsLine ∈ cw_T := cw_mem (List.mem_of_getElem? (i := 4) (by decide +kernel)) (by decide +kernel)
theorem se_C_compare : Cond.selects RC yC_compare yC_compare ∈ cw_T := cw_mem (List.mem_of_getElem? (i := 5) (by decide +kernel)) (by decide +kernel)
theorem se_C_countPairs : Cond.selects RC yC_countPairs yC_countPairs ∈ cw_T := cw_mem (List.mem_of_getElem? (i := 6) (by decide +kernel)) (by decide +kernel)
theorem se_C_choosePairs : Cond.selects RC yC_choosePairs yC_choosePairs ∈ cw_T := cw_mem (List.mem_of_getElem? (i := 7) (by decide +kernel)) (by decide +kernel)
theorem se_C_placeOf : Cond.selects RC yC_placeOf yC_placeOf ∈ cw_T := cw_mem (List.mem_of_getElem? (i := 8) (by decide +kernel)) (by decide +kernel)
theorem se_C_pairsOf : Cond.selects RC yC_pairsOf yC_pairsOf ∈ cw_T := cw_mem (List.mem_of_getElem? (i := 9) (by decide +kernel)) (by decide +kernel)
theorem se_C_hitShare : Cond.selects RC yC_hitShare yC_hitShare ∈ cw_T := cw_mem (List.mem_of_getElem? (i := 10) (by decide +kernel)) (by decide +kernel)
theorem se_C_wholeShare : Cond.selects RC yC_wholeShare yC_wholeShare ∈ cw_T := cw_mem (List.mem_of_getElem? (i := 11) (by decide +kernel)) (by decide +kernel)
theorem se_C_ungenerated : Cond.selects RC yC_ungenerated yC_ungenerated ∈ cw_T := cw_mem (List.mem_of_getElem? (i := 12) (by decide +kernel)) (by decide +kernel)
theorem se_C_gatherCandidates : Cond.selects RC yC_gatherCandidates yC_gatherCandidates ∈ cw_T := cw_mem (List.mem_of_getElem? (i := 13) (by decide +kernel)) (by decide +kernel)
theorem se_C_weightOf : Cond.selects RC yC_weightOf yC_weightOf ∈ cw_T := cw_mem (List.mem_of_getElem? (i := 14) (by decide +kernel)) (by decide +kernel)
theorem se_M_newRun : Cond.selects RM yM_newRun yM_newRun ∈ cw_T := cw_mem (List.mem_of_getElem? (i := 15) (by decide +kernel)) (by decide +kernel)
theorem se_M_isLine : Cond.selects RM yM_isLine yM_isLine ∈ cw_T := cw_mem (List.mem_of_getElem? (i := 16) (by decide +kernel)) (by decide +kernel)
theorem se_M_isHit : Cond.selects RM yM_isHit yM_isHit ∈ cw_T := cw_mem (List.mem_of_getElem? (i := 17) (by decide +kernel)) (by decide +kernel)
theorem se_M_compare : Cond.selects RM yM_compare yM_compare ∈ cw_T := cw_mem (List.mem_of_getElem? (i := 18) (by decide +kernel)) (by decide +kernel)
theorem se_M_isAlike : Cond.selects RM yM_isAlike yM_isAlike ∈ cw_T := cw_mem (List.mem_of_getElem? (i := 19) (by decide +kernel)) (by decide +kernel)
theorem se_M_shareOf : Cond.selects RM yM_shareOf yM_shareOf ∈ cw_T := cw_mem (List.mem_of_getElem? (i := 20) (by decide +kernel)) (by decide +kernel)
theorem in_L : Cond.initialized RL ∈ cw_T := cw_mem (List.mem_of_getElem? (i := 21) (by decide +kernel)) (by decide +kernel)
theorem in_C : Cond.initialized RC ∈ cw_T := cw_mem (List.mem_of_getElem? (i := 22) (by decide +kernel)) (by decide +kernel)
theorem in_D : Cond.initialized RD ∈ cw_T := cw_mem (List.mem_of_getElem? (i := 23) (by decide +kernel)) (by decide +kernel)
theorem in_M : Cond.initialized RM ∈ cw_T := cw_mem (List.mem_of_getElem? (i := 24) (by decide +kernel)) (by decide +kernel)
theorem in_Q : Cond.initialized RQ ∈ cw_T := cw_mem (List.mem_of_getElem? (i := 25) (by decide +kernel)) (by decide +kernel)
theorem in_J : Cond.initialized RJ ∈ cw_T := cw_mem (List.mem_of_getElem? (i := 26) (by decide +kernel)) (by decide +kernel)
theorem cl_L_7 : Cond.classLink RL 7 "CoverJoin" ∈ cw_T := cw_mem (List.mem_of_getElem? (i := 27) (by decide +kernel)) (by decide +kernel)
theorem it_C : Cond.instantiable RC 13 ∈ cw_T := cw_mem (List.mem_of_getElem? (i := 28) (by decide +kernel)) (by decide +kernel)
theorem ml_L_9 : Cond.methodLink RL 9 yC_init ∈ cw_T := cw_mem (List.mem_of_getElem? (i := 29) (by decide +kernel)) (by decide +kernel)
theorem im_C_init : Cond.instanceMethod yC_init ∈ cw_T := cw_mem (List.mem_of_getElem? (i := 30) (by decide +kernel)) (by decide +kernel)
theorem cd_C_init : Cond.code yC_init prog_1_method_1_code 1 none ∈ cw_T := cw_mem (List.mem_of_getElem? (i := 31) (by decide +kernel)) (by decide +kernel)
theorem ml_C_3 : Cond.methodLink RC 3 ⟨"java/lang/Object", "<init>", "()V"⟩ ∈ cw_T := cw_mem (List.mem_of_getElem? (i := 32) (by decide +kernel)) (by decide +kernel)
theorem im_O_init : Cond.instanceMethod ⟨"java/lang/Object", "<init>", "()V"⟩ ∈ cw_T := cw_mem (List.mem_of_getElem? (i := 33) (by decide +kernel)) (by decide +kernel)
theorem cd_O_init : Cond.code ⟨"java/lang/Object", "<init>", "()V"⟩ object_method_1_code 1 none ∈ cw_T := cw_mem (List.mem_of_getElem? (i := 34) (by decide +kernel)) (by decide +kernel)
theorem cl_C_21 : Cond.classLink RC 21 "[[I" ∈ cw_T := cw_mem (List.mem_of_getElem? (i := 35) (by decide +kernel)) (by decide +kernel)
theorem cl_C_26 : Cond.classLink RC 26 "[[J" ∈ cw_T := cw_mem (List.mem_of_getElem? (i := 37) (by decide +kernel)) (by decide +kernel)
theorem cl_C_50 : Cond.classLink RC 50 "CoverJoin$Candidates" ∈ cw_T := cw_mem (List.mem_of_getElem? (i := 39) (by decide +kernel)) (by decide +kernel)
theorem it_D : Cond.instantiable RD 4 ∈ cw_T := cw_mem (List.mem_of_getElem? (i := 40) (by decide +kernel)) (by decide +kernel)
theorem ml_C_52 : Cond.methodLink RC 52 yD_init ∈ cw_T := cw_mem (List.mem_of_getElem? (i := 41) (by decide +kernel)) (by decide +kernel)
theorem im_D_init : Cond.instanceMethod yD_init ∈ cw_T := cw_mem (List.mem_of_getElem? (i := 42) (by decide +kernel)) (by decide +kernel)
theorem cd_D_init : Cond.code yD_init prog_2_method_1_code 1 none ∈ cw_T := cw_mem (List.mem_of_getElem? (i := 43) (by decide +kernel)) (by decide +kernel)
theorem ml_D_3 : Cond.methodLink RD 3 ⟨"java/lang/Object", "<init>", "()V"⟩ ∈ cw_T := cw_mem (List.mem_of_getElem? (i := 44) (by decide +kernel)) (by decide +kernel)
theorem fl_D_9 : Cond.fieldLink RD 9 "CoverJoin$Candidates" "count" "I" ∈ cw_T := cw_mem (List.mem_of_getElem? (i := 45) (by decide +kernel)) (by decide +kernel)
theorem fl_C_157 : Cond.fieldLink RC 157 "CoverJoin$Candidates" "count" "I" ∈ cw_T := cw_mem (List.mem_of_getElem? (i := 46) (by decide +kernel)) (by decide +kernel)
theorem fl_D_15 : Cond.fieldLink RD 15 "CoverJoin$Candidates" "hits" "[J" ∈ cw_T := cw_mem (List.mem_of_getElem? (i := 47) (by decide +kernel)) (by decide +kernel)
theorem fl_C_148 : Cond.fieldLink RC 148 "CoverJoin$Candidates" "hits" "[J" ∈ cw_T := cw_mem (List.mem_of_getElem? (i := 48) (by decide +kernel)) (by decide +kernel)
theorem fl_D_19 : Cond.fieldLink RD 19 "CoverJoin$Candidates" "weights" "[J" ∈ cw_T := cw_mem (List.mem_of_getElem? (i := 49) (by decide +kernel)) (by decide +kernel)
theorem fl_C_151 : Cond.fieldLink RC 151 "CoverJoin$Candidates" "weights" "[J" ∈ cw_T := cw_mem (List.mem_of_getElem? (i := 50) (by decide +kernel)) (by decide +kernel)
theorem fl_D_22 : Cond.fieldLink RD 22 "CoverJoin$Candidates" "reach" "[J" ∈ cw_T := cw_mem (List.mem_of_getElem? (i := 51) (by decide +kernel)) (by decide +kernel)
theorem fl_C_124 : Cond.fieldLink RC 124 "CoverJoin$Candidates" "reach" "[J" ∈ cw_T := cw_mem (List.mem_of_getElem? (i := 52) (by decide +kernel)) (by decide +kernel)
theorem ac_int : Cond.arrayClass .int ∈ cw_T := cw_mem (List.mem_of_getElem? (i := 62) (by decide +kernel)) (by decide +kernel)
theorem ac_boolean : Cond.arrayClass .boolean ∈ cw_T := cw_mem (List.mem_of_getElem? (i := 63) (by decide +kernel)) (by decide +kernel)
theorem ac_long : Cond.arrayClass .long ∈ cw_T := cw_mem (List.mem_of_getElem? (i := 64) (by decide +kernel)) (by decide +kernel)
theorem fl_C_9 : Cond.fieldLink RC 9 "CoverJoin" "editionCount" "I" ∈ cw_T := cw_mem (List.mem_of_getElem? (i := 65) (by decide +kernel)) (by decide +kernel)
theorem fl_C_13 : Cond.fieldLink RC 13 "CoverJoin" "lineCounts" "[I" ∈ cw_T := cw_mem (List.mem_of_getElem? (i := 66) (by decide +kernel)) (by decide +kernel)
theorem fl_C_17 : Cond.fieldLink RC 17 "CoverJoin" "closed" "[Z" ∈ cw_T := cw_mem (List.mem_of_getElem? (i := 67) (by decide +kernel)) (by decide +kernel)
theorem fl_C_23 : Cond.fieldLink RC 23 "CoverJoin" "contents" "[[I" ∈ cw_T := cw_mem (List.mem_of_getElem? (i := 68) (by decide +kernel)) (by decide +kernel)
theorem fl_C_28 : Cond.fieldLink RC 28 "CoverJoin" "owned" "[[J" ∈ cw_T := cw_mem (List.mem_of_getElem? (i := 69) (by decide +kernel)) (by decide +kernel)
theorem fl_C_31 : Cond.fieldLink RC 31 "CoverJoin" "runCount" "I" ∈ cw_T := cw_mem (List.mem_of_getElem? (i := 70) (by decide +kernel)) (by decide +kernel)
theorem fl_C_34 : Cond.fieldLink RC 34 "CoverJoin" "runEditions" "[I" ∈ cw_T := cw_mem (List.mem_of_getElem? (i := 71) (by decide +kernel)) (by decide +kernel)
theorem fl_C_37 : Cond.fieldLink RC 37 "CoverJoin" "runCosts" "[I" ∈ cw_T := cw_mem (List.mem_of_getElem? (i := 72) (by decide +kernel)) (by decide +kernel)
theorem fl_C_40 : Cond.fieldLink RC 40 "CoverJoin" "runHits" "[J" ∈ cw_T := cw_mem (List.mem_of_getElem? (i := 73) (by decide +kernel)) (by decide +kernel)
theorem fl_C_44 : Cond.fieldLink RC 44 "CoverJoin" "mostPairs" "[[I" ∈ cw_T := cw_mem (List.mem_of_getElem? (i := 74) (by decide +kernel)) (by decide +kernel)
theorem fl_C_47 : Cond.fieldLink RC 47 "CoverJoin" "pairs" "[I" ∈ cw_T := cw_mem (List.mem_of_getElem? (i := 75) (by decide +kernel)) (by decide +kernel)
theorem fl_C_53 : Cond.fieldLink RC 53 "CoverJoin" "candidates" "LCoverJoin$Candidates;" ∈ cw_T := cw_mem (List.mem_of_getElem? (i := 76) (by decide +kernel)) (by decide +kernel)
theorem fl_C_57 : Cond.fieldLink RC 57 "CoverJoin" "chosenRuns" "I" ∈ cw_T := cw_mem (List.mem_of_getElem? (i := 77) (by decide +kernel)) (by decide +kernel)
theorem ml_L_13 : Cond.methodLink RL 13 yC_edition ∈ cw_T := cw_mem (List.mem_of_getElem? (i := 105) (by decide +kernel)) (by decide +kernel)
theorem im_C_edition : Cond.instanceMethod yC_edition ∈ cw_T := cw_mem (List.mem_of_getElem? (i := 106) (by decide +kernel)) (by decide +kernel)
theorem se_C_edition : Cond.selects RC yC_edition yC_edition ∈ cw_T := cw_mem (List.mem_of_getElem? (i := 107) (by decide +kernel)) (by decide +kernel)
theorem cd_C_edition : Cond.code yC_edition prog_1_method_2_code 2 (some .int) ∈ cw_T := cw_mem (List.mem_of_getElem? (i := 108) (by decide +kernel)) (by decide +kernel)
theorem ml_L_18 : Cond.methodLink RL 18 yC_line ∈ cw_T := cw_mem (List.mem_of_getElem? (i := 109) (by decide +kernel)) (by decide +kernel)
theorem im_C_line : Cond.instanceMethod yC_line ∈ cw_T := cw_mem (List.mem_of_getElem? (i := 110) (by decide +kernel)) (by decide +kernel)
theorem se_C_line : Cond.selects RC yC_line yC_line ∈ cw_T := cw_mem (List.mem_of_getElem? (i := 111) (by decide +kernel)) (by decide +kernel)
theorem cd_C_line : Cond.code yC_line prog_1_method_3_code 6 (some .int) ∈ cw_T := cw_mem (List.mem_of_getElem? (i := 112) (by decide +kernel)) (by decide +kernel)
theorem ml_C_60 : Cond.methodLink RC 60 yC_isEdition ∈ cw_T := cw_mem (List.mem_of_getElem? (i := 113) (by decide +kernel)) (by decide +kernel)
theorem im_C_isEdition : Cond.instanceMethod yC_isEdition ∈ cw_T := cw_mem (List.mem_of_getElem? (i := 115) (by decide +kernel)) (by decide +kernel)
theorem cd_C_isEdition : Cond.code yC_isEdition prog_1_method_18_code 2 (some .boolean) ∈ cw_T := cw_mem (List.mem_of_getElem? (i := 116) (by decide +kernel)) (by decide +kernel)
theorem ml_C_64 : Cond.methodLink RC 64 yC_isOwner ∈ cw_T := cw_mem (List.mem_of_getElem? (i := 117) (by decide +kernel)) (by decide +kernel)
theorem st_C_isOwner : Cond.static yC_isOwner ∈ cw_T := cw_mem (List.mem_of_getElem? (i := 118) (by decide +kernel)) (by decide +kernel)
theorem cd_C_isOwner : Cond.code yC_isOwner prog_1_method_21_code 1 (some .boolean) ∈ cw_T := cw_mem (List.mem_of_getElem? (i := 119) (by decide +kernel)) (by decide +kernel)
theorem ml_C_67 : Cond.methodLink RC 67 yC_bitOf ∈ cw_T := cw_mem (List.mem_of_getElem? (i := 120) (by decide +kernel)) (by decide +kernel)
theorem st_C_bitOf : Cond.static yC_bitOf ∈ cw_T := cw_mem (List.mem_of_getElem? (i := 121) (by decide +kernel)) (by decide +kernel)
theorem cd_C_bitOf : Cond.code yC_bitOf prog_1_method_22_code 1 (some .long) ∈ cw_T := cw_mem (List.mem_of_getElem? (i := 122) (by decide +kernel)) (by decide +kernel)
theorem ml_L_23 : Cond.methodLink RL 23 yC_lines ∈ cw_T := cw_mem (List.mem_of_getElem? (i := 123) (by decide +kernel)) (by decide +kernel)
theorem im_C_lines : Cond.instanceMethod yC_lines ∈ cw_T := cw_mem (List.mem_of_getElem? (i := 124) (by decide +kernel)) (by decide +kernel)
theorem se_C_lines : Cond.selects RC yC_lines yC_lines ∈ cw_T := cw_mem (List.mem_of_getElem? (i := 125) (by decide +kernel)) (by decide +kernel)
theorem cd_C_lines : Cond.code yC_lines prog_1_method_4_code 2 (some .int) ∈ cw_T := cw_mem (List.mem_of_getElem? (i := 126) (by decide +kernel)) (by decide +kernel)
theorem ml_L_28 : Cond.methodLink RL 28 yC_run ∈ cw_T := cw_mem (List.mem_of_getElem? (i := 127) (by decide +kernel)) (by decide +kernel)
theorem im_C_run : Cond.instanceMethod yC_run ∈ cw_T := cw_mem (List.mem_of_getElem? (i := 128) (by decide +kernel)) (by decide +kernel)
theorem se_C_run : Cond.selects RC yC_run yC_run ∈ cw_T := cw_mem (List.mem_of_getElem? (i := 129) (by decide +kernel)) (by decide +kernel)
theorem cd_C_run : Cond.code yC_run prog_1_method_5_code 3 (some .int) ∈ cw_T := cw_mem (List.mem_of_getElem? (i := 130) (by decide +kernel)) (by decide +kernel)
theorem ko_C_71 : Cond.constant RC 71 100000 ∈ cw_T := cw_mem (List.mem_of_getElem? (i := 131) (by decide +kernel)) (by decide +kernel)
theorem ml_C_72 : Cond.methodLink RC 72 yC_addRun ∈ cw_T := cw_mem (List.mem_of_getElem? (i := 132) (by decide +kernel)) (by decide +kernel)
theorem im_C_addRun : Cond.instanceMethod yC_addRun ∈ cw_T := cw_mem (List.mem_of_getElem? (i := 134) (by decide +kernel)) (by decide +kernel)
theorem cd_C_addRun : Cond.code yC_addRun prog_1_method_25_code 6 (some .int) ∈ cw_T := cw_mem (List.mem_of_getElem? (i := 135) (by decide +kernel)) (by decide +kernel)
theorem ml_L_33 : Cond.methodLink RL 33 yC_hit ∈ cw_T := cw_mem (List.mem_of_getElem? (i := 136) (by decide +kernel)) (by decide +kernel)
theorem im_C_hit : Cond.instanceMethod yC_hit ∈ cw_T := cw_mem (List.mem_of_getElem? (i := 137) (by decide +kernel)) (by decide +kernel)
theorem se_C_hit : Cond.selects RC yC_hit yC_hit ∈ cw_T := cw_mem (List.mem_of_getElem? (i := 138) (by decide +kernel)) (by decide +kernel)
theorem cd_C_hit : Cond.code yC_hit prog_1_method_6_code 3 (some .boolean) ∈ cw_T := cw_mem (List.mem_of_getElem? (i := 139) (by decide +kernel)) (by decide +kernel)
theorem ml_C_76 : Cond.methodLink RC 76 yC_isRun ∈ cw_T := cw_mem (List.mem_of_getElem? (i := 140) (by decide +kernel)) (by decide +kernel)
theorem im_C_isRun : Cond.instanceMethod yC_isRun ∈ cw_T := cw_mem (List.mem_of_getElem? (i := 142) (by decide +kernel)) (by decide +kernel)
theorem cd_C_isRun : Cond.code yC_isRun prog_1_method_19_code 2 (some .boolean) ∈ cw_T := cw_mem (List.mem_of_getElem? (i := 143) (by decide +kernel)) (by decide +kernel)
theorem ml_C_79 : Cond.methodLink RC 79 yC_isLine ∈ cw_T := cw_mem (List.mem_of_getElem? (i := 144) (by decide +kernel)) (by decide +kernel)
theorem im_C_isLine : Cond.instanceMethod yC_isLine ∈ cw_T := cw_mem (List.mem_of_getElem? (i := 146) (by decide +kernel)) (by decide +kernel)
theorem cd_C_isLine : Cond.code yC_isLine prog_1_method_20_code 3 (some .boolean) ∈ cw_T := cw_mem (List.mem_of_getElem? (i := 147) (by decide +kernel)) (by decide +kernel)
theorem ml_C_83 : Cond.methodLink RC 83 yC_hitsLine ∈ cw_T := cw_mem (List.mem_of_getElem? (i := 148) (by decide +kernel)) (by decide +kernel)
theorem im_C_hitsLine : Cond.instanceMethod yC_hitsLine ∈ cw_T := cw_mem (List.mem_of_getElem? (i := 150) (by decide +kernel)) (by decide +kernel)
theorem cd_C_hitsLine : Cond.code yC_hitsLine prog_1_method_24_code 3 (some .boolean) ∈ cw_T := cw_mem (List.mem_of_getElem? (i := 151) (by decide +kernel)) (by decide +kernel)
theorem ml_L_38 : Cond.methodLink RL 38 yC_covered ∈ cw_T := cw_mem (List.mem_of_getElem? (i := 152) (by decide +kernel)) (by decide +kernel)
theorem im_C_covered : Cond.instanceMethod yC_covered ∈ cw_T := cw_mem (List.mem_of_getElem? (i := 153) (by decide +kernel)) (by decide +kernel)
theorem se_C_covered : Cond.selects RC yC_covered yC_covered ∈ cw_T := cw_mem (List.mem_of_getElem? (i := 154) (by decide +kernel)) (by decide +kernel)
theorem cd_C_covered : Cond.code yC_covered prog_1_method_7_code 3 (some .boolean) ∈ cw_T := cw_mem (List.mem_of_getElem? (i := 155) (by decide +kernel)) (by decide +kernel)
theorem ml_L_42 : Cond.methodLink RL 42 yC_map ∈ cw_T := cw_mem (List.mem_of_getElem? (i := 156) (by decide +kernel)) (by decide +kernel)
theorem im_C_map : Cond.instanceMethod yC_map ∈ cw_T := cw_mem (List.mem_of_getElem? (i := 157) (by decide +kernel)) (by decide +kernel)
theorem se_C_map : Cond.selects RC yC_map yC_map ∈ cw_T := cw_mem (List.mem_of_getElem? (i := 158) (by decide +kernel)) (by decide +kernel)
theorem cd_C_map : Cond.code yC_map prog_1_method_8_code 3 (some .int) ∈ cw_T := cw_mem (List.mem_of_getElem? (i := 159) (by decide +kernel)) (by decide +kernel)
theorem ml_C_86 : Cond.methodLink RC 86 yC_compare ∈ cw_T := cw_mem (List.mem_of_getElem? (i := 160) (by decide +kernel)) (by decide +kernel)
theorem im_C_compare : Cond.instanceMethod yC_compare ∈ cw_T := cw_mem (List.mem_of_getElem? (i := 162) (by decide +kernel)) (by decide +kernel)
theorem cd_C_compare : Cond.code yC_compare prog_1_method_29_code 3 none ∈ cw_T := cw_mem (List.mem_of_getElem? (i := 163) (by decide +kernel)) (by decide +kernel)
theorem ml_C_135 : Cond.methodLink RC 135 yC_countPairs ∈ cw_T := cw_mem (List.mem_of_getElem? (i := 164) (by decide +kernel)) (by decide +kernel)
theorem im_C_countPairs : Cond.instanceMethod yC_countPairs ∈ cw_T := cw_mem (List.mem_of_getElem? (i := 166) (by decide +kernel)) (by decide +kernel)
theorem cd_C_countPairs : Cond.code yC_countPairs prog_1_method_30_code 7 none ∈ cw_T := cw_mem (List.mem_of_getElem? (i := 167) (by decide +kernel)) (by decide +kernel)
theorem ml_C_141 : Cond.methodLink RC 141 ⟨"java/lang/Math", "max", "(II)I"⟩ ∈ cw_T := cw_mem (List.mem_of_getElem? (i := 168) (by decide +kernel)) (by decide +kernel)
theorem st_Q_max : Cond.static ⟨"java/lang/Math", "max", "(II)I"⟩ ∈ cw_T := cw_mem (List.mem_of_getElem? (i := 169) (by decide +kernel)) (by decide +kernel)
theorem cd_Q_max : Cond.code ⟨"java/lang/Math", "max", "(II)I"⟩ prog_6_method_65_code 2 (some .int) ∈ cw_T := cw_mem (List.mem_of_getElem? (i := 170) (by decide +kernel)) (by decide +kernel)
theorem ml_C_138 : Cond.methodLink RC 138 yC_choosePairs ∈ cw_T := cw_mem (List.mem_of_getElem? (i := 171) (by decide +kernel)) (by decide +kernel)
theorem im_C_choosePairs : Cond.instanceMethod yC_choosePairs ∈ cw_T := cw_mem (List.mem_of_getElem? (i := 173) (by decide +kernel)) (by decide +kernel)
theorem cd_C_choosePairs : Cond.code yC_choosePairs prog_1_method_31_code 6 none ∈ cw_T := cw_mem (List.mem_of_getElem? (i := 174) (by decide +kernel)) (by decide +kernel)
theorem ml_C_144 : Cond.methodLink RC 144 yC_placeOf ∈ cw_T := cw_mem (List.mem_of_getElem? (i := 175) (by decide +kernel)) (by decide +kernel)
theorem im_C_placeOf : Cond.instanceMethod yC_placeOf ∈ cw_T := cw_mem (List.mem_of_getElem? (i := 177) (by decide +kernel)) (by decide +kernel)
theorem cd_C_placeOf : Cond.code yC_placeOf prog_1_method_32_code 5 (some .int) ∈ cw_T := cw_mem (List.mem_of_getElem? (i := 178) (by decide +kernel)) (by decide +kernel)
theorem ml_C_90 : Cond.methodLink RC 90 yC_pairsOf ∈ cw_T := cw_mem (List.mem_of_getElem? (i := 179) (by decide +kernel)) (by decide +kernel)
theorem im_C_pairsOf : Cond.instanceMethod yC_pairsOf ∈ cw_T := cw_mem (List.mem_of_getElem? (i := 181) (by decide +kernel)) (by decide +kernel)
theorem cd_C_pairsOf : Cond.code yC_pairsOf prog_1_method_33_code 7 (some .long) ∈ cw_T := cw_mem (List.mem_of_getElem? (i := 182) (by decide +kernel)) (by decide +kernel)
theorem ml_L_46 : Cond.methodLink RL 46 yC_join ∈ cw_T := cw_mem (List.mem_of_getElem? (i := 183) (by decide +kernel)) (by decide +kernel)
theorem im_C_join : Cond.instanceMethod yC_join ∈ cw_T := cw_mem (List.mem_of_getElem? (i := 184) (by decide +kernel)) (by decide +kernel)
theorem se_C_join : Cond.selects RC yC_join yC_join ∈ cw_T := cw_mem (List.mem_of_getElem? (i := 185) (by decide +kernel)) (by decide +kernel)
theorem cd_C_join : Cond.code yC_join prog_1_method_9_code 4 (some .int) ∈ cw_T := cw_mem (List.mem_of_getElem? (i := 186) (by decide +kernel)) (by decide +kernel)
theorem ml_C_94 : Cond.methodLink RC 94 ⟨"java/lang/Math", "min", "(II)I"⟩ ∈ cw_T := cw_mem (List.mem_of_getElem? (i := 187) (by decide +kernel)) (by decide +kernel)
theorem st_Q_min : Cond.static ⟨"java/lang/Math", "min", "(II)I"⟩ ∈ cw_T := cw_mem (List.mem_of_getElem? (i := 188) (by decide +kernel)) (by decide +kernel)
theorem cd_Q_min : Cond.code ⟨"java/lang/Math", "min", "(II)I"⟩ prog_6_method_69_code 2 (some .int) ∈ cw_T := cw_mem (List.mem_of_getElem? (i := 189) (by decide +kernel)) (by decide +kernel)
theorem ml_L_50 : Cond.methodLink RL 50 yC_same ∈ cw_T := cw_mem (List.mem_of_getElem? (i := 190) (by decide +kernel)) (by decide +kernel)
theorem im_C_same : Cond.instanceMethod yC_same ∈ cw_T := cw_mem (List.mem_of_getElem? (i := 191) (by decide +kernel)) (by decide +kernel)
theorem se_C_same : Cond.selects RC yC_same yC_same ∈ cw_T := cw_mem (List.mem_of_getElem? (i := 192) (by decide +kernel)) (by decide +kernel)
theorem cd_C_same : Cond.code yC_same prog_1_method_10_code 4 (some .int) ∈ cw_T := cw_mem (List.mem_of_getElem? (i := 193) (by decide +kernel)) (by decide +kernel)
theorem ml_L_55 : Cond.methodLink RL 55 yC_share ∈ cw_T := cw_mem (List.mem_of_getElem? (i := 194) (by decide +kernel)) (by decide +kernel)
theorem im_C_share : Cond.instanceMethod yC_share ∈ cw_T := cw_mem (List.mem_of_getElem? (i := 195) (by decide +kernel)) (by decide +kernel)
theorem se_C_share : Cond.selects RC yC_share yC_share ∈ cw_T := cw_mem (List.mem_of_getElem? (i := 196) (by decide +kernel)) (by decide +kernel)
theorem cd_C_share : Cond.code yC_share prog_1_method_11_code 4 (some .int) ∈ cw_T := cw_mem (List.mem_of_getElem? (i := 197) (by decide +kernel)) (by decide +kernel)
theorem ml_C_100 : Cond.methodLink RC 100 yC_hitShare ∈ cw_T := cw_mem (List.mem_of_getElem? (i := 198) (by decide +kernel)) (by decide +kernel)
theorem im_C_hitShare : Cond.instanceMethod yC_hitShare ∈ cw_T := cw_mem (List.mem_of_getElem? (i := 200) (by decide +kernel)) (by decide +kernel)
theorem cd_C_hitShare : Cond.code yC_hitShare prog_1_method_27_code 3 (some .int) ∈ cw_T := cw_mem (List.mem_of_getElem? (i := 201) (by decide +kernel)) (by decide +kernel)
theorem ml_C_114 : Cond.methodLink RC 114 yJ_bitCount ∈ cw_T := cw_mem (List.mem_of_getElem? (i := 202) (by decide +kernel)) (by decide +kernel)
theorem st_J_bitCount : Cond.static yJ_bitCount ∈ cw_T := cw_mem (List.mem_of_getElem? (i := 203) (by decide +kernel)) (by decide +kernel)
theorem cd_J_bitCount : Cond.code yJ_bitCount prog_5_method_50_code 2 (some .int) ∈ cw_T := cw_mem (List.mem_of_getElem? (i := 204) (by decide +kernel)) (by decide +kernel)
theorem kl_J_314 : Cond.constantLong RJ 314 6148914691236517205 ∈ cw_T := cw_mem (List.mem_of_getElem? (i := 205) (by decide +kernel)) (by decide +kernel)
theorem kl_J_316 : Cond.constantLong RJ 316 3689348814741910323 ∈ cw_T := cw_mem (List.mem_of_getElem? (i := 206) (by decide +kernel)) (by decide +kernel)
theorem kl_J_318 : Cond.constantLong RJ 318 1085102592571150095 ∈ cw_T := cw_mem (List.mem_of_getElem? (i := 207) (by decide +kernel)) (by decide +kernel)
theorem ml_C_103 : Cond.methodLink RC 103 yC_wholeShare ∈ cw_T := cw_mem (List.mem_of_getElem? (i := 208) (by decide +kernel)) (by decide +kernel)
theorem im_C_wholeShare : Cond.instanceMethod yC_wholeShare ∈ cw_T := cw_mem (List.mem_of_getElem? (i := 210) (by decide +kernel)) (by decide +kernel)
theorem cd_C_wholeShare : Cond.code yC_wholeShare prog_1_method_26_code 3 (some .int) ∈ cw_T := cw_mem (List.mem_of_getElem? (i := 211) (by decide +kernel)) (by decide +kernel)
theorem ml_L_60 : Cond.methodLink RL 60 yC_fresh ∈ cw_T := cw_mem (List.mem_of_getElem? (i := 212) (by decide +kernel)) (by decide +kernel)
theorem im_C_fresh : Cond.instanceMethod yC_fresh ∈ cw_T := cw_mem (List.mem_of_getElem? (i := 213) (by decide +kernel)) (by decide +kernel)
theorem se_C_fresh : Cond.selects RC yC_fresh yC_fresh ∈ cw_T := cw_mem (List.mem_of_getElem? (i := 214) (by decide +kernel)) (by decide +kernel)
theorem cd_C_fresh : Cond.code yC_fresh prog_1_method_12_code 7 (some .int) ∈ cw_T := cw_mem (List.mem_of_getElem? (i := 215) (by decide +kernel)) (by decide +kernel)
theorem ml_C_106 : Cond.methodLink RC 106 yC_ungenerated ∈ cw_T := cw_mem (List.mem_of_getElem? (i := 216) (by decide +kernel)) (by decide +kernel)
theorem im_C_ungenerated : Cond.instanceMethod yC_ungenerated ∈ cw_T := cw_mem (List.mem_of_getElem? (i := 218) (by decide +kernel)) (by decide +kernel)
theorem cd_C_ungenerated : Cond.code yC_ungenerated prog_1_method_28_code 5 (some .long) ∈ cw_T := cw_mem (List.mem_of_getElem? (i := 219) (by decide +kernel)) (by decide +kernel)
theorem ml_C_109 : Cond.methodLink RC 109 yC_firstBits ∈ cw_T := cw_mem (List.mem_of_getElem? (i := 220) (by decide +kernel)) (by decide +kernel)
theorem st_C_firstBits : Cond.static yC_firstBits ∈ cw_T := cw_mem (List.mem_of_getElem? (i := 221) (by decide +kernel)) (by decide +kernel)
theorem cd_C_firstBits : Cond.code yC_firstBits prog_1_method_23_code 1 (some .long) ∈ cw_T := cw_mem (List.mem_of_getElem? (i := 222) (by decide +kernel)) (by decide +kernel)
theorem kl_C_112 : Cond.constantLong RC 112 (-1) ∈ cw_T := cw_mem (List.mem_of_getElem? (i := 223) (by decide +kernel)) (by decide +kernel)
theorem ml_L_64 : Cond.methodLink RL 64 yC_falls ∈ cw_T := cw_mem (List.mem_of_getElem? (i := 224) (by decide +kernel)) (by decide +kernel)
theorem im_C_falls : Cond.instanceMethod yC_falls ∈ cw_T := cw_mem (List.mem_of_getElem? (i := 225) (by decide +kernel)) (by decide +kernel)
theorem se_C_falls : Cond.selects RC yC_falls yC_falls ∈ cw_T := cw_mem (List.mem_of_getElem? (i := 226) (by decide +kernel)) (by decide +kernel)
theorem cd_C_falls : Cond.code yC_falls prog_1_method_13_code 6 (some .int) ∈ cw_T := cw_mem (List.mem_of_getElem? (i := 227) (by decide +kernel)) (by decide +kernel)
theorem ml_L_68 : Cond.methodLink RL 68 yC_dead ∈ cw_T := cw_mem (List.mem_of_getElem? (i := 228) (by decide +kernel)) (by decide +kernel)
theorem im_C_dead : Cond.instanceMethod yC_dead ∈ cw_T := cw_mem (List.mem_of_getElem? (i := 229) (by decide +kernel)) (by decide +kernel)
theorem se_C_dead : Cond.selects RC yC_dead yC_dead ∈ cw_T := cw_mem (List.mem_of_getElem? (i := 230) (by decide +kernel)) (by decide +kernel)
theorem cd_C_dead : Cond.code yC_dead prog_1_method_14_code 6 (some .int) ∈ cw_T := cw_mem (List.mem_of_getElem? (i := 231) (by decide +kernel)) (by decide +kernel)
theorem ml_L_72 : Cond.methodLink RL 72 yC_least ∈ cw_T := cw_mem (List.mem_of_getElem? (i := 232) (by decide +kernel)) (by decide +kernel)
theorem im_C_least : Cond.instanceMethod yC_least ∈ cw_T := cw_mem (List.mem_of_getElem? (i := 233) (by decide +kernel)) (by decide +kernel)
theorem se_C_least : Cond.selects RC yC_least yC_least ∈ cw_T := cw_mem (List.mem_of_getElem? (i := 234) (by decide +kernel)) (by decide +kernel)
theorem cd_C_least : Cond.code yC_least prog_1_method_15_code 4 (some .int) ∈ cw_T := cw_mem (List.mem_of_getElem? (i := 235) (by decide +kernel)) (by decide +kernel)
theorem ml_C_120 : Cond.methodLink RC 120 yC_gatherCandidates ∈ cw_T := cw_mem (List.mem_of_getElem? (i := 236) (by decide +kernel)) (by decide +kernel)
theorem im_C_gatherCandidates : Cond.instanceMethod yC_gatherCandidates ∈ cw_T := cw_mem (List.mem_of_getElem? (i := 238) (by decide +kernel)) (by decide +kernel)
theorem cd_C_gatherCandidates : Cond.code yC_gatherCandidates prog_1_method_34_code 4 none ∈ cw_T := cw_mem (List.mem_of_getElem? (i := 239) (by decide +kernel)) (by decide +kernel)
theorem ml_C_154 : Cond.methodLink RC 154 yC_weightOf ∈ cw_T := cw_mem (List.mem_of_getElem? (i := 240) (by decide +kernel)) (by decide +kernel)
theorem im_C_weightOf : Cond.instanceMethod yC_weightOf ∈ cw_T := cw_mem (List.mem_of_getElem? (i := 242) (by decide +kernel)) (by decide +kernel)
theorem cd_C_weightOf : Cond.code yC_weightOf prog_1_method_35_code 2 (some .long) ∈ cw_T := cw_mem (List.mem_of_getElem? (i := 243) (by decide +kernel)) (by decide +kernel)
theorem kl_C_160 : Cond.constantLong RC 160 16384 ∈ cw_T := cw_mem (List.mem_of_getElem? (i := 244) (by decide +kernel)) (by decide +kernel)
theorem kl_C_127 : Cond.constantLong RC 127 9223372036854775807 ∈ cw_T := cw_mem (List.mem_of_getElem? (i := 245) (by decide +kernel)) (by decide +kernel)
theorem ml_C_129 : Cond.methodLink RC 129 yC_lightest ∈ cw_T := cw_mem (List.mem_of_getElem? (i := 246) (by decide +kernel)) (by decide +kernel)
theorem st_C_lightest : Cond.static yC_lightest ∈ cw_T := cw_mem (List.mem_of_getElem? (i := 247) (by decide +kernel)) (by decide +kernel)
theorem cd_C_lightest : Cond.code yC_lightest prog_1_method_36_code 10 (some .long) ∈ cw_T := cw_mem (List.mem_of_getElem? (i := 248) (by decide +kernel)) (by decide +kernel)
theorem kl_C_133 : Cond.constantLong RC 133 16383 ∈ cw_T := cw_mem (List.mem_of_getElem? (i := 249) (by decide +kernel)) (by decide +kernel)
theorem ml_L_76 : Cond.methodLink RL 76 yC_chosen ∈ cw_T := cw_mem (List.mem_of_getElem? (i := 250) (by decide +kernel)) (by decide +kernel)
theorem im_C_chosen : Cond.instanceMethod yC_chosen ∈ cw_T := cw_mem (List.mem_of_getElem? (i := 251) (by decide +kernel)) (by decide +kernel)
theorem se_C_chosen : Cond.selects RC yC_chosen yC_chosen ∈ cw_T := cw_mem (List.mem_of_getElem? (i := 252) (by decide +kernel)) (by decide +kernel)
theorem cd_C_chosen : Cond.code yC_chosen prog_1_method_16_code 1 (some .int) ∈ cw_T := cw_mem (List.mem_of_getElem? (i := 253) (by decide +kernel)) (by decide +kernel)
theorem ml_L_80 : Cond.methodLink RL 80 yC_about ∈ cw_T := cw_mem (List.mem_of_getElem? (i := 254) (by decide +kernel)) (by decide +kernel)
theorem im_C_about : Cond.instanceMethod yC_about ∈ cw_T := cw_mem (List.mem_of_getElem? (i := 255) (by decide +kernel)) (by decide +kernel)
theorem se_C_about : Cond.selects RC yC_about yC_about ∈ cw_T := cw_mem (List.mem_of_getElem? (i := 256) (by decide +kernel)) (by decide +kernel)
theorem cd_C_about : Cond.code yC_about prog_1_method_17_code 3 (some .int) ∈ cw_T := cw_mem (List.mem_of_getElem? (i := 257) (by decide +kernel)) (by decide +kernel)
theorem cl_L_10 : Cond.classLink RL 10 "CoverJoinModel" ∈ cw_T := cw_mem (List.mem_of_getElem? (i := 258) (by decide +kernel)) (by decide +kernel)
theorem it_M : Cond.instantiable RM 13 ∈ cw_T := cw_mem (List.mem_of_getElem? (i := 259) (by decide +kernel)) (by decide +kernel)
theorem ml_L_12 : Cond.methodLink RL 12 yM_init ∈ cw_T := cw_mem (List.mem_of_getElem? (i := 260) (by decide +kernel)) (by decide +kernel)
theorem im_M_init : Cond.instanceMethod yM_init ∈ cw_T := cw_mem (List.mem_of_getElem? (i := 261) (by decide +kernel)) (by decide +kernel)
theorem cd_M_init : Cond.code yM_init prog_4_method_1_code 1 none ∈ cw_T := cw_mem (List.mem_of_getElem? (i := 262) (by decide +kernel)) (by decide +kernel)
theorem ml_M_1 : Cond.methodLink RM 1 ⟨"java/lang/Object", "<init>", "()V"⟩ ∈ cw_T := cw_mem (List.mem_of_getElem? (i := 263) (by decide +kernel)) (by decide +kernel)
theorem fl_M_42 : Cond.fieldLink RM 42 "CoverJoinModel" "editions" "I" ∈ cw_T := cw_mem (List.mem_of_getElem? (i := 264) (by decide +kernel)) (by decide +kernel)
theorem fl_M_50 : Cond.fieldLink RM 50 "CoverJoinModel" "runs" "I" ∈ cw_T := cw_mem (List.mem_of_getElem? (i := 265) (by decide +kernel)) (by decide +kernel)
theorem fl_M_82 : Cond.fieldLink RM 82 "CoverJoinModel" "chosen" "I" ∈ cw_T := cw_mem (List.mem_of_getElem? (i := 266) (by decide +kernel)) (by decide +kernel)
theorem fl_M_7 : Cond.fieldLink RM 7 "CoverJoinModel" "lines" "[I" ∈ cw_T := cw_mem (List.mem_of_getElem? (i := 267) (by decide +kernel)) (by decide +kernel)
theorem fl_M_13 : Cond.fieldLink RM 13 "CoverJoinModel" "content" "[I" ∈ cw_T := cw_mem (List.mem_of_getElem? (i := 268) (by decide +kernel)) (by decide +kernel)
theorem fl_M_16 : Cond.fieldLink RM 16 "CoverJoinModel" "owner" "[I" ∈ cw_T := cw_mem (List.mem_of_getElem? (i := 269) (by decide +kernel)) (by decide +kernel)
theorem fl_M_19 : Cond.fieldLink RM 19 "CoverJoinModel" "generated" "[Z" ∈ cw_T := cw_mem (List.mem_of_getElem? (i := 270) (by decide +kernel)) (by decide +kernel)
theorem fl_M_23 : Cond.fieldLink RM 23 "CoverJoinModel" "isFast" "[Z" ∈ cw_T := cw_mem (List.mem_of_getElem? (i := 271) (by decide +kernel)) (by decide +kernel)
theorem fl_M_26 : Cond.fieldLink RM 26 "CoverJoinModel" "editionOf" "[I" ∈ cw_T := cw_mem (List.mem_of_getElem? (i := 272) (by decide +kernel)) (by decide +kernel)
theorem fl_M_29 : Cond.fieldLink RM 29 "CoverJoinModel" "cost" "[I" ∈ cw_T := cw_mem (List.mem_of_getElem? (i := 273) (by decide +kernel)) (by decide +kernel)
theorem fl_M_32 : Cond.fieldLink RM 32 "CoverJoinModel" "hits" "[J" ∈ cw_T := cw_mem (List.mem_of_getElem? (i := 274) (by decide +kernel)) (by decide +kernel)
theorem fl_M_36 : Cond.fieldLink RM 36 "CoverJoinModel" "longest" "[I" ∈ cw_T := cw_mem (List.mem_of_getElem? (i := 275) (by decide +kernel)) (by decide +kernel)
theorem fl_M_39 : Cond.fieldLink RM 39 "CoverJoinModel" "pair" "[I" ∈ cw_T := cw_mem (List.mem_of_getElem? (i := 276) (by decide +kernel)) (by decide +kernel)
theorem ml_L_17 : Cond.methodLink RL 17 yM_edition ∈ cw_T := cw_mem (List.mem_of_getElem? (i := 304) (by decide +kernel)) (by decide +kernel)
theorem im_M_edition : Cond.instanceMethod yM_edition ∈ cw_T := cw_mem (List.mem_of_getElem? (i := 305) (by decide +kernel)) (by decide +kernel)
theorem se_M_edition : Cond.selects RM yM_edition yM_edition ∈ cw_T := cw_mem (List.mem_of_getElem? (i := 306) (by decide +kernel)) (by decide +kernel)
theorem cd_M_edition : Cond.code yM_edition prog_4_method_3_code 1 (some .int) ∈ cw_T := cw_mem (List.mem_of_getElem? (i := 307) (by decide +kernel)) (by decide +kernel)
theorem ml_L_22 : Cond.methodLink RL 22 yM_line ∈ cw_T := cw_mem (List.mem_of_getElem? (i := 308) (by decide +kernel)) (by decide +kernel)
theorem im_M_line : Cond.instanceMethod yM_line ∈ cw_T := cw_mem (List.mem_of_getElem? (i := 309) (by decide +kernel)) (by decide +kernel)
theorem se_M_line : Cond.selects RM yM_line yM_line ∈ cw_T := cw_mem (List.mem_of_getElem? (i := 310) (by decide +kernel)) (by decide +kernel)
theorem cd_M_line : Cond.code yM_line prog_4_method_4_code 6 (some .int) ∈ cw_T := cw_mem (List.mem_of_getElem? (i := 311) (by decide +kernel)) (by decide +kernel)
theorem ml_M_46 : Cond.methodLink RM 46 yM_in ∈ cw_T := cw_mem (List.mem_of_getElem? (i := 312) (by decide +kernel)) (by decide +kernel)
theorem st_M_in : Cond.static yM_in ∈ cw_T := cw_mem (List.mem_of_getElem? (i := 313) (by decide +kernel)) (by decide +kernel)
theorem cd_M_in : Cond.code yM_in prog_4_method_2_code 2 (some .boolean) ∈ cw_T := cw_mem (List.mem_of_getElem? (i := 314) (by decide +kernel)) (by decide +kernel)
theorem ml_L_27 : Cond.methodLink RL 27 yM_lines ∈ cw_T := cw_mem (List.mem_of_getElem? (i := 315) (by decide +kernel)) (by decide +kernel)
theorem im_M_lines : Cond.instanceMethod yM_lines ∈ cw_T := cw_mem (List.mem_of_getElem? (i := 316) (by decide +kernel)) (by decide +kernel)
theorem se_M_lines : Cond.selects RM yM_lines yM_lines ∈ cw_T := cw_mem (List.mem_of_getElem? (i := 317) (by decide +kernel)) (by decide +kernel)
theorem cd_M_lines : Cond.code yM_lines prog_4_method_5_code 2 (some .int) ∈ cw_T := cw_mem (List.mem_of_getElem? (i := 318) (by decide +kernel)) (by decide +kernel)
theorem ml_L_32 : Cond.methodLink RL 32 yM_run ∈ cw_T := cw_mem (List.mem_of_getElem? (i := 319) (by decide +kernel)) (by decide +kernel)
theorem im_M_run : Cond.instanceMethod yM_run ∈ cw_T := cw_mem (List.mem_of_getElem? (i := 320) (by decide +kernel)) (by decide +kernel)
theorem se_M_run : Cond.selects RM yM_run yM_run ∈ cw_T := cw_mem (List.mem_of_getElem? (i := 321) (by decide +kernel)) (by decide +kernel)
theorem cd_M_run : Cond.code yM_run prog_4_method_7_code 3 (some .int) ∈ cw_T := cw_mem (List.mem_of_getElem? (i := 322) (by decide +kernel)) (by decide +kernel)
theorem ko_M_53 : Cond.constant RM 53 100000 ∈ cw_T := cw_mem (List.mem_of_getElem? (i := 323) (by decide +kernel)) (by decide +kernel)
theorem ml_M_54 : Cond.methodLink RM 54 yM_newRun ∈ cw_T := cw_mem (List.mem_of_getElem? (i := 324) (by decide +kernel)) (by decide +kernel)
theorem im_M_newRun : Cond.instanceMethod yM_newRun ∈ cw_T := cw_mem (List.mem_of_getElem? (i := 326) (by decide +kernel)) (by decide +kernel)
theorem cd_M_newRun : Cond.code yM_newRun prog_4_method_6_code 5 (some .int) ∈ cw_T := cw_mem (List.mem_of_getElem? (i := 327) (by decide +kernel)) (by decide +kernel)
theorem ml_L_37 : Cond.methodLink RL 37 yM_hit ∈ cw_T := cw_mem (List.mem_of_getElem? (i := 328) (by decide +kernel)) (by decide +kernel)
theorem im_M_hit : Cond.instanceMethod yM_hit ∈ cw_T := cw_mem (List.mem_of_getElem? (i := 329) (by decide +kernel)) (by decide +kernel)
theorem se_M_hit : Cond.selects RM yM_hit yM_hit ∈ cw_T := cw_mem (List.mem_of_getElem? (i := 330) (by decide +kernel)) (by decide +kernel)
theorem cd_M_hit : Cond.code yM_hit prog_4_method_10_code 3 (some .boolean) ∈ cw_T := cw_mem (List.mem_of_getElem? (i := 331) (by decide +kernel)) (by decide +kernel)
theorem ml_M_58 : Cond.methodLink RM 58 yM_isLine ∈ cw_T := cw_mem (List.mem_of_getElem? (i := 332) (by decide +kernel)) (by decide +kernel)
theorem im_M_isLine : Cond.instanceMethod yM_isLine ∈ cw_T := cw_mem (List.mem_of_getElem? (i := 334) (by decide +kernel)) (by decide +kernel)
theorem cd_M_isLine : Cond.code yM_isLine prog_4_method_9_code 3 (some .boolean) ∈ cw_T := cw_mem (List.mem_of_getElem? (i := 335) (by decide +kernel)) (by decide +kernel)
theorem ml_M_61 : Cond.methodLink RM 61 yM_isHit ∈ cw_T := cw_mem (List.mem_of_getElem? (i := 336) (by decide +kernel)) (by decide +kernel)
theorem im_M_isHit : Cond.instanceMethod yM_isHit ∈ cw_T := cw_mem (List.mem_of_getElem? (i := 338) (by decide +kernel)) (by decide +kernel)
theorem cd_M_isHit : Cond.code yM_isHit prog_4_method_8_code 3 (some .boolean) ∈ cw_T := cw_mem (List.mem_of_getElem? (i := 339) (by decide +kernel)) (by decide +kernel)
theorem ml_L_41 : Cond.methodLink RL 41 yM_covered ∈ cw_T := cw_mem (List.mem_of_getElem? (i := 340) (by decide +kernel)) (by decide +kernel)
theorem im_M_covered : Cond.instanceMethod yM_covered ∈ cw_T := cw_mem (List.mem_of_getElem? (i := 341) (by decide +kernel)) (by decide +kernel)
theorem se_M_covered : Cond.selects RM yM_covered yM_covered ∈ cw_T := cw_mem (List.mem_of_getElem? (i := 342) (by decide +kernel)) (by decide +kernel)
theorem cd_M_covered : Cond.code yM_covered prog_4_method_11_code 3 (some .boolean) ∈ cw_T := cw_mem (List.mem_of_getElem? (i := 343) (by decide +kernel)) (by decide +kernel)
theorem ml_L_54 : Cond.methodLink RL 54 yM_same ∈ cw_T := cw_mem (List.mem_of_getElem? (i := 344) (by decide +kernel)) (by decide +kernel)
theorem im_M_same : Cond.instanceMethod yM_same ∈ cw_T := cw_mem (List.mem_of_getElem? (i := 345) (by decide +kernel)) (by decide +kernel)
theorem se_M_same : Cond.selects RM yM_same yM_same ∈ cw_T := cw_mem (List.mem_of_getElem? (i := 346) (by decide +kernel)) (by decide +kernel)
theorem cd_M_same : Cond.code yM_same prog_4_method_14_code 4 (some .int) ∈ cw_T := cw_mem (List.mem_of_getElem? (i := 347) (by decide +kernel)) (by decide +kernel)
theorem ml_M_68 : Cond.methodLink RM 68 yM_compare ∈ cw_T := cw_mem (List.mem_of_getElem? (i := 348) (by decide +kernel)) (by decide +kernel)
theorem im_M_compare : Cond.instanceMethod yM_compare ∈ cw_T := cw_mem (List.mem_of_getElem? (i := 350) (by decide +kernel)) (by decide +kernel)
theorem cd_M_compare : Cond.code yM_compare prog_4_method_13_code 11 none ∈ cw_T := cw_mem (List.mem_of_getElem? (i := 351) (by decide +kernel)) (by decide +kernel)
theorem ml_M_64 : Cond.methodLink RM 64 yM_isAlike ∈ cw_T := cw_mem (List.mem_of_getElem? (i := 352) (by decide +kernel)) (by decide +kernel)
theorem im_M_isAlike : Cond.instanceMethod yM_isAlike ∈ cw_T := cw_mem (List.mem_of_getElem? (i := 354) (by decide +kernel)) (by decide +kernel)
theorem cd_M_isAlike : Cond.code yM_isAlike prog_4_method_12_code 5 (some .boolean) ∈ cw_T := cw_mem (List.mem_of_getElem? (i := 355) (by decide +kernel)) (by decide +kernel)
theorem ml_L_45 : Cond.methodLink RL 45 yM_map ∈ cw_T := cw_mem (List.mem_of_getElem? (i := 356) (by decide +kernel)) (by decide +kernel)
theorem im_M_map : Cond.instanceMethod yM_map ∈ cw_T := cw_mem (List.mem_of_getElem? (i := 357) (by decide +kernel)) (by decide +kernel)
theorem se_M_map : Cond.selects RM yM_map yM_map ∈ cw_T := cw_mem (List.mem_of_getElem? (i := 358) (by decide +kernel)) (by decide +kernel)
theorem cd_M_map : Cond.code yM_map prog_4_method_15_code 6 (some .int) ∈ cw_T := cw_mem (List.mem_of_getElem? (i := 359) (by decide +kernel)) (by decide +kernel)
theorem ml_L_49 : Cond.methodLink RL 49 yM_join ∈ cw_T := cw_mem (List.mem_of_getElem? (i := 360) (by decide +kernel)) (by decide +kernel)
theorem im_M_join : Cond.instanceMethod yM_join ∈ cw_T := cw_mem (List.mem_of_getElem? (i := 361) (by decide +kernel)) (by decide +kernel)
theorem se_M_join : Cond.selects RM yM_join yM_join ∈ cw_T := cw_mem (List.mem_of_getElem? (i := 362) (by decide +kernel)) (by decide +kernel)
theorem cd_M_join : Cond.code yM_join prog_4_method_16_code 4 (some .int) ∈ cw_T := cw_mem (List.mem_of_getElem? (i := 363) (by decide +kernel)) (by decide +kernel)
theorem ml_L_59 : Cond.methodLink RL 59 yM_share ∈ cw_T := cw_mem (List.mem_of_getElem? (i := 364) (by decide +kernel)) (by decide +kernel)
theorem im_M_share : Cond.instanceMethod yM_share ∈ cw_T := cw_mem (List.mem_of_getElem? (i := 365) (by decide +kernel)) (by decide +kernel)
theorem se_M_share : Cond.selects RM yM_share yM_share ∈ cw_T := cw_mem (List.mem_of_getElem? (i := 366) (by decide +kernel)) (by decide +kernel)
theorem cd_M_share : Cond.code yM_share prog_4_method_18_code 4 (some .int) ∈ cw_T := cw_mem (List.mem_of_getElem? (i := 367) (by decide +kernel)) (by decide +kernel)
theorem ml_M_72 : Cond.methodLink RM 72 yM_shareOf ∈ cw_T := cw_mem (List.mem_of_getElem? (i := 368) (by decide +kernel)) (by decide +kernel)
theorem im_M_shareOf : Cond.instanceMethod yM_shareOf ∈ cw_T := cw_mem (List.mem_of_getElem? (i := 370) (by decide +kernel)) (by decide +kernel)
theorem cd_M_shareOf : Cond.code yM_shareOf prog_4_method_17_code 8 (some .int) ∈ cw_T := cw_mem (List.mem_of_getElem? (i := 371) (by decide +kernel)) (by decide +kernel)
theorem ml_L_63 : Cond.methodLink RL 63 yM_fresh ∈ cw_T := cw_mem (List.mem_of_getElem? (i := 372) (by decide +kernel)) (by decide +kernel)
theorem im_M_fresh : Cond.instanceMethod yM_fresh ∈ cw_T := cw_mem (List.mem_of_getElem? (i := 373) (by decide +kernel)) (by decide +kernel)
theorem se_M_fresh : Cond.selects RM yM_fresh yM_fresh ∈ cw_T := cw_mem (List.mem_of_getElem? (i := 374) (by decide +kernel)) (by decide +kernel)
theorem cd_M_fresh : Cond.code yM_fresh prog_4_method_19_code 10 (some .int) ∈ cw_T := cw_mem (List.mem_of_getElem? (i := 375) (by decide +kernel)) (by decide +kernel)
theorem ml_L_67 : Cond.methodLink RL 67 yM_falls ∈ cw_T := cw_mem (List.mem_of_getElem? (i := 376) (by decide +kernel)) (by decide +kernel)
theorem im_M_falls : Cond.instanceMethod yM_falls ∈ cw_T := cw_mem (List.mem_of_getElem? (i := 377) (by decide +kernel)) (by decide +kernel)
theorem se_M_falls : Cond.selects RM yM_falls yM_falls ∈ cw_T := cw_mem (List.mem_of_getElem? (i := 378) (by decide +kernel)) (by decide +kernel)
theorem cd_M_falls : Cond.code yM_falls prog_4_method_20_code 6 (some .int) ∈ cw_T := cw_mem (List.mem_of_getElem? (i := 379) (by decide +kernel)) (by decide +kernel)
theorem ml_L_71 : Cond.methodLink RL 71 yM_dead ∈ cw_T := cw_mem (List.mem_of_getElem? (i := 380) (by decide +kernel)) (by decide +kernel)
theorem im_M_dead : Cond.instanceMethod yM_dead ∈ cw_T := cw_mem (List.mem_of_getElem? (i := 381) (by decide +kernel)) (by decide +kernel)
theorem se_M_dead : Cond.selects RM yM_dead yM_dead ∈ cw_T := cw_mem (List.mem_of_getElem? (i := 382) (by decide +kernel)) (by decide +kernel)
theorem cd_M_dead : Cond.code yM_dead prog_4_method_21_code 6 (some .int) ∈ cw_T := cw_mem (List.mem_of_getElem? (i := 383) (by decide +kernel)) (by decide +kernel)
theorem kl_M_76 : Cond.constantLong RM 76 (-1) ∈ cw_T := cw_mem (List.mem_of_getElem? (i := 384) (by decide +kernel)) (by decide +kernel)
theorem ml_L_75 : Cond.methodLink RL 75 yM_least ∈ cw_T := cw_mem (List.mem_of_getElem? (i := 385) (by decide +kernel)) (by decide +kernel)
theorem im_M_least : Cond.instanceMethod yM_least ∈ cw_T := cw_mem (List.mem_of_getElem? (i := 386) (by decide +kernel)) (by decide +kernel)
theorem se_M_least : Cond.selects RM yM_least yM_least ∈ cw_T := cw_mem (List.mem_of_getElem? (i := 387) (by decide +kernel)) (by decide +kernel)
theorem cd_M_least : Cond.code yM_least prog_4_method_23_code 12 (some .int) ∈ cw_T := cw_mem (List.mem_of_getElem? (i := 388) (by decide +kernel)) (by decide +kernel)
theorem ml_M_78 : Cond.methodLink RM 78 yM_ones ∈ cw_T := cw_mem (List.mem_of_getElem? (i := 389) (by decide +kernel)) (by decide +kernel)
theorem st_M_ones : Cond.static yM_ones ∈ cw_T := cw_mem (List.mem_of_getElem? (i := 390) (by decide +kernel)) (by decide +kernel)
theorem cd_M_ones : Cond.code yM_ones prog_4_method_22_code 3 (some .int) ∈ cw_T := cw_mem (List.mem_of_getElem? (i := 391) (by decide +kernel)) (by decide +kernel)
theorem ml_L_79 : Cond.methodLink RL 79 yM_chosen ∈ cw_T := cw_mem (List.mem_of_getElem? (i := 392) (by decide +kernel)) (by decide +kernel)
theorem im_M_chosen : Cond.instanceMethod yM_chosen ∈ cw_T := cw_mem (List.mem_of_getElem? (i := 393) (by decide +kernel)) (by decide +kernel)
theorem se_M_chosen : Cond.selects RM yM_chosen yM_chosen ∈ cw_T := cw_mem (List.mem_of_getElem? (i := 394) (by decide +kernel)) (by decide +kernel)
theorem cd_M_chosen : Cond.code yM_chosen prog_4_method_24_code 1 (some .int) ∈ cw_T := cw_mem (List.mem_of_getElem? (i := 395) (by decide +kernel)) (by decide +kernel)
theorem ml_L_83 : Cond.methodLink RL 83 yM_about ∈ cw_T := cw_mem (List.mem_of_getElem? (i := 396) (by decide +kernel)) (by decide +kernel)
theorem im_M_about : Cond.instanceMethod yM_about ∈ cw_T := cw_mem (List.mem_of_getElem? (i := 397) (by decide +kernel)) (by decide +kernel)
theorem se_M_about : Cond.selects RM yM_about yM_about ∈ cw_T := cw_mem (List.mem_of_getElem? (i := 398) (by decide +kernel)) (by decide +kernel)
theorem cd_M_about : Cond.code yM_about prog_4_method_25_code 5 (some .int) ∈ cw_T := cw_mem (List.mem_of_getElem? (i := 399) (by decide +kernel)) (by decide +kernel)
theorem wsD : ∀ w ∈ u_ws RD TD 4, w ∈ cw_T := by
  intro w hw
  exact cw_mem (by revert w; decide +kernel) (by revert w; decide +kernel)
theorem wsC : ∀ w ∈ u_ws RC TC 13, w ∈ cw_T := by
  intro w hw
  exact cw_mem (by revert w; decide +kernel) (by revert w; decide +kernel)
theorem wsM : ∀ w ∈ u_ws RM TM 13, w ∈ cw_T := by
  intro w hw
  exact cw_mem (by revert w; decide +kernel) (by revert w; decide +kernel)
end
section
theorem dC_init_0 : decode cC_init 0 = .ok (.aload_n 0, 1) := by decide +kernel
theorem dC_init_1 : decode cC_init 1 = .ok (.invokespecial 3, 3) := by decide +kernel
theorem dC_init_4 : decode cC_init 4 = .ok (.aload_n 0, 1) := by decide +kernel
theorem dC_init_5 : decode cC_init 5 = .ok (.iconst 0, 1) := by decide +kernel
theorem dC_init_6 : decode cC_init 6 = .ok (.putfield 9, 3) := by decide +kernel
theorem dC_init_9 : decode cC_init 9 = .ok (.aload_n 0, 1) := by decide +kernel
theorem dC_init_10 : decode cC_init 10 = .ok (.bipush 8, 2) := by decide +kernel
theorem dC_init_12 : decode cC_init 12 = .ok (.newarray .int, 2) := by decide +kernel
theorem dC_init_14 : decode cC_init 14 = .ok (.putfield 13, 3) := by decide +kernel
theorem dC_init_17 : decode cC_init 17 = .ok (.aload_n 0, 1) := by decide +kernel
theorem dC_init_18 : decode cC_init 18 = .ok (.bipush 8, 2) := by decide +kernel
theorem dC_init_20 : decode cC_init 20 = .ok (.newarray .boolean, 2) := by decide +kernel
theorem dC_init_22 : decode cC_init 22 = .ok (.putfield 17, 3) := by decide +kernel
theorem dC_init_25 : decode cC_init 25 = .ok (.aload_n 0, 1) := by decide +kernel
theorem dC_init_26 : decode cC_init 26 = .ok (.bipush 8, 2) := by decide +kernel
theorem dC_init_28 : decode cC_init 28 = .ok (.bipush 40, 2) := by decide +kernel
theorem dC_init_30 : decode cC_init 30 = .ok (.multianewarray 21 2, 4) := by decide +kernel
theorem dC_init_34 : decode cC_init 34 = .ok (.putfield 23, 3) := by decide +kernel
theorem dC_init_37 : decode cC_init 37 = .ok (.aload_n 0, 1) := by decide +kernel
theorem dC_init_38 : decode cC_init 38 = .ok (.bipush 8, 2) := by decide +kernel
theorem dC_init_40 : decode cC_init 40 = .ok (.iconst 4, 1) := by decide +kernel
theorem dC_init_41 : decode cC_init 41 = .ok (.multianewarray 26 2, 4) := by decide +kernel
theorem dC_init_45 : decode cC_init 45 = .ok (.putfield 28, 3) := by decide +kernel
theorem dC_init_48 : decode cC_init 48 = .ok (.aload_n 0, 1) := by decide +kernel
theorem dC_init_49 : decode cC_init 49 = .ok (.iconst 0, 1) := by decide +kernel
theorem dC_init_50 : decode cC_init 50 = .ok (.putfield 31, 3) := by decide +kernel
theorem dC_init_53 : decode cC_init 53 = .ok (.aload_n 0, 1) := by decide +kernel
theorem dC_init_54 : decode cC_init 54 = .ok (.bipush 14, 2) := by decide +kernel
theorem dC_init_56 : decode cC_init 56 = .ok (.newarray .int, 2) := by decide +kernel
theorem dC_init_58 : decode cC_init 58 = .ok (.putfield 34, 3) := by decide +kernel
theorem dC_init_61 : decode cC_init 61 = .ok (.aload_n 0, 1) := by decide +kernel
theorem dC_init_62 : decode cC_init 62 = .ok (.bipush 14, 2) := by decide +kernel
theorem dC_init_64 : decode cC_init 64 = .ok (.newarray .int, 2) := by decide +kernel
theorem dC_init_66 : decode cC_init 66 = .ok (.putfield 37, 3) := by decide +kernel
theorem dC_init_69 : decode cC_init 69 = .ok (.aload_n 0, 1) := by decide +kernel
theorem dC_init_70 : decode cC_init 70 = .ok (.bipush 14, 2) := by decide +kernel
theorem dC_init_72 : decode cC_init 72 = .ok (.newarray .long, 2) := by decide +kernel
theorem dC_init_74 : decode cC_init 74 = .ok (.putfield 40, 3) := by decide +kernel
theorem dC_init_77 : decode cC_init 77 = .ok (.aload_n 0, 1) := by decide +kernel
theorem dC_init_78 : decode cC_init 78 = .ok (.bipush 41, 2) := by decide +kernel
theorem dC_init_80 : decode cC_init 80 = .ok (.bipush 41, 2) := by decide +kernel
theorem dC_init_82 : decode cC_init 82 = .ok (.multianewarray 21 2, 4) := by decide +kernel
theorem dC_init_86 : decode cC_init 86 = .ok (.putfield 44, 3) := by decide +kernel
theorem dC_init_89 : decode cC_init 89 = .ok (.aload_n 0, 1) := by decide +kernel
theorem dC_init_90 : decode cC_init 90 = .ok (.bipush 40, 2) := by decide +kernel
theorem dC_init_92 : decode cC_init 92 = .ok (.newarray .int, 2) := by decide +kernel
theorem dC_init_94 : decode cC_init 94 = .ok (.putfield 47, 3) := by decide +kernel
theorem dC_init_97 : decode cC_init 97 = .ok (.aload_n 0, 1) := by decide +kernel
theorem dC_init_98 : decode cC_init 98 = .ok (.new 50, 3) := by decide +kernel
theorem dC_init_101 : decode cC_init 101 = .ok (.dup, 1) := by decide +kernel
theorem dC_init_102 : decode cC_init 102 = .ok (.invokespecial 52, 3) := by decide +kernel
theorem dC_init_105 : decode cC_init 105 = .ok (.putfield 53, 3) := by decide +kernel
theorem dC_init_108 : decode cC_init 108 = .ok (.aload_n 0, 1) := by decide +kernel
theorem dC_init_109 : decode cC_init 109 = .ok (.iconst 0, 1) := by decide +kernel
theorem dC_init_110 : decode cC_init 110 = .ok (.putfield 57, 3) := by decide +kernel
theorem dC_init_113 : decode cC_init 113 = .ok (.return_, 1) := by decide +kernel
theorem dD_init_0 : decode cD_init 0 = .ok (.aload_n 0, 1) := by decide +kernel
theorem dD_init_1 : decode cD_init 1 = .ok (.invokespecial 3, 3) := by decide +kernel
theorem dD_init_4 : decode cD_init 4 = .ok (.aload_n 0, 1) := by decide +kernel
theorem dD_init_5 : decode cD_init 5 = .ok (.iconst 0, 1) := by decide +kernel
theorem dD_init_6 : decode cD_init 6 = .ok (.putfield 9, 3) := by decide +kernel
theorem dD_init_9 : decode cD_init 9 = .ok (.aload_n 0, 1) := by decide +kernel
theorem dD_init_10 : decode cD_init 10 = .ok (.bipush 14, 2) := by decide +kernel
theorem dD_init_12 : decode cD_init 12 = .ok (.newarray .long, 2) := by decide +kernel
theorem dD_init_14 : decode cD_init 14 = .ok (.putfield 15, 3) := by decide +kernel
theorem dD_init_17 : decode cD_init 17 = .ok (.aload_n 0, 1) := by decide +kernel
theorem dD_init_18 : decode cD_init 18 = .ok (.bipush 14, 2) := by decide +kernel
theorem dD_init_20 : decode cD_init 20 = .ok (.newarray .long, 2) := by decide +kernel
theorem dD_init_22 : decode cD_init 22 = .ok (.putfield 19, 3) := by decide +kernel
theorem dD_init_25 : decode cD_init 25 = .ok (.aload_n 0, 1) := by decide +kernel
theorem dD_init_26 : decode cD_init 26 = .ok (.bipush 15, 2) := by decide +kernel
theorem dD_init_28 : decode cD_init 28 = .ok (.newarray .long, 2) := by decide +kernel
theorem dD_init_30 : decode cD_init 30 = .ok (.putfield 22, 3) := by decide +kernel
theorem dD_init_33 : decode cD_init 33 = .ok (.return_, 1) := by decide +kernel
theorem dC_edition_0 : decode cC_edition 0 = .ok (.aload_n 0, 1) := by decide +kernel
theorem dC_edition_1 : decode cC_edition 1 = .ok (.getfield 9, 3) := by decide +kernel
theorem dC_edition_4 : decode cC_edition 4 = .ok (.bipush 8, 2) := by decide +kernel
theorem dC_edition_6 : decode cC_edition 6 = .ok (.if_icmp .lt 5, 3) := by decide +kernel
theorem dC_edition_9 : decode cC_edition 9 = .ok (.iconst (-1), 1) := by decide +kernel
theorem dC_edition_10 : decode cC_edition 10 = .ok (.ireturn, 1) := by decide +kernel
theorem dC_edition_11 : decode cC_edition 11 = .ok (.aload_n 0, 1) := by decide +kernel
theorem dC_edition_12 : decode cC_edition 12 = .ok (.getfield 9, 3) := by decide +kernel
theorem dC_edition_15 : decode cC_edition 15 = .ok (.istore_n 1, 1) := by decide +kernel
theorem dC_edition_16 : decode cC_edition 16 = .ok (.aload_n 0, 1) := by decide +kernel
theorem dC_edition_17 : decode cC_edition 17 = .ok (.iload_n 1, 1) := by decide +kernel
theorem dC_edition_18 : decode cC_edition 18 = .ok (.iconst 1, 1) := by decide +kernel
theorem dC_edition_19 : decode cC_edition 19 = .ok (.iadd, 1) := by decide +kernel
theorem dC_edition_20 : decode cC_edition 20 = .ok (.putfield 9, 3) := by decide +kernel
theorem dC_edition_23 : decode cC_edition 23 = .ok (.iload_n 1, 1) := by decide +kernel
theorem dC_edition_24 : decode cC_edition 24 = .ok (.ireturn, 1) := by decide +kernel
theorem dC_line_0 : decode cC_line 0 = .ok (.aload_n 0, 1) := by decide +kernel
theorem dC_line_1 : decode cC_line 1 = .ok (.iload_n 1, 1) := by decide +kernel
theorem dC_line_2 : decode cC_line 2 = .ok (.invokevirtual 60, 3) := by decide +kernel
theorem dC_line_5 : decode cC_line 5 = .ok (.ifCond .eq 19, 3) := by decide +kernel
theorem dC_line_8 : decode cC_line 8 = .ok (.iload_n 3, 1) := by decide +kernel
theorem dC_line_9 : decode cC_line 9 = .ok (.invokestatic 64, 3) := by decide +kernel
theorem dC_line_12 : decode cC_line 12 = .ok (.ifCond .eq 12, 3) := by decide +kernel
theorem dC_line_15 : decode cC_line 15 = .ok (.aload_n 0, 1) := by decide +kernel
theorem dC_line_16 : decode cC_line 16 = .ok (.getfield 17, 3) := by decide +kernel
theorem dC_line_19 : decode cC_line 19 = .ok (.iload_n 1, 1) := by decide +kernel
theorem dC_line_20 : decode cC_line 20 = .ok (.baload, 1) := by decide +kernel
theorem dC_line_21 : decode cC_line 21 = .ok (.ifCond .eq 5, 3) := by decide +kernel
theorem dC_line_24 : decode cC_line 24 = .ok (.iconst (-1), 1) := by decide +kernel
theorem dC_line_25 : decode cC_line 25 = .ok (.ireturn, 1) := by decide +kernel
theorem dC_line_26 : decode cC_line 26 = .ok (.aload_n 0, 1) := by decide +kernel
theorem dC_line_27 : decode cC_line 27 = .ok (.getfield 13, 3) := by decide +kernel
theorem dC_line_30 : decode cC_line 30 = .ok (.iload_n 1, 1) := by decide +kernel
theorem dC_line_31 : decode cC_line 31 = .ok (.iaload, 1) := by decide +kernel
theorem dC_line_32 : decode cC_line 32 = .ok (.istore 5, 2) := by decide +kernel
theorem dC_line_34 : decode cC_line 34 = .ok (.iload 5, 2) := by decide +kernel
theorem dC_line_36 : decode cC_line 36 = .ok (.bipush 40, 2) := by decide +kernel
theorem dC_line_38 : decode cC_line 38 = .ok (.if_icmp .lt 5, 3) := by decide +kernel
theorem dC_line_41 : decode cC_line 41 = .ok (.iconst (-1), 1) := by decide +kernel
theorem dC_line_42 : decode cC_line 42 = .ok (.ireturn, 1) := by decide +kernel
theorem dC_line_43 : decode cC_line 43 = .ok (.aload_n 0, 1) := by decide +kernel
theorem dC_line_44 : decode cC_line 44 = .ok (.getfield 23, 3) := by decide +kernel
theorem dC_line_47 : decode cC_line 47 = .ok (.iload_n 1, 1) := by decide +kernel
theorem dC_line_48 : decode cC_line 48 = .ok (.aaload, 1) := by decide +kernel
theorem dC_line_49 : decode cC_line 49 = .ok (.iload 5, 2) := by decide +kernel
theorem dC_line_51 : decode cC_line 51 = .ok (.iload_n 2, 1) := by decide +kernel
theorem dC_line_52 : decode cC_line 52 = .ok (.iastore, 1) := by decide +kernel
theorem dC_line_53 : decode cC_line 53 = .ok (.iload 4, 2) := by decide +kernel
theorem dC_line_55 : decode cC_line 55 = .ok (.ifCond .ne 19, 3) := by decide +kernel
theorem dC_line_58 : decode cC_line 58 = .ok (.aload_n 0, 1) := by decide +kernel
theorem dC_line_59 : decode cC_line 59 = .ok (.getfield 28, 3) := by decide +kernel
theorem dC_line_62 : decode cC_line 62 = .ok (.iload_n 1, 1) := by decide +kernel
theorem dC_line_63 : decode cC_line 63 = .ok (.aaload, 1) := by decide +kernel
theorem dC_line_64 : decode cC_line 64 = .ok (.iload_n 3, 1) := by decide +kernel
theorem dC_line_65 : decode cC_line 65 = .ok (.dup2, 1) := by decide +kernel
theorem dC_line_66 : decode cC_line 66 = .ok (.laload, 1) := by decide +kernel
theorem dC_line_67 : decode cC_line 67 = .ok (.iload 5, 2) := by decide +kernel
theorem dC_line_69 : decode cC_line 69 = .ok (.invokestatic 67, 3) := by decide +kernel
theorem dC_line_72 : decode cC_line 72 = .ok (.lor, 1) := by decide +kernel
theorem dC_line_73 : decode cC_line 73 = .ok (.lastore, 1) := by decide +kernel
theorem dC_line_74 : decode cC_line 74 = .ok (.aload_n 0, 1) := by decide +kernel
theorem dC_line_75 : decode cC_line 75 = .ok (.getfield 13, 3) := by decide +kernel
theorem dC_line_78 : decode cC_line 78 = .ok (.iload_n 1, 1) := by decide +kernel
theorem dC_line_79 : decode cC_line 79 = .ok (.iload 5, 2) := by decide +kernel
theorem dC_line_81 : decode cC_line 81 = .ok (.iconst 1, 1) := by decide +kernel
theorem dC_line_82 : decode cC_line 82 = .ok (.iadd, 1) := by decide +kernel
theorem dC_line_83 : decode cC_line 83 = .ok (.iastore, 1) := by decide +kernel
theorem dC_line_84 : decode cC_line 84 = .ok (.iload 5, 2) := by decide +kernel
theorem dC_line_86 : decode cC_line 86 = .ok (.ireturn, 1) := by decide +kernel
theorem dC_isEdition_0 : decode cC_isEdition 0 = .ok (.iload_n 1, 1) := by decide +kernel
theorem dC_isEdition_1 : decode cC_isEdition 1 = .ok (.ifCond .lt 15, 3) := by decide +kernel
theorem dC_isEdition_4 : decode cC_isEdition 4 = .ok (.iload_n 1, 1) := by decide +kernel
theorem dC_isEdition_5 : decode cC_isEdition 5 = .ok (.aload_n 0, 1) := by decide +kernel
theorem dC_isEdition_6 : decode cC_isEdition 6 = .ok (.getfield 9, 3) := by decide +kernel
theorem dC_isEdition_9 : decode cC_isEdition 9 = .ok (.if_icmp .ge 7, 3) := by decide +kernel
theorem dC_isEdition_12 : decode cC_isEdition 12 = .ok (.iconst 1, 1) := by decide +kernel
theorem dC_isEdition_13 : decode cC_isEdition 13 = .ok (.goto 4, 3) := by decide +kernel
theorem dC_isEdition_16 : decode cC_isEdition 16 = .ok (.iconst 0, 1) := by decide +kernel
theorem dC_isEdition_17 : decode cC_isEdition 17 = .ok (.ireturn, 1) := by decide +kernel
theorem dC_isOwner_0 : decode cC_isOwner 0 = .ok (.iload_n 0, 1) := by decide +kernel
theorem dC_isOwner_1 : decode cC_isOwner 1 = .ok (.ifCond .lt 12, 3) := by decide +kernel
theorem dC_isOwner_4 : decode cC_isOwner 4 = .ok (.iload_n 0, 1) := by decide +kernel
theorem dC_isOwner_5 : decode cC_isOwner 5 = .ok (.iconst 4, 1) := by decide +kernel
theorem dC_isOwner_6 : decode cC_isOwner 6 = .ok (.if_icmp .ge 7, 3) := by decide +kernel
theorem dC_isOwner_9 : decode cC_isOwner 9 = .ok (.iconst 1, 1) := by decide +kernel
theorem dC_isOwner_10 : decode cC_isOwner 10 = .ok (.goto 4, 3) := by decide +kernel
theorem dC_isOwner_13 : decode cC_isOwner 13 = .ok (.iconst 0, 1) := by decide +kernel
theorem dC_isOwner_14 : decode cC_isOwner 14 = .ok (.ireturn, 1) := by decide +kernel
theorem dC_bitOf_0 : decode cC_bitOf 0 = .ok (.lconst 1, 1) := by decide +kernel
theorem dC_bitOf_1 : decode cC_bitOf 1 = .ok (.iload_n 0, 1) := by decide +kernel
theorem dC_bitOf_2 : decode cC_bitOf 2 = .ok (.lshl, 1) := by decide +kernel
theorem dC_bitOf_3 : decode cC_bitOf 3 = .ok (.lreturn, 1) := by decide +kernel
theorem dC_lines_0 : decode cC_lines 0 = .ok (.aload_n 0, 1) := by decide +kernel
theorem dC_lines_1 : decode cC_lines 1 = .ok (.iload_n 1, 1) := by decide +kernel
theorem dC_lines_2 : decode cC_lines 2 = .ok (.invokevirtual 60, 3) := by decide +kernel
theorem dC_lines_5 : decode cC_lines 5 = .ok (.ifCond .eq 12, 3) := by decide +kernel
theorem dC_lines_8 : decode cC_lines 8 = .ok (.aload_n 0, 1) := by decide +kernel
theorem dC_lines_9 : decode cC_lines 9 = .ok (.getfield 13, 3) := by decide +kernel
theorem dC_lines_12 : decode cC_lines 12 = .ok (.iload_n 1, 1) := by decide +kernel
theorem dC_lines_13 : decode cC_lines 13 = .ok (.iaload, 1) := by decide +kernel
theorem dC_lines_14 : decode cC_lines 14 = .ok (.goto 4, 3) := by decide +kernel
theorem dC_lines_17 : decode cC_lines 17 = .ok (.iconst (-1), 1) := by decide +kernel
theorem dC_lines_18 : decode cC_lines 18 = .ok (.ireturn, 1) := by decide +kernel
theorem dC_run_0 : decode cC_run 0 = .ok (.aload_n 0, 1) := by decide +kernel
theorem dC_run_1 : decode cC_run 1 = .ok (.iload_n 1, 1) := by decide +kernel
theorem dC_run_2 : decode cC_run 2 = .ok (.invokevirtual 60, 3) := by decide +kernel
theorem dC_run_5 : decode cC_run 5 = .ok (.ifCond .eq 13, 3) := by decide +kernel
theorem dC_run_8 : decode cC_run 8 = .ok (.iload_n 2, 1) := by decide +kernel
theorem dC_run_9 : decode cC_run 9 = .ok (.ifCond .lt 9, 3) := by decide +kernel
theorem dC_run_12 : decode cC_run 12 = .ok (.iload_n 2, 1) := by decide +kernel
theorem dC_run_13 : decode cC_run 13 = .ok (.ldc 71, 2) := by decide +kernel
theorem dC_run_15 : decode cC_run 15 = .ok (.if_icmp .le 5, 3) := by decide +kernel
theorem dC_run_18 : decode cC_run 18 = .ok (.iconst (-1), 1) := by decide +kernel
theorem dC_run_19 : decode cC_run 19 = .ok (.ireturn, 1) := by decide +kernel
theorem dC_run_20 : decode cC_run 20 = .ok (.aload_n 0, 1) := by decide +kernel
theorem dC_run_21 : decode cC_run 21 = .ok (.iload_n 1, 1) := by decide +kernel
theorem dC_run_22 : decode cC_run 22 = .ok (.iload_n 2, 1) := by decide +kernel
theorem dC_run_23 : decode cC_run 23 = .ok (.lconst 0, 1) := by decide +kernel
theorem dC_run_24 : decode cC_run 24 = .ok (.invokevirtual 72, 3) := by decide +kernel
theorem dC_run_27 : decode cC_run 27 = .ok (.ireturn, 1) := by decide +kernel
theorem dC_addRun_0 : decode cC_addRun 0 = .ok (.aload_n 0, 1) := by decide +kernel
theorem dC_addRun_1 : decode cC_addRun 1 = .ok (.getfield 31, 3) := by decide +kernel
theorem dC_addRun_4 : decode cC_addRun 4 = .ok (.bipush 14, 2) := by decide +kernel
theorem dC_addRun_6 : decode cC_addRun 6 = .ok (.if_icmp .lt 5, 3) := by decide +kernel
theorem dC_addRun_9 : decode cC_addRun 9 = .ok (.iconst (-1), 1) := by decide +kernel
theorem dC_addRun_10 : decode cC_addRun 10 = .ok (.ireturn, 1) := by decide +kernel
theorem dC_addRun_11 : decode cC_addRun 11 = .ok (.aload_n 0, 1) := by decide +kernel
theorem dC_addRun_12 : decode cC_addRun 12 = .ok (.getfield 31, 3) := by decide +kernel
theorem dC_addRun_15 : decode cC_addRun 15 = .ok (.istore 5, 2) := by decide +kernel
theorem dC_addRun_17 : decode cC_addRun 17 = .ok (.aload_n 0, 1) := by decide +kernel
theorem dC_addRun_18 : decode cC_addRun 18 = .ok (.getfield 34, 3) := by decide +kernel
theorem dC_addRun_21 : decode cC_addRun 21 = .ok (.iload 5, 2) := by decide +kernel
theorem dC_addRun_23 : decode cC_addRun 23 = .ok (.iload_n 1, 1) := by decide +kernel
theorem dC_addRun_24 : decode cC_addRun 24 = .ok (.iastore, 1) := by decide +kernel
theorem dC_addRun_25 : decode cC_addRun 25 = .ok (.aload_n 0, 1) := by decide +kernel
theorem dC_addRun_26 : decode cC_addRun 26 = .ok (.getfield 37, 3) := by decide +kernel
theorem dC_addRun_29 : decode cC_addRun 29 = .ok (.iload 5, 2) := by decide +kernel
theorem dC_addRun_31 : decode cC_addRun 31 = .ok (.iload_n 2, 1) := by decide +kernel
theorem dC_addRun_32 : decode cC_addRun 32 = .ok (.iastore, 1) := by decide +kernel
theorem dC_addRun_33 : decode cC_addRun 33 = .ok (.aload_n 0, 1) := by decide +kernel
theorem dC_addRun_34 : decode cC_addRun 34 = .ok (.getfield 40, 3) := by decide +kernel
theorem dC_addRun_37 : decode cC_addRun 37 = .ok (.iload 5, 2) := by decide +kernel
theorem dC_addRun_39 : decode cC_addRun 39 = .ok (.lload_n 3, 1) := by decide +kernel
theorem dC_addRun_40 : decode cC_addRun 40 = .ok (.lastore, 1) := by decide +kernel
theorem dC_addRun_41 : decode cC_addRun 41 = .ok (.aload_n 0, 1) := by decide +kernel
theorem dC_addRun_42 : decode cC_addRun 42 = .ok (.iload 5, 2) := by decide +kernel
theorem dC_addRun_44 : decode cC_addRun 44 = .ok (.iconst 1, 1) := by decide +kernel
theorem dC_addRun_45 : decode cC_addRun 45 = .ok (.iadd, 1) := by decide +kernel
theorem dC_addRun_46 : decode cC_addRun 46 = .ok (.putfield 31, 3) := by decide +kernel
theorem dC_addRun_49 : decode cC_addRun 49 = .ok (.aload_n 0, 1) := by decide +kernel
theorem dC_addRun_50 : decode cC_addRun 50 = .ok (.getfield 17, 3) := by decide +kernel
theorem dC_addRun_53 : decode cC_addRun 53 = .ok (.iload_n 1, 1) := by decide +kernel
theorem dC_addRun_54 : decode cC_addRun 54 = .ok (.iconst 1, 1) := by decide +kernel
theorem dC_addRun_55 : decode cC_addRun 55 = .ok (.bastore, 1) := by decide +kernel
theorem dC_addRun_56 : decode cC_addRun 56 = .ok (.iload 5, 2) := by decide +kernel
theorem dC_addRun_58 : decode cC_addRun 58 = .ok (.ireturn, 1) := by decide +kernel
theorem dC_hit_0 : decode cC_hit 0 = .ok (.aload_n 0, 1) := by decide +kernel
theorem dC_hit_1 : decode cC_hit 1 = .ok (.iload_n 1, 1) := by decide +kernel
theorem dC_hit_2 : decode cC_hit 2 = .ok (.invokevirtual 76, 3) := by decide +kernel
theorem dC_hit_5 : decode cC_hit 5 = .ok (.ifCond .eq 26, 3) := by decide +kernel
theorem dC_hit_8 : decode cC_hit 8 = .ok (.aload_n 0, 1) := by decide +kernel
theorem dC_hit_9 : decode cC_hit 9 = .ok (.aload_n 0, 1) := by decide +kernel
theorem dC_hit_10 : decode cC_hit 10 = .ok (.getfield 34, 3) := by decide +kernel
theorem dC_hit_13 : decode cC_hit 13 = .ok (.iload_n 1, 1) := by decide +kernel
theorem dC_hit_14 : decode cC_hit 14 = .ok (.iaload, 1) := by decide +kernel
theorem dC_hit_15 : decode cC_hit 15 = .ok (.iload_n 2, 1) := by decide +kernel
theorem dC_hit_16 : decode cC_hit 16 = .ok (.invokevirtual 79, 3) := by decide +kernel
theorem dC_hit_19 : decode cC_hit 19 = .ok (.ifCond .eq 12, 3) := by decide +kernel
theorem dC_hit_22 : decode cC_hit 22 = .ok (.aload_n 0, 1) := by decide +kernel
theorem dC_hit_23 : decode cC_hit 23 = .ok (.iload_n 1, 1) := by decide +kernel
theorem dC_hit_24 : decode cC_hit 24 = .ok (.iload_n 2, 1) := by decide +kernel
theorem dC_hit_25 : decode cC_hit 25 = .ok (.invokevirtual 83, 3) := by decide +kernel
theorem dC_hit_28 : decode cC_hit 28 = .ok (.ifCond .eq 5, 3) := by decide +kernel
theorem dC_hit_31 : decode cC_hit 31 = .ok (.iconst 0, 1) := by decide +kernel
theorem dC_hit_32 : decode cC_hit 32 = .ok (.ireturn, 1) := by decide +kernel
theorem dC_hit_33 : decode cC_hit 33 = .ok (.aload_n 0, 1) := by decide +kernel
theorem dC_hit_34 : decode cC_hit 34 = .ok (.getfield 40, 3) := by decide +kernel
theorem dC_hit_37 : decode cC_hit 37 = .ok (.iload_n 1, 1) := by decide +kernel
theorem dC_hit_38 : decode cC_hit 38 = .ok (.dup2, 1) := by decide +kernel
theorem dC_hit_39 : decode cC_hit 39 = .ok (.laload, 1) := by decide +kernel
theorem dC_hit_40 : decode cC_hit 40 = .ok (.iload_n 2, 1) := by decide +kernel
theorem dC_hit_41 : decode cC_hit 41 = .ok (.invokestatic 67, 3) := by decide +kernel
theorem dC_hit_44 : decode cC_hit 44 = .ok (.lor, 1) := by decide +kernel
theorem dC_hit_45 : decode cC_hit 45 = .ok (.lastore, 1) := by decide +kernel
theorem dC_hit_46 : decode cC_hit 46 = .ok (.iconst 1, 1) := by decide +kernel
theorem dC_hit_47 : decode cC_hit 47 = .ok (.ireturn, 1) := by decide +kernel
theorem dC_isRun_0 : decode cC_isRun 0 = .ok (.iload_n 1, 1) := by decide +kernel
theorem dC_isRun_1 : decode cC_isRun 1 = .ok (.ifCond .lt 15, 3) := by decide +kernel
theorem dC_isRun_4 : decode cC_isRun 4 = .ok (.iload_n 1, 1) := by decide +kernel
theorem dC_isRun_5 : decode cC_isRun 5 = .ok (.aload_n 0, 1) := by decide +kernel
theorem dC_isRun_6 : decode cC_isRun 6 = .ok (.getfield 31, 3) := by decide +kernel
theorem dC_isRun_9 : decode cC_isRun 9 = .ok (.if_icmp .ge 7, 3) := by decide +kernel
theorem dC_isRun_12 : decode cC_isRun 12 = .ok (.iconst 1, 1) := by decide +kernel
theorem dC_isRun_13 : decode cC_isRun 13 = .ok (.goto 4, 3) := by decide +kernel
theorem dC_isRun_16 : decode cC_isRun 16 = .ok (.iconst 0, 1) := by decide +kernel
theorem dC_isRun_17 : decode cC_isRun 17 = .ok (.ireturn, 1) := by decide +kernel
theorem dC_isLine_0 : decode cC_isLine 0 = .ok (.iload_n 2, 1) := by decide +kernel
theorem dC_isLine_1 : decode cC_isLine 1 = .ok (.ifCond .lt 17, 3) := by decide +kernel
theorem dC_isLine_4 : decode cC_isLine 4 = .ok (.iload_n 2, 1) := by decide +kernel
theorem dC_isLine_5 : decode cC_isLine 5 = .ok (.aload_n 0, 1) := by decide +kernel
theorem dC_isLine_6 : decode cC_isLine 6 = .ok (.getfield 13, 3) := by decide +kernel
theorem dC_isLine_9 : decode cC_isLine 9 = .ok (.iload_n 1, 1) := by decide +kernel
theorem dC_isLine_10 : decode cC_isLine 10 = .ok (.iaload, 1) := by decide +kernel
theorem dC_isLine_11 : decode cC_isLine 11 = .ok (.if_icmp .ge 7, 3) := by decide +kernel
theorem dC_isLine_14 : decode cC_isLine 14 = .ok (.iconst 1, 1) := by decide +kernel
theorem dC_isLine_15 : decode cC_isLine 15 = .ok (.goto 4, 3) := by decide +kernel
theorem dC_isLine_18 : decode cC_isLine 18 = .ok (.iconst 0, 1) := by decide +kernel
theorem dC_isLine_19 : decode cC_isLine 19 = .ok (.ireturn, 1) := by decide +kernel
theorem dC_hitsLine_0 : decode cC_hitsLine 0 = .ok (.aload_n 0, 1) := by decide +kernel
theorem dC_hitsLine_1 : decode cC_hitsLine 1 = .ok (.getfield 40, 3) := by decide +kernel
theorem dC_hitsLine_4 : decode cC_hitsLine 4 = .ok (.iload_n 1, 1) := by decide +kernel
theorem dC_hitsLine_5 : decode cC_hitsLine 5 = .ok (.laload, 1) := by decide +kernel
theorem dC_hitsLine_6 : decode cC_hitsLine 6 = .ok (.iload_n 2, 1) := by decide +kernel
theorem dC_hitsLine_7 : decode cC_hitsLine 7 = .ok (.invokestatic 67, 3) := by decide +kernel
theorem dC_hitsLine_10 : decode cC_hitsLine 10 = .ok (.land, 1) := by decide +kernel
theorem dC_hitsLine_11 : decode cC_hitsLine 11 = .ok (.lconst 0, 1) := by decide +kernel
theorem dC_hitsLine_12 : decode cC_hitsLine 12 = .ok (.lcmp, 1) := by decide +kernel
theorem dC_hitsLine_13 : decode cC_hitsLine 13 = .ok (.ifCond .eq 7, 3) := by decide +kernel
theorem dC_hitsLine_16 : decode cC_hitsLine 16 = .ok (.iconst 1, 1) := by decide +kernel
theorem dC_hitsLine_17 : decode cC_hitsLine 17 = .ok (.goto 4, 3) := by decide +kernel
theorem dC_hitsLine_20 : decode cC_hitsLine 20 = .ok (.iconst 0, 1) := by decide +kernel
theorem dC_hitsLine_21 : decode cC_hitsLine 21 = .ok (.ireturn, 1) := by decide +kernel
theorem dC_covered_0 : decode cC_covered 0 = .ok (.aload_n 0, 1) := by decide +kernel
theorem dC_covered_1 : decode cC_covered 1 = .ok (.iload_n 1, 1) := by decide +kernel
theorem dC_covered_2 : decode cC_covered 2 = .ok (.invokevirtual 76, 3) := by decide +kernel
theorem dC_covered_5 : decode cC_covered 5 = .ok (.ifCond .eq 30, 3) := by decide +kernel
theorem dC_covered_8 : decode cC_covered 8 = .ok (.aload_n 0, 1) := by decide +kernel
theorem dC_covered_9 : decode cC_covered 9 = .ok (.aload_n 0, 1) := by decide +kernel
theorem dC_covered_10 : decode cC_covered 10 = .ok (.getfield 34, 3) := by decide +kernel
theorem dC_covered_13 : decode cC_covered 13 = .ok (.iload_n 1, 1) := by decide +kernel
theorem dC_covered_14 : decode cC_covered 14 = .ok (.iaload, 1) := by decide +kernel
theorem dC_covered_15 : decode cC_covered 15 = .ok (.iload_n 2, 1) := by decide +kernel
theorem dC_covered_16 : decode cC_covered 16 = .ok (.invokevirtual 79, 3) := by decide +kernel
theorem dC_covered_19 : decode cC_covered 19 = .ok (.ifCond .eq 16, 3) := by decide +kernel
theorem dC_covered_22 : decode cC_covered 22 = .ok (.aload_n 0, 1) := by decide +kernel
theorem dC_covered_23 : decode cC_covered 23 = .ok (.iload_n 1, 1) := by decide +kernel
theorem dC_covered_24 : decode cC_covered 24 = .ok (.iload_n 2, 1) := by decide +kernel
theorem dC_covered_25 : decode cC_covered 25 = .ok (.invokevirtual 83, 3) := by decide +kernel
theorem dC_covered_28 : decode cC_covered 28 = .ok (.ifCond .eq 7, 3) := by decide +kernel
theorem dC_covered_31 : decode cC_covered 31 = .ok (.iconst 1, 1) := by decide +kernel
theorem dC_covered_32 : decode cC_covered 32 = .ok (.goto 4, 3) := by decide +kernel
theorem dC_covered_35 : decode cC_covered 35 = .ok (.iconst 0, 1) := by decide +kernel
theorem dC_covered_36 : decode cC_covered 36 = .ok (.ireturn, 1) := by decide +kernel
theorem dC_map_0 : decode cC_map 0 = .ok (.aload_n 0, 1) := by decide +kernel
theorem dC_map_1 : decode cC_map 1 = .ok (.iload_n 1, 1) := by decide +kernel
theorem dC_map_2 : decode cC_map 2 = .ok (.invokevirtual 76, 3) := by decide +kernel
theorem dC_map_5 : decode cC_map 5 = .ok (.ifCond .eq 20, 3) := by decide +kernel
theorem dC_map_8 : decode cC_map 8 = .ok (.aload_n 0, 1) := by decide +kernel
theorem dC_map_9 : decode cC_map 9 = .ok (.iload_n 2, 1) := by decide +kernel
theorem dC_map_10 : decode cC_map 10 = .ok (.invokevirtual 60, 3) := by decide +kernel
theorem dC_map_13 : decode cC_map 13 = .ok (.ifCond .eq 12, 3) := by decide +kernel
theorem dC_map_16 : decode cC_map 16 = .ok (.aload_n 0, 1) := by decide +kernel
theorem dC_map_17 : decode cC_map 17 = .ok (.getfield 31, 3) := by decide +kernel
theorem dC_map_20 : decode cC_map 20 = .ok (.bipush 14, 2) := by decide +kernel
theorem dC_map_22 : decode cC_map 22 = .ok (.if_icmp .lt 5, 3) := by decide +kernel
theorem dC_map_25 : decode cC_map 25 = .ok (.iconst (-1), 1) := by decide +kernel
theorem dC_map_26 : decode cC_map 26 = .ok (.ireturn, 1) := by decide +kernel
theorem dC_map_27 : decode cC_map 27 = .ok (.aload_n 0, 1) := by decide +kernel
theorem dC_map_28 : decode cC_map 28 = .ok (.aload_n 0, 1) := by decide +kernel
theorem dC_map_29 : decode cC_map 29 = .ok (.getfield 34, 3) := by decide +kernel
theorem dC_map_32 : decode cC_map 32 = .ok (.iload_n 1, 1) := by decide +kernel
theorem dC_map_33 : decode cC_map 33 = .ok (.iaload, 1) := by decide +kernel
theorem dC_map_34 : decode cC_map 34 = .ok (.iload_n 2, 1) := by decide +kernel
theorem dC_map_35 : decode cC_map 35 = .ok (.invokevirtual 86, 3) := by decide +kernel
theorem dC_map_38 : decode cC_map 38 = .ok (.aload_n 0, 1) := by decide +kernel
theorem dC_map_39 : decode cC_map 39 = .ok (.iload_n 2, 1) := by decide +kernel
theorem dC_map_40 : decode cC_map 40 = .ok (.aload_n 0, 1) := by decide +kernel
theorem dC_map_41 : decode cC_map 41 = .ok (.getfield 37, 3) := by decide +kernel
theorem dC_map_44 : decode cC_map 44 = .ok (.iload_n 1, 1) := by decide +kernel
theorem dC_map_45 : decode cC_map 45 = .ok (.iaload, 1) := by decide +kernel
theorem dC_map_46 : decode cC_map 46 = .ok (.aload_n 0, 1) := by decide +kernel
theorem dC_map_47 : decode cC_map 47 = .ok (.aload_n 0, 1) := by decide +kernel
theorem dC_map_48 : decode cC_map 48 = .ok (.getfield 34, 3) := by decide +kernel
theorem dC_map_51 : decode cC_map 51 = .ok (.iload_n 1, 1) := by decide +kernel
theorem dC_map_52 : decode cC_map 52 = .ok (.iaload, 1) := by decide +kernel
theorem dC_map_53 : decode cC_map 53 = .ok (.aload_n 0, 1) := by decide +kernel
theorem dC_map_54 : decode cC_map 54 = .ok (.getfield 40, 3) := by decide +kernel
theorem dC_map_57 : decode cC_map 57 = .ok (.iload_n 1, 1) := by decide +kernel
theorem dC_map_58 : decode cC_map 58 = .ok (.laload, 1) := by decide +kernel
theorem dC_map_59 : decode cC_map 59 = .ok (.invokevirtual 90, 3) := by decide +kernel
theorem dC_map_62 : decode cC_map 62 = .ok (.invokevirtual 72, 3) := by decide +kernel
theorem dC_map_65 : decode cC_map 65 = .ok (.ireturn, 1) := by decide +kernel
theorem dC_compare_0 : decode cC_compare 0 = .ok (.aload_n 0, 1) := by decide +kernel
theorem dC_compare_1 : decode cC_compare 1 = .ok (.getfield 17, 3) := by decide +kernel
theorem dC_compare_4 : decode cC_compare 4 = .ok (.iload_n 1, 1) := by decide +kernel
theorem dC_compare_5 : decode cC_compare 5 = .ok (.iconst 1, 1) := by decide +kernel
theorem dC_compare_6 : decode cC_compare 6 = .ok (.bastore, 1) := by decide +kernel
theorem dC_compare_7 : decode cC_compare 7 = .ok (.aload_n 0, 1) := by decide +kernel
theorem dC_compare_8 : decode cC_compare 8 = .ok (.getfield 17, 3) := by decide +kernel
theorem dC_compare_11 : decode cC_compare 11 = .ok (.iload_n 2, 1) := by decide +kernel
theorem dC_compare_12 : decode cC_compare 12 = .ok (.iconst 1, 1) := by decide +kernel
theorem dC_compare_13 : decode cC_compare 13 = .ok (.bastore, 1) := by decide +kernel
theorem dC_compare_14 : decode cC_compare 14 = .ok (.aload_n 0, 1) := by decide +kernel
theorem dC_compare_15 : decode cC_compare 15 = .ok (.iload_n 1, 1) := by decide +kernel
theorem dC_compare_16 : decode cC_compare 16 = .ok (.iload_n 2, 1) := by decide +kernel
theorem dC_compare_17 : decode cC_compare 17 = .ok (.invokevirtual 135, 3) := by decide +kernel
theorem dC_compare_20 : decode cC_compare 20 = .ok (.aload_n 0, 1) := by decide +kernel
theorem dC_compare_21 : decode cC_compare 21 = .ok (.iload_n 1, 1) := by decide +kernel
theorem dC_compare_22 : decode cC_compare 22 = .ok (.iload_n 2, 1) := by decide +kernel
theorem dC_compare_23 : decode cC_compare 23 = .ok (.invokevirtual 138, 3) := by decide +kernel
theorem dC_compare_26 : decode cC_compare 26 = .ok (.return_, 1) := by decide +kernel
theorem dC_countPairs_0 : decode cC_countPairs 0 = .ok (.aload_n 0, 1) := by decide +kernel
theorem dC_countPairs_1 : decode cC_countPairs 1 = .ok (.getfield 13, 3) := by decide +kernel
theorem dC_countPairs_4 : decode cC_countPairs 4 = .ok (.iload_n 1, 1) := by decide +kernel
theorem dC_countPairs_5 : decode cC_countPairs 5 = .ok (.iaload, 1) := by decide +kernel
theorem dC_countPairs_6 : decode cC_countPairs 6 = .ok (.istore_n 3, 1) := by decide +kernel
theorem dC_countPairs_7 : decode cC_countPairs 7 = .ok (.aload_n 0, 1) := by decide +kernel
theorem dC_countPairs_8 : decode cC_countPairs 8 = .ok (.getfield 13, 3) := by decide +kernel
theorem dC_countPairs_11 : decode cC_countPairs 11 = .ok (.iload_n 2, 1) := by decide +kernel
theorem dC_countPairs_12 : decode cC_countPairs 12 = .ok (.iaload, 1) := by decide +kernel
theorem dC_countPairs_13 : decode cC_countPairs 13 = .ok (.istore 4, 2) := by decide +kernel
theorem dC_countPairs_15 : decode cC_countPairs 15 = .ok (.iconst 0, 1) := by decide +kernel
theorem dC_countPairs_16 : decode cC_countPairs 16 = .ok (.istore 5, 2) := by decide +kernel
theorem dC_countPairs_18 : decode cC_countPairs 18 = .ok (.iload 5, 2) := by decide +kernel
theorem dC_countPairs_20 : decode cC_countPairs 20 = .ok (.iload 4, 2) := by decide +kernel
theorem dC_countPairs_22 : decode cC_countPairs 22 = .ok (.if_icmp .gt 19, 3) := by decide +kernel
theorem dC_countPairs_25 : decode cC_countPairs 25 = .ok (.aload_n 0, 1) := by decide +kernel
theorem dC_countPairs_26 : decode cC_countPairs 26 = .ok (.getfield 44, 3) := by decide +kernel
theorem dC_countPairs_29 : decode cC_countPairs 29 = .ok (.iload_n 3, 1) := by decide +kernel
theorem dC_countPairs_30 : decode cC_countPairs 30 = .ok (.aaload, 1) := by decide +kernel
theorem dC_countPairs_31 : decode cC_countPairs 31 = .ok (.iload 5, 2) := by decide +kernel
theorem dC_countPairs_33 : decode cC_countPairs 33 = .ok (.iconst 0, 1) := by decide +kernel
theorem dC_countPairs_34 : decode cC_countPairs 34 = .ok (.iastore, 1) := by decide +kernel
theorem dC_countPairs_35 : decode cC_countPairs 35 = .ok (.iinc 5 1, 3) := by decide +kernel
theorem dC_countPairs_38 : decode cC_countPairs 38 = .ok (.goto (-20), 3) := by decide +kernel
theorem dC_countPairs_41 : decode cC_countPairs 41 = .ok (.iload_n 3, 1) := by decide +kernel
theorem dC_countPairs_42 : decode cC_countPairs 42 = .ok (.iconst 1, 1) := by decide +kernel
theorem dC_countPairs_43 : decode cC_countPairs 43 = .ok (.isub, 1) := by decide +kernel
theorem dC_countPairs_44 : decode cC_countPairs 44 = .ok (.istore 5, 2) := by decide +kernel
theorem dC_countPairs_46 : decode cC_countPairs 46 = .ok (.iload 5, 2) := by decide +kernel
theorem dC_countPairs_48 : decode cC_countPairs 48 = .ok (.ifCond .lt 114, 3) := by decide +kernel
theorem dC_countPairs_51 : decode cC_countPairs 51 = .ok (.aload_n 0, 1) := by decide +kernel
theorem dC_countPairs_52 : decode cC_countPairs 52 = .ok (.getfield 44, 3) := by decide +kernel
theorem dC_countPairs_55 : decode cC_countPairs 55 = .ok (.iload 5, 2) := by decide +kernel
theorem dC_countPairs_57 : decode cC_countPairs 57 = .ok (.aaload, 1) := by decide +kernel
theorem dC_countPairs_58 : decode cC_countPairs 58 = .ok (.iload 4, 2) := by decide +kernel
theorem dC_countPairs_60 : decode cC_countPairs 60 = .ok (.iconst 0, 1) := by decide +kernel
theorem dC_countPairs_61 : decode cC_countPairs 61 = .ok (.iastore, 1) := by decide +kernel
theorem dC_countPairs_62 : decode cC_countPairs 62 = .ok (.iload 4, 2) := by decide +kernel
theorem dC_countPairs_64 : decode cC_countPairs 64 = .ok (.iconst 1, 1) := by decide +kernel
theorem dC_countPairs_65 : decode cC_countPairs 65 = .ok (.isub, 1) := by decide +kernel
theorem dC_countPairs_66 : decode cC_countPairs 66 = .ok (.istore 6, 2) := by decide +kernel
theorem dC_countPairs_68 : decode cC_countPairs 68 = .ok (.iload 6, 2) := by decide +kernel
theorem dC_countPairs_70 : decode cC_countPairs 70 = .ok (.ifCond .lt 86, 3) := by decide +kernel
theorem dC_countPairs_73 : decode cC_countPairs 73 = .ok (.aload_n 0, 1) := by decide +kernel
theorem dC_countPairs_74 : decode cC_countPairs 74 = .ok (.getfield 44, 3) := by decide +kernel
theorem dC_countPairs_77 : decode cC_countPairs 77 = .ok (.iload 5, 2) := by decide +kernel
theorem dC_countPairs_79 : decode cC_countPairs 79 = .ok (.aaload, 1) := by decide +kernel
theorem dC_countPairs_80 : decode cC_countPairs 80 = .ok (.iload 6, 2) := by decide +kernel
theorem dC_countPairs_82 : decode cC_countPairs 82 = .ok (.aload_n 0, 1) := by decide +kernel
theorem dC_countPairs_83 : decode cC_countPairs 83 = .ok (.getfield 23, 3) := by decide +kernel
theorem dC_countPairs_86 : decode cC_countPairs 86 = .ok (.iload_n 1, 1) := by decide +kernel
theorem dC_countPairs_87 : decode cC_countPairs 87 = .ok (.aaload, 1) := by decide +kernel
theorem dC_countPairs_88 : decode cC_countPairs 88 = .ok (.iload 5, 2) := by decide +kernel
theorem dC_countPairs_90 : decode cC_countPairs 90 = .ok (.iaload, 1) := by decide +kernel
theorem dC_countPairs_91 : decode cC_countPairs 91 = .ok (.aload_n 0, 1) := by decide +kernel
theorem dC_countPairs_92 : decode cC_countPairs 92 = .ok (.getfield 23, 3) := by decide +kernel
theorem dC_countPairs_95 : decode cC_countPairs 95 = .ok (.iload_n 2, 1) := by decide +kernel
theorem dC_countPairs_96 : decode cC_countPairs 96 = .ok (.aaload, 1) := by decide +kernel
theorem dC_countPairs_97 : decode cC_countPairs 97 = .ok (.iload 6, 2) := by decide +kernel
theorem dC_countPairs_99 : decode cC_countPairs 99 = .ok (.iaload, 1) := by decide +kernel
theorem dC_countPairs_100 : decode cC_countPairs 100 = .ok (.if_icmp .ne 22, 3) := by decide +kernel
theorem dC_countPairs_103 : decode cC_countPairs 103 = .ok (.aload_n 0, 1) := by decide +kernel
theorem dC_countPairs_104 : decode cC_countPairs 104 = .ok (.getfield 44, 3) := by decide +kernel
theorem dC_countPairs_107 : decode cC_countPairs 107 = .ok (.iload 5, 2) := by decide +kernel
theorem dC_countPairs_109 : decode cC_countPairs 109 = .ok (.iconst 1, 1) := by decide +kernel
theorem dC_countPairs_110 : decode cC_countPairs 110 = .ok (.iadd, 1) := by decide +kernel
theorem dC_countPairs_111 : decode cC_countPairs 111 = .ok (.aaload, 1) := by decide +kernel
theorem dC_countPairs_112 : decode cC_countPairs 112 = .ok (.iload 6, 2) := by decide +kernel
theorem dC_countPairs_114 : decode cC_countPairs 114 = .ok (.iconst 1, 1) := by decide +kernel
theorem dC_countPairs_115 : decode cC_countPairs 115 = .ok (.iadd, 1) := by decide +kernel
theorem dC_countPairs_116 : decode cC_countPairs 116 = .ok (.iaload, 1) := by decide +kernel
theorem dC_countPairs_117 : decode cC_countPairs 117 = .ok (.iconst 1, 1) := by decide +kernel
theorem dC_countPairs_118 : decode cC_countPairs 118 = .ok (.iadd, 1) := by decide +kernel
theorem dC_countPairs_119 : decode cC_countPairs 119 = .ok (.goto 30, 3) := by decide +kernel
theorem dC_countPairs_122 : decode cC_countPairs 122 = .ok (.aload_n 0, 1) := by decide +kernel
theorem dC_countPairs_123 : decode cC_countPairs 123 = .ok (.getfield 44, 3) := by decide +kernel
theorem dC_countPairs_126 : decode cC_countPairs 126 = .ok (.iload 5, 2) := by decide +kernel
theorem dC_countPairs_128 : decode cC_countPairs 128 = .ok (.iconst 1, 1) := by decide +kernel
theorem dC_countPairs_129 : decode cC_countPairs 129 = .ok (.iadd, 1) := by decide +kernel
theorem dC_countPairs_130 : decode cC_countPairs 130 = .ok (.aaload, 1) := by decide +kernel
theorem dC_countPairs_131 : decode cC_countPairs 131 = .ok (.iload 6, 2) := by decide +kernel
theorem dC_countPairs_133 : decode cC_countPairs 133 = .ok (.iaload, 1) := by decide +kernel
theorem dC_countPairs_134 : decode cC_countPairs 134 = .ok (.aload_n 0, 1) := by decide +kernel
theorem dC_countPairs_135 : decode cC_countPairs 135 = .ok (.getfield 44, 3) := by decide +kernel
theorem dC_countPairs_138 : decode cC_countPairs 138 = .ok (.iload 5, 2) := by decide +kernel
theorem dC_countPairs_140 : decode cC_countPairs 140 = .ok (.aaload, 1) := by decide +kernel
theorem dC_countPairs_141 : decode cC_countPairs 141 = .ok (.iload 6, 2) := by decide +kernel
theorem dC_countPairs_143 : decode cC_countPairs 143 = .ok (.iconst 1, 1) := by decide +kernel
theorem dC_countPairs_144 : decode cC_countPairs 144 = .ok (.iadd, 1) := by decide +kernel
theorem dC_countPairs_145 : decode cC_countPairs 145 = .ok (.iaload, 1) := by decide +kernel
theorem dC_countPairs_146 : decode cC_countPairs 146 = .ok (.invokestatic 141, 3) := by decide +kernel
theorem dC_countPairs_149 : decode cC_countPairs 149 = .ok (.iastore, 1) := by decide +kernel
theorem dC_countPairs_150 : decode cC_countPairs 150 = .ok (.iinc 6 (-1), 3) := by decide +kernel
theorem dC_countPairs_153 : decode cC_countPairs 153 = .ok (.goto (-85), 3) := by decide +kernel
theorem dC_countPairs_156 : decode cC_countPairs 156 = .ok (.iinc 5 (-1), 3) := by decide +kernel
theorem dC_countPairs_159 : decode cC_countPairs 159 = .ok (.goto (-113), 3) := by decide +kernel
theorem dC_countPairs_162 : decode cC_countPairs 162 = .ok (.return_, 1) := by decide +kernel
theorem dC_choosePairs_0 : decode cC_choosePairs 0 = .ok (.iconst 0, 1) := by decide +kernel
theorem dC_choosePairs_1 : decode cC_choosePairs 1 = .ok (.istore_n 3, 1) := by decide +kernel
theorem dC_choosePairs_2 : decode cC_choosePairs 2 = .ok (.iconst 0, 1) := by decide +kernel
theorem dC_choosePairs_3 : decode cC_choosePairs 3 = .ok (.istore 4, 2) := by decide +kernel
theorem dC_choosePairs_5 : decode cC_choosePairs 5 = .ok (.iload 4, 2) := by decide +kernel
theorem dC_choosePairs_7 : decode cC_choosePairs 7 = .ok (.aload_n 0, 1) := by decide +kernel
theorem dC_choosePairs_8 : decode cC_choosePairs 8 = .ok (.getfield 13, 3) := by decide +kernel
theorem dC_choosePairs_11 : decode cC_choosePairs 11 = .ok (.iload_n 1, 1) := by decide +kernel
theorem dC_choosePairs_12 : decode cC_choosePairs 12 = .ok (.iaload, 1) := by decide +kernel
theorem dC_choosePairs_13 : decode cC_choosePairs 13 = .ok (.if_icmp .ge 85, 3) := by decide +kernel
theorem dC_choosePairs_16 : decode cC_choosePairs 16 = .ok (.aload_n 0, 1) := by decide +kernel
theorem dC_choosePairs_17 : decode cC_choosePairs 17 = .ok (.aload_n 0, 1) := by decide +kernel
theorem dC_choosePairs_18 : decode cC_choosePairs 18 = .ok (.getfield 23, 3) := by decide +kernel
theorem dC_choosePairs_21 : decode cC_choosePairs 21 = .ok (.iload_n 1, 1) := by decide +kernel
theorem dC_choosePairs_22 : decode cC_choosePairs 22 = .ok (.aaload, 1) := by decide +kernel
theorem dC_choosePairs_23 : decode cC_choosePairs 23 = .ok (.iload 4, 2) := by decide +kernel
theorem dC_choosePairs_25 : decode cC_choosePairs 25 = .ok (.iaload, 1) := by decide +kernel
theorem dC_choosePairs_26 : decode cC_choosePairs 26 = .ok (.iload_n 2, 1) := by decide +kernel
theorem dC_choosePairs_27 : decode cC_choosePairs 27 = .ok (.iload_n 3, 1) := by decide +kernel
theorem dC_choosePairs_28 : decode cC_choosePairs 28 = .ok (.invokevirtual 144, 3) := by decide +kernel
theorem dC_choosePairs_31 : decode cC_choosePairs 31 = .ok (.istore 5, 2) := by decide +kernel
theorem dC_choosePairs_33 : decode cC_choosePairs 33 = .ok (.iload 5, 2) := by decide +kernel
theorem dC_choosePairs_35 : decode cC_choosePairs 35 = .ok (.iconst (-1), 1) := by decide +kernel
theorem dC_choosePairs_36 : decode cC_choosePairs 36 = .ok (.if_icmp .eq 48, 3) := by decide +kernel
theorem dC_choosePairs_39 : decode cC_choosePairs 39 = .ok (.aload_n 0, 1) := by decide +kernel
theorem dC_choosePairs_40 : decode cC_choosePairs 40 = .ok (.getfield 44, 3) := by decide +kernel
theorem dC_choosePairs_43 : decode cC_choosePairs 43 = .ok (.iload 4, 2) := by decide +kernel
theorem dC_choosePairs_45 : decode cC_choosePairs 45 = .ok (.iconst 1, 1) := by decide +kernel
theorem dC_choosePairs_46 : decode cC_choosePairs 46 = .ok (.iadd, 1) := by decide +kernel
theorem dC_choosePairs_47 : decode cC_choosePairs 47 = .ok (.aaload, 1) := by decide +kernel
theorem dC_choosePairs_48 : decode cC_choosePairs 48 = .ok (.iload 5, 2) := by decide +kernel
theorem dC_choosePairs_50 : decode cC_choosePairs 50 = .ok (.iconst 1, 1) := by decide +kernel
theorem dC_choosePairs_51 : decode cC_choosePairs 51 = .ok (.iadd, 1) := by decide +kernel
theorem dC_choosePairs_52 : decode cC_choosePairs 52 = .ok (.iaload, 1) := by decide +kernel
theorem dC_choosePairs_53 : decode cC_choosePairs 53 = .ok (.iconst 1, 1) := by decide +kernel
theorem dC_choosePairs_54 : decode cC_choosePairs 54 = .ok (.iadd, 1) := by decide +kernel
theorem dC_choosePairs_55 : decode cC_choosePairs 55 = .ok (.aload_n 0, 1) := by decide +kernel
theorem dC_choosePairs_56 : decode cC_choosePairs 56 = .ok (.getfield 44, 3) := by decide +kernel
theorem dC_choosePairs_59 : decode cC_choosePairs 59 = .ok (.iload 4, 2) := by decide +kernel
theorem dC_choosePairs_61 : decode cC_choosePairs 61 = .ok (.aaload, 1) := by decide +kernel
theorem dC_choosePairs_62 : decode cC_choosePairs 62 = .ok (.iload_n 3, 1) := by decide +kernel
theorem dC_choosePairs_63 : decode cC_choosePairs 63 = .ok (.iaload, 1) := by decide +kernel
theorem dC_choosePairs_64 : decode cC_choosePairs 64 = .ok (.if_icmp .ne 20, 3) := by decide +kernel
theorem dC_choosePairs_67 : decode cC_choosePairs 67 = .ok (.aload_n 0, 1) := by decide +kernel
theorem dC_choosePairs_68 : decode cC_choosePairs 68 = .ok (.getfield 47, 3) := by decide +kernel
theorem dC_choosePairs_71 : decode cC_choosePairs 71 = .ok (.iload 4, 2) := by decide +kernel
theorem dC_choosePairs_73 : decode cC_choosePairs 73 = .ok (.iload 5, 2) := by decide +kernel
theorem dC_choosePairs_75 : decode cC_choosePairs 75 = .ok (.iastore, 1) := by decide +kernel
theorem dC_choosePairs_76 : decode cC_choosePairs 76 = .ok (.iload 5, 2) := by decide +kernel
theorem dC_choosePairs_78 : decode cC_choosePairs 78 = .ok (.iconst 1, 1) := by decide +kernel
theorem dC_choosePairs_79 : decode cC_choosePairs 79 = .ok (.iadd, 1) := by decide +kernel
theorem dC_choosePairs_80 : decode cC_choosePairs 80 = .ok (.istore_n 3, 1) := by decide +kernel
theorem dC_choosePairs_81 : decode cC_choosePairs 81 = .ok (.goto 11, 3) := by decide +kernel
theorem dC_choosePairs_84 : decode cC_choosePairs 84 = .ok (.aload_n 0, 1) := by decide +kernel
theorem dC_choosePairs_85 : decode cC_choosePairs 85 = .ok (.getfield 47, 3) := by decide +kernel
theorem dC_choosePairs_88 : decode cC_choosePairs 88 = .ok (.iload 4, 2) := by decide +kernel
theorem dC_choosePairs_90 : decode cC_choosePairs 90 = .ok (.iconst (-1), 1) := by decide +kernel
theorem dC_choosePairs_91 : decode cC_choosePairs 91 = .ok (.iastore, 1) := by decide +kernel
theorem dC_choosePairs_92 : decode cC_choosePairs 92 = .ok (.iinc 4 1, 3) := by decide +kernel
theorem dC_choosePairs_95 : decode cC_choosePairs 95 = .ok (.goto (-90), 3) := by decide +kernel
theorem dC_choosePairs_98 : decode cC_choosePairs 98 = .ok (.return_, 1) := by decide +kernel
theorem dC_placeOf_0 : decode cC_placeOf 0 = .ok (.iload_n 3, 1) := by decide +kernel
theorem dC_placeOf_1 : decode cC_placeOf 1 = .ok (.istore 4, 2) := by decide +kernel
theorem dC_placeOf_3 : decode cC_placeOf 3 = .ok (.iload 4, 2) := by decide +kernel
theorem dC_placeOf_5 : decode cC_placeOf 5 = .ok (.aload_n 0, 1) := by decide +kernel
theorem dC_placeOf_6 : decode cC_placeOf 6 = .ok (.getfield 13, 3) := by decide +kernel
theorem dC_placeOf_9 : decode cC_placeOf 9 = .ok (.iload_n 2, 1) := by decide +kernel
theorem dC_placeOf_10 : decode cC_placeOf 10 = .ok (.iaload, 1) := by decide +kernel
theorem dC_placeOf_11 : decode cC_placeOf 11 = .ok (.if_icmp .ge 25, 3) := by decide +kernel
theorem dC_placeOf_14 : decode cC_placeOf 14 = .ok (.aload_n 0, 1) := by decide +kernel
theorem dC_placeOf_15 : decode cC_placeOf 15 = .ok (.getfield 23, 3) := by decide +kernel
theorem dC_placeOf_18 : decode cC_placeOf 18 = .ok (.iload_n 2, 1) := by decide +kernel
theorem dC_placeOf_19 : decode cC_placeOf 19 = .ok (.aaload, 1) := by decide +kernel
theorem dC_placeOf_20 : decode cC_placeOf 20 = .ok (.iload 4, 2) := by decide +kernel
theorem dC_placeOf_22 : decode cC_placeOf 22 = .ok (.iaload, 1) := by decide +kernel
theorem dC_placeOf_23 : decode cC_placeOf 23 = .ok (.iload_n 1, 1) := by decide +kernel
theorem dC_placeOf_24 : decode cC_placeOf 24 = .ok (.if_icmp .ne 6, 3) := by decide +kernel
theorem dC_placeOf_27 : decode cC_placeOf 27 = .ok (.iload 4, 2) := by decide +kernel
theorem dC_placeOf_29 : decode cC_placeOf 29 = .ok (.ireturn, 1) := by decide +kernel
theorem dC_placeOf_30 : decode cC_placeOf 30 = .ok (.iinc 4 1, 3) := by decide +kernel
theorem dC_placeOf_33 : decode cC_placeOf 33 = .ok (.goto (-30), 3) := by decide +kernel
theorem dC_placeOf_36 : decode cC_placeOf 36 = .ok (.iconst (-1), 1) := by decide +kernel
theorem dC_placeOf_37 : decode cC_placeOf 37 = .ok (.ireturn, 1) := by decide +kernel
theorem dC_pairsOf_0 : decode cC_pairsOf 0 = .ok (.lconst 0, 1) := by decide +kernel
theorem dC_pairsOf_1 : decode cC_pairsOf 1 = .ok (.lstore 4, 2) := by decide +kernel
theorem dC_pairsOf_3 : decode cC_pairsOf 3 = .ok (.iconst 0, 1) := by decide +kernel
theorem dC_pairsOf_4 : decode cC_pairsOf 4 = .ok (.istore 6, 2) := by decide +kernel
theorem dC_pairsOf_6 : decode cC_pairsOf 6 = .ok (.iload 6, 2) := by decide +kernel
theorem dC_pairsOf_8 : decode cC_pairsOf 8 = .ok (.aload_n 0, 1) := by decide +kernel
theorem dC_pairsOf_9 : decode cC_pairsOf 9 = .ok (.getfield 13, 3) := by decide +kernel
theorem dC_pairsOf_12 : decode cC_pairsOf 12 = .ok (.iload_n 1, 1) := by decide +kernel
theorem dC_pairsOf_13 : decode cC_pairsOf 13 = .ok (.iaload, 1) := by decide +kernel
theorem dC_pairsOf_14 : decode cC_pairsOf 14 = .ok (.if_icmp .ge 47, 3) := by decide +kernel
theorem dC_pairsOf_17 : decode cC_pairsOf 17 = .ok (.lload_n 2, 1) := by decide +kernel
theorem dC_pairsOf_18 : decode cC_pairsOf 18 = .ok (.iload 6, 2) := by decide +kernel
theorem dC_pairsOf_20 : decode cC_pairsOf 20 = .ok (.invokestatic 67, 3) := by decide +kernel
theorem dC_pairsOf_23 : decode cC_pairsOf 23 = .ok (.land, 1) := by decide +kernel
theorem dC_pairsOf_24 : decode cC_pairsOf 24 = .ok (.lconst 0, 1) := by decide +kernel
theorem dC_pairsOf_25 : decode cC_pairsOf 25 = .ok (.lcmp, 1) := by decide +kernel
theorem dC_pairsOf_26 : decode cC_pairsOf 26 = .ok (.ifCond .eq 29, 3) := by decide +kernel
theorem dC_pairsOf_29 : decode cC_pairsOf 29 = .ok (.aload_n 0, 1) := by decide +kernel
theorem dC_pairsOf_30 : decode cC_pairsOf 30 = .ok (.getfield 47, 3) := by decide +kernel
theorem dC_pairsOf_33 : decode cC_pairsOf 33 = .ok (.iload 6, 2) := by decide +kernel
theorem dC_pairsOf_35 : decode cC_pairsOf 35 = .ok (.iaload, 1) := by decide +kernel
theorem dC_pairsOf_36 : decode cC_pairsOf 36 = .ok (.iconst (-1), 1) := by decide +kernel
theorem dC_pairsOf_37 : decode cC_pairsOf 37 = .ok (.if_icmp .eq 18, 3) := by decide +kernel
theorem dC_pairsOf_40 : decode cC_pairsOf 40 = .ok (.lload 4, 2) := by decide +kernel
theorem dC_pairsOf_42 : decode cC_pairsOf 42 = .ok (.aload_n 0, 1) := by decide +kernel
theorem dC_pairsOf_43 : decode cC_pairsOf 43 = .ok (.getfield 47, 3) := by decide +kernel
theorem dC_pairsOf_46 : decode cC_pairsOf 46 = .ok (.iload 6, 2) := by decide +kernel
theorem dC_pairsOf_48 : decode cC_pairsOf 48 = .ok (.iaload, 1) := by decide +kernel
theorem dC_pairsOf_49 : decode cC_pairsOf 49 = .ok (.invokestatic 67, 3) := by decide +kernel
theorem dC_pairsOf_52 : decode cC_pairsOf 52 = .ok (.lor, 1) := by decide +kernel
theorem dC_pairsOf_53 : decode cC_pairsOf 53 = .ok (.lstore 4, 2) := by decide +kernel
theorem dC_pairsOf_55 : decode cC_pairsOf 55 = .ok (.iinc 6 1, 3) := by decide +kernel
theorem dC_pairsOf_58 : decode cC_pairsOf 58 = .ok (.goto (-52), 3) := by decide +kernel
theorem dC_pairsOf_61 : decode cC_pairsOf 61 = .ok (.lload 4, 2) := by decide +kernel
theorem dC_pairsOf_63 : decode cC_pairsOf 63 = .ok (.lreturn, 1) := by decide +kernel
theorem dC_join_0 : decode cC_join 0 = .ok (.aload_n 0, 1) := by decide +kernel
theorem dC_join_1 : decode cC_join 1 = .ok (.iload_n 1, 1) := by decide +kernel
theorem dC_join_2 : decode cC_join 2 = .ok (.invokevirtual 76, 3) := by decide +kernel
theorem dC_join_5 : decode cC_join 5 = .ok (.ifCond .eq 26, 3) := by decide +kernel
theorem dC_join_8 : decode cC_join 8 = .ok (.aload_n 0, 1) := by decide +kernel
theorem dC_join_9 : decode cC_join 9 = .ok (.iload_n 2, 1) := by decide +kernel
theorem dC_join_10 : decode cC_join 10 = .ok (.invokevirtual 76, 3) := by decide +kernel
theorem dC_join_13 : decode cC_join 13 = .ok (.ifCond .eq 18, 3) := by decide +kernel
theorem dC_join_16 : decode cC_join 16 = .ok (.aload_n 0, 1) := by decide +kernel
theorem dC_join_17 : decode cC_join 17 = .ok (.getfield 34, 3) := by decide +kernel
theorem dC_join_20 : decode cC_join 20 = .ok (.iload_n 1, 1) := by decide +kernel
theorem dC_join_21 : decode cC_join 21 = .ok (.iaload, 1) := by decide +kernel
theorem dC_join_22 : decode cC_join 22 = .ok (.aload_n 0, 1) := by decide +kernel
theorem dC_join_23 : decode cC_join 23 = .ok (.getfield 34, 3) := by decide +kernel
theorem dC_join_26 : decode cC_join 26 = .ok (.iload_n 2, 1) := by decide +kernel
theorem dC_join_27 : decode cC_join 27 = .ok (.iaload, 1) := by decide +kernel
theorem dC_join_28 : decode cC_join 28 = .ok (.if_icmp .eq 5, 3) := by decide +kernel
theorem dC_join_31 : decode cC_join 31 = .ok (.iconst (-1), 1) := by decide +kernel
theorem dC_join_32 : decode cC_join 32 = .ok (.ireturn, 1) := by decide +kernel
theorem dC_join_33 : decode cC_join 33 = .ok (.aload_n 0, 1) := by decide +kernel
theorem dC_join_34 : decode cC_join 34 = .ok (.getfield 37, 3) := by decide +kernel
theorem dC_join_37 : decode cC_join 37 = .ok (.iload_n 1, 1) := by decide +kernel
theorem dC_join_38 : decode cC_join 38 = .ok (.iaload, 1) := by decide +kernel
theorem dC_join_39 : decode cC_join 39 = .ok (.aload_n 0, 1) := by decide +kernel
theorem dC_join_40 : decode cC_join 40 = .ok (.getfield 37, 3) := by decide +kernel
theorem dC_join_43 : decode cC_join 43 = .ok (.iload_n 2, 1) := by decide +kernel
theorem dC_join_44 : decode cC_join 44 = .ok (.iaload, 1) := by decide +kernel
theorem dC_join_45 : decode cC_join 45 = .ok (.iadd, 1) := by decide +kernel
theorem dC_join_46 : decode cC_join 46 = .ok (.ldc 71, 2) := by decide +kernel
theorem dC_join_48 : decode cC_join 48 = .ok (.invokestatic 94, 3) := by decide +kernel
theorem dC_join_51 : decode cC_join 51 = .ok (.istore_n 3, 1) := by decide +kernel
theorem dC_join_52 : decode cC_join 52 = .ok (.aload_n 0, 1) := by decide +kernel
theorem dC_join_53 : decode cC_join 53 = .ok (.aload_n 0, 1) := by decide +kernel
theorem dC_join_54 : decode cC_join 54 = .ok (.getfield 34, 3) := by decide +kernel
theorem dC_join_57 : decode cC_join 57 = .ok (.iload_n 1, 1) := by decide +kernel
theorem dC_join_58 : decode cC_join 58 = .ok (.iaload, 1) := by decide +kernel
theorem dC_join_59 : decode cC_join 59 = .ok (.iload_n 3, 1) := by decide +kernel
theorem dC_join_60 : decode cC_join 60 = .ok (.aload_n 0, 1) := by decide +kernel
theorem dC_join_61 : decode cC_join 61 = .ok (.getfield 40, 3) := by decide +kernel
theorem dC_join_64 : decode cC_join 64 = .ok (.iload_n 1, 1) := by decide +kernel
theorem dC_join_65 : decode cC_join 65 = .ok (.laload, 1) := by decide +kernel
theorem dC_join_66 : decode cC_join 66 = .ok (.aload_n 0, 1) := by decide +kernel
theorem dC_join_67 : decode cC_join 67 = .ok (.getfield 40, 3) := by decide +kernel
theorem dC_join_70 : decode cC_join 70 = .ok (.iload_n 2, 1) := by decide +kernel
theorem dC_join_71 : decode cC_join 71 = .ok (.laload, 1) := by decide +kernel
theorem dC_join_72 : decode cC_join 72 = .ok (.lor, 1) := by decide +kernel
theorem dC_join_73 : decode cC_join 73 = .ok (.invokevirtual 72, 3) := by decide +kernel
theorem dC_join_76 : decode cC_join 76 = .ok (.ireturn, 1) := by decide +kernel
theorem dC_same_0 : decode cC_same 0 = .ok (.aload_n 0, 1) := by decide +kernel
theorem dC_same_1 : decode cC_same 1 = .ok (.iload_n 1, 1) := by decide +kernel
theorem dC_same_2 : decode cC_same 2 = .ok (.invokevirtual 60, 3) := by decide +kernel
theorem dC_same_5 : decode cC_same 5 = .ok (.ifCond .eq 20, 3) := by decide +kernel
theorem dC_same_8 : decode cC_same 8 = .ok (.aload_n 0, 1) := by decide +kernel
theorem dC_same_9 : decode cC_same 9 = .ok (.iload_n 2, 1) := by decide +kernel
theorem dC_same_10 : decode cC_same 10 = .ok (.invokevirtual 60, 3) := by decide +kernel
theorem dC_same_13 : decode cC_same 13 = .ok (.ifCond .eq 12, 3) := by decide +kernel
theorem dC_same_16 : decode cC_same 16 = .ok (.aload_n 0, 1) := by decide +kernel
theorem dC_same_17 : decode cC_same 17 = .ok (.iload_n 1, 1) := by decide +kernel
theorem dC_same_18 : decode cC_same 18 = .ok (.iload_n 3, 1) := by decide +kernel
theorem dC_same_19 : decode cC_same 19 = .ok (.invokevirtual 79, 3) := by decide +kernel
theorem dC_same_22 : decode cC_same 22 = .ok (.ifCond .ne 5, 3) := by decide +kernel
theorem dC_same_25 : decode cC_same 25 = .ok (.iconst (-1), 1) := by decide +kernel
theorem dC_same_26 : decode cC_same 26 = .ok (.ireturn, 1) := by decide +kernel
theorem dC_same_27 : decode cC_same 27 = .ok (.aload_n 0, 1) := by decide +kernel
theorem dC_same_28 : decode cC_same 28 = .ok (.iload_n 1, 1) := by decide +kernel
theorem dC_same_29 : decode cC_same 29 = .ok (.iload_n 2, 1) := by decide +kernel
theorem dC_same_30 : decode cC_same 30 = .ok (.invokevirtual 86, 3) := by decide +kernel
theorem dC_same_33 : decode cC_same 33 = .ok (.aload_n 0, 1) := by decide +kernel
theorem dC_same_34 : decode cC_same 34 = .ok (.getfield 47, 3) := by decide +kernel
theorem dC_same_37 : decode cC_same 37 = .ok (.iload_n 3, 1) := by decide +kernel
theorem dC_same_38 : decode cC_same 38 = .ok (.iaload, 1) := by decide +kernel
theorem dC_same_39 : decode cC_same 39 = .ok (.ireturn, 1) := by decide +kernel
theorem dC_share_0 : decode cC_share 0 = .ok (.aload_n 0, 1) := by decide +kernel
theorem dC_share_1 : decode cC_share 1 = .ok (.iload_n 1, 1) := by decide +kernel
theorem dC_share_2 : decode cC_share 2 = .ok (.invokevirtual 76, 3) := by decide +kernel
theorem dC_share_5 : decode cC_share 5 = .ok (.ifCond .eq 10, 3) := by decide +kernel
theorem dC_share_8 : decode cC_share 8 = .ok (.iload_n 2, 1) := by decide +kernel
theorem dC_share_9 : decode cC_share 9 = .ok (.invokestatic 64, 3) := by decide +kernel
theorem dC_share_12 : decode cC_share 12 = .ok (.ifCond .ne 5, 3) := by decide +kernel
theorem dC_share_15 : decode cC_share 15 = .ok (.iconst (-1), 1) := by decide +kernel
theorem dC_share_16 : decode cC_share 16 = .ok (.ireturn, 1) := by decide +kernel
theorem dC_share_17 : decode cC_share 17 = .ok (.iload_n 3, 1) := by decide +kernel
theorem dC_share_18 : decode cC_share 18 = .ok (.ifCond .eq 12, 3) := by decide +kernel
theorem dC_share_21 : decode cC_share 21 = .ok (.aload_n 0, 1) := by decide +kernel
theorem dC_share_22 : decode cC_share 22 = .ok (.iload_n 1, 1) := by decide +kernel
theorem dC_share_23 : decode cC_share 23 = .ok (.iload_n 2, 1) := by decide +kernel
theorem dC_share_24 : decode cC_share 24 = .ok (.invokevirtual 100, 3) := by decide +kernel
theorem dC_share_27 : decode cC_share 27 = .ok (.goto 9, 3) := by decide +kernel
theorem dC_share_30 : decode cC_share 30 = .ok (.aload_n 0, 1) := by decide +kernel
theorem dC_share_31 : decode cC_share 31 = .ok (.iload_n 1, 1) := by decide +kernel
theorem dC_share_32 : decode cC_share 32 = .ok (.iload_n 2, 1) := by decide +kernel
theorem dC_share_33 : decode cC_share 33 = .ok (.invokevirtual 103, 3) := by decide +kernel
theorem dC_share_36 : decode cC_share 36 = .ok (.ireturn, 1) := by decide +kernel
theorem dC_hitShare_0 : decode cC_hitShare 0 = .ok (.aload_n 0, 1) := by decide +kernel
theorem dC_hitShare_1 : decode cC_hitShare 1 = .ok (.getfield 28, 3) := by decide +kernel
theorem dC_hitShare_4 : decode cC_hitShare 4 = .ok (.aload_n 0, 1) := by decide +kernel
theorem dC_hitShare_5 : decode cC_hitShare 5 = .ok (.getfield 34, 3) := by decide +kernel
theorem dC_hitShare_8 : decode cC_hitShare 8 = .ok (.iload_n 1, 1) := by decide +kernel
theorem dC_hitShare_9 : decode cC_hitShare 9 = .ok (.iaload, 1) := by decide +kernel
theorem dC_hitShare_10 : decode cC_hitShare 10 = .ok (.aaload, 1) := by decide +kernel
theorem dC_hitShare_11 : decode cC_hitShare 11 = .ok (.iload_n 2, 1) := by decide +kernel
theorem dC_hitShare_12 : decode cC_hitShare 12 = .ok (.laload, 1) := by decide +kernel
theorem dC_hitShare_13 : decode cC_hitShare 13 = .ok (.aload_n 0, 1) := by decide +kernel
theorem dC_hitShare_14 : decode cC_hitShare 14 = .ok (.getfield 40, 3) := by decide +kernel
theorem dC_hitShare_17 : decode cC_hitShare 17 = .ok (.iload_n 1, 1) := by decide +kernel
theorem dC_hitShare_18 : decode cC_hitShare 18 = .ok (.laload, 1) := by decide +kernel
theorem dC_hitShare_19 : decode cC_hitShare 19 = .ok (.land, 1) := by decide +kernel
theorem dC_hitShare_20 : decode cC_hitShare 20 = .ok (.invokestatic 114, 3) := by decide +kernel
theorem dC_hitShare_23 : decode cC_hitShare 23 = .ok (.ireturn, 1) := by decide +kernel
theorem dJ_bitCount_0 : decode cJ_bitCount 0 = .ok (.lload_n 0, 1) := by decide +kernel
theorem dJ_bitCount_1 : decode cJ_bitCount 1 = .ok (.lload_n 0, 1) := by decide +kernel
theorem dJ_bitCount_2 : decode cJ_bitCount 2 = .ok (.iconst 1, 1) := by decide +kernel
theorem dJ_bitCount_3 : decode cJ_bitCount 3 = .ok (.lushr, 1) := by decide +kernel
theorem dJ_bitCount_4 : decode cJ_bitCount 4 = .ok (.ldc2_w 314, 3) := by decide +kernel
theorem dJ_bitCount_7 : decode cJ_bitCount 7 = .ok (.land, 1) := by decide +kernel
theorem dJ_bitCount_8 : decode cJ_bitCount 8 = .ok (.lsub, 1) := by decide +kernel
theorem dJ_bitCount_9 : decode cJ_bitCount 9 = .ok (.lstore_n 0, 1) := by decide +kernel
theorem dJ_bitCount_10 : decode cJ_bitCount 10 = .ok (.lload_n 0, 1) := by decide +kernel
theorem dJ_bitCount_11 : decode cJ_bitCount 11 = .ok (.ldc2_w 316, 3) := by decide +kernel
theorem dJ_bitCount_14 : decode cJ_bitCount 14 = .ok (.land, 1) := by decide +kernel
theorem dJ_bitCount_15 : decode cJ_bitCount 15 = .ok (.lload_n 0, 1) := by decide +kernel
theorem dJ_bitCount_16 : decode cJ_bitCount 16 = .ok (.iconst 2, 1) := by decide +kernel
theorem dJ_bitCount_17 : decode cJ_bitCount 17 = .ok (.lushr, 1) := by decide +kernel
theorem dJ_bitCount_18 : decode cJ_bitCount 18 = .ok (.ldc2_w 316, 3) := by decide +kernel
theorem dJ_bitCount_21 : decode cJ_bitCount 21 = .ok (.land, 1) := by decide +kernel
theorem dJ_bitCount_22 : decode cJ_bitCount 22 = .ok (.ladd, 1) := by decide +kernel
theorem dJ_bitCount_23 : decode cJ_bitCount 23 = .ok (.lstore_n 0, 1) := by decide +kernel
theorem dJ_bitCount_24 : decode cJ_bitCount 24 = .ok (.lload_n 0, 1) := by decide +kernel
theorem dJ_bitCount_25 : decode cJ_bitCount 25 = .ok (.lload_n 0, 1) := by decide +kernel
theorem dJ_bitCount_26 : decode cJ_bitCount 26 = .ok (.iconst 4, 1) := by decide +kernel
theorem dJ_bitCount_27 : decode cJ_bitCount 27 = .ok (.lushr, 1) := by decide +kernel
theorem dJ_bitCount_28 : decode cJ_bitCount 28 = .ok (.ladd, 1) := by decide +kernel
theorem dJ_bitCount_29 : decode cJ_bitCount 29 = .ok (.ldc2_w 318, 3) := by decide +kernel
theorem dJ_bitCount_32 : decode cJ_bitCount 32 = .ok (.land, 1) := by decide +kernel
theorem dJ_bitCount_33 : decode cJ_bitCount 33 = .ok (.lstore_n 0, 1) := by decide +kernel
theorem dJ_bitCount_34 : decode cJ_bitCount 34 = .ok (.lload_n 0, 1) := by decide +kernel
theorem dJ_bitCount_35 : decode cJ_bitCount 35 = .ok (.lload_n 0, 1) := by decide +kernel
theorem dJ_bitCount_36 : decode cJ_bitCount 36 = .ok (.bipush 8, 2) := by decide +kernel
theorem dJ_bitCount_38 : decode cJ_bitCount 38 = .ok (.lushr, 1) := by decide +kernel
theorem dJ_bitCount_39 : decode cJ_bitCount 39 = .ok (.ladd, 1) := by decide +kernel
theorem dJ_bitCount_40 : decode cJ_bitCount 40 = .ok (.lstore_n 0, 1) := by decide +kernel
theorem dJ_bitCount_41 : decode cJ_bitCount 41 = .ok (.lload_n 0, 1) := by decide +kernel
theorem dJ_bitCount_42 : decode cJ_bitCount 42 = .ok (.lload_n 0, 1) := by decide +kernel
theorem dJ_bitCount_43 : decode cJ_bitCount 43 = .ok (.bipush 16, 2) := by decide +kernel
theorem dJ_bitCount_45 : decode cJ_bitCount 45 = .ok (.lushr, 1) := by decide +kernel
theorem dJ_bitCount_46 : decode cJ_bitCount 46 = .ok (.ladd, 1) := by decide +kernel
theorem dJ_bitCount_47 : decode cJ_bitCount 47 = .ok (.lstore_n 0, 1) := by decide +kernel
theorem dJ_bitCount_48 : decode cJ_bitCount 48 = .ok (.lload_n 0, 1) := by decide +kernel
theorem dJ_bitCount_49 : decode cJ_bitCount 49 = .ok (.lload_n 0, 1) := by decide +kernel
theorem dJ_bitCount_50 : decode cJ_bitCount 50 = .ok (.bipush 32, 2) := by decide +kernel
theorem dJ_bitCount_52 : decode cJ_bitCount 52 = .ok (.lushr, 1) := by decide +kernel
theorem dJ_bitCount_53 : decode cJ_bitCount 53 = .ok (.ladd, 1) := by decide +kernel
theorem dJ_bitCount_54 : decode cJ_bitCount 54 = .ok (.lstore_n 0, 1) := by decide +kernel
theorem dJ_bitCount_55 : decode cJ_bitCount 55 = .ok (.lload_n 0, 1) := by decide +kernel
theorem dJ_bitCount_56 : decode cJ_bitCount 56 = .ok (.l2i, 1) := by decide +kernel
theorem dJ_bitCount_57 : decode cJ_bitCount 57 = .ok (.bipush 127, 2) := by decide +kernel
theorem dJ_bitCount_59 : decode cJ_bitCount 59 = .ok (.iand, 1) := by decide +kernel
theorem dJ_bitCount_60 : decode cJ_bitCount 60 = .ok (.ireturn, 1) := by decide +kernel
theorem dC_wholeShare_0 : decode cC_wholeShare 0 = .ok (.aload_n 0, 1) := by decide +kernel
theorem dC_wholeShare_1 : decode cC_wholeShare 1 = .ok (.getfield 28, 3) := by decide +kernel
theorem dC_wholeShare_4 : decode cC_wholeShare 4 = .ok (.aload_n 0, 1) := by decide +kernel
theorem dC_wholeShare_5 : decode cC_wholeShare 5 = .ok (.getfield 34, 3) := by decide +kernel
theorem dC_wholeShare_8 : decode cC_wholeShare 8 = .ok (.iload_n 1, 1) := by decide +kernel
theorem dC_wholeShare_9 : decode cC_wholeShare 9 = .ok (.iaload, 1) := by decide +kernel
theorem dC_wholeShare_10 : decode cC_wholeShare 10 = .ok (.aaload, 1) := by decide +kernel
theorem dC_wholeShare_11 : decode cC_wholeShare 11 = .ok (.iload_n 2, 1) := by decide +kernel
theorem dC_wholeShare_12 : decode cC_wholeShare 12 = .ok (.laload, 1) := by decide +kernel
theorem dC_wholeShare_13 : decode cC_wholeShare 13 = .ok (.invokestatic 114, 3) := by decide +kernel
theorem dC_wholeShare_16 : decode cC_wholeShare 16 = .ok (.ireturn, 1) := by decide +kernel
theorem dC_fresh_0 : decode cC_fresh 0 = .ok (.aload_n 0, 1) := by decide +kernel
theorem dC_fresh_1 : decode cC_fresh 1 = .ok (.iload_n 1, 1) := by decide +kernel
theorem dC_fresh_2 : decode cC_fresh 2 = .ok (.invokevirtual 76, 3) := by decide +kernel
theorem dC_fresh_5 : decode cC_fresh 5 = .ok (.ifCond .eq 11, 3) := by decide +kernel
theorem dC_fresh_8 : decode cC_fresh 8 = .ok (.aload_n 0, 1) := by decide +kernel
theorem dC_fresh_9 : decode cC_fresh 9 = .ok (.iload_n 2, 1) := by decide +kernel
theorem dC_fresh_10 : decode cC_fresh 10 = .ok (.invokevirtual 60, 3) := by decide +kernel
theorem dC_fresh_13 : decode cC_fresh 13 = .ok (.ifCond .ne 5, 3) := by decide +kernel
theorem dC_fresh_16 : decode cC_fresh 16 = .ok (.iconst (-1), 1) := by decide +kernel
theorem dC_fresh_17 : decode cC_fresh 17 = .ok (.ireturn, 1) := by decide +kernel
theorem dC_fresh_18 : decode cC_fresh 18 = .ok (.aload_n 0, 1) := by decide +kernel
theorem dC_fresh_19 : decode cC_fresh 19 = .ok (.getfield 34, 3) := by decide +kernel
theorem dC_fresh_22 : decode cC_fresh 22 = .ok (.iload_n 1, 1) := by decide +kernel
theorem dC_fresh_23 : decode cC_fresh 23 = .ok (.iaload, 1) := by decide +kernel
theorem dC_fresh_24 : decode cC_fresh 24 = .ok (.istore 4, 2) := by decide +kernel
theorem dC_fresh_26 : decode cC_fresh 26 = .ok (.aload_n 0, 1) := by decide +kernel
theorem dC_fresh_27 : decode cC_fresh 27 = .ok (.iload_n 2, 1) := by decide +kernel
theorem dC_fresh_28 : decode cC_fresh 28 = .ok (.iload 4, 2) := by decide +kernel
theorem dC_fresh_30 : decode cC_fresh 30 = .ok (.invokevirtual 86, 3) := by decide +kernel
theorem dC_fresh_33 : decode cC_fresh 33 = .ok (.aload_n 0, 1) := by decide +kernel
theorem dC_fresh_34 : decode cC_fresh 34 = .ok (.iload 4, 2) := by decide +kernel
theorem dC_fresh_36 : decode cC_fresh 36 = .ok (.invokevirtual 106, 3) := by decide +kernel
theorem dC_fresh_39 : decode cC_fresh 39 = .ok (.aload_n 0, 1) := by decide +kernel
theorem dC_fresh_40 : decode cC_fresh 40 = .ok (.iload_n 2, 1) := by decide +kernel
theorem dC_fresh_41 : decode cC_fresh 41 = .ok (.aload_n 0, 1) := by decide +kernel
theorem dC_fresh_42 : decode cC_fresh 42 = .ok (.getfield 13, 3) := by decide +kernel
theorem dC_fresh_45 : decode cC_fresh 45 = .ok (.iload_n 2, 1) := by decide +kernel
theorem dC_fresh_46 : decode cC_fresh 46 = .ok (.iaload, 1) := by decide +kernel
theorem dC_fresh_47 : decode cC_fresh 47 = .ok (.invokestatic 109, 3) := by decide +kernel
theorem dC_fresh_50 : decode cC_fresh 50 = .ok (.invokevirtual 90, 3) := by decide +kernel
theorem dC_fresh_53 : decode cC_fresh 53 = .ok (.ldc2_w 112, 3) := by decide +kernel
theorem dC_fresh_56 : decode cC_fresh 56 = .ok (.lxor, 1) := by decide +kernel
theorem dC_fresh_57 : decode cC_fresh 57 = .ok (.land, 1) := by decide +kernel
theorem dC_fresh_58 : decode cC_fresh 58 = .ok (.lstore 5, 2) := by decide +kernel
theorem dC_fresh_60 : decode cC_fresh 60 = .ok (.iload_n 3, 1) := by decide +kernel
theorem dC_fresh_61 : decode cC_fresh 61 = .ok (.ifCond .eq 15, 3) := by decide +kernel
theorem dC_fresh_64 : decode cC_fresh 64 = .ok (.lload 5, 2) := by decide +kernel
theorem dC_fresh_66 : decode cC_fresh 66 = .ok (.aload_n 0, 1) := by decide +kernel
theorem dC_fresh_67 : decode cC_fresh 67 = .ok (.getfield 40, 3) := by decide +kernel
theorem dC_fresh_70 : decode cC_fresh 70 = .ok (.iload_n 1, 1) := by decide +kernel
theorem dC_fresh_71 : decode cC_fresh 71 = .ok (.laload, 1) := by decide +kernel
theorem dC_fresh_72 : decode cC_fresh 72 = .ok (.land, 1) := by decide +kernel
theorem dC_fresh_73 : decode cC_fresh 73 = .ok (.goto 5, 3) := by decide +kernel
theorem dC_fresh_76 : decode cC_fresh 76 = .ok (.lload 5, 2) := by decide +kernel
theorem dC_fresh_78 : decode cC_fresh 78 = .ok (.invokestatic 114, 3) := by decide +kernel
theorem dC_fresh_81 : decode cC_fresh 81 = .ok (.ireturn, 1) := by decide +kernel
theorem dC_ungenerated_0 : decode cC_ungenerated 0 = .ok (.lconst 0, 1) := by decide +kernel
theorem dC_ungenerated_1 : decode cC_ungenerated 1 = .ok (.lstore_n 2, 1) := by decide +kernel
theorem dC_ungenerated_2 : decode cC_ungenerated 2 = .ok (.iconst 0, 1) := by decide +kernel
theorem dC_ungenerated_3 : decode cC_ungenerated 3 = .ok (.istore 4, 2) := by decide +kernel
theorem dC_ungenerated_5 : decode cC_ungenerated 5 = .ok (.iload 4, 2) := by decide +kernel
theorem dC_ungenerated_7 : decode cC_ungenerated 7 = .ok (.iconst 4, 1) := by decide +kernel
theorem dC_ungenerated_8 : decode cC_ungenerated 8 = .ok (.if_icmp .ge 21, 3) := by decide +kernel
theorem dC_ungenerated_11 : decode cC_ungenerated 11 = .ok (.lload_n 2, 1) := by decide +kernel
theorem dC_ungenerated_12 : decode cC_ungenerated 12 = .ok (.aload_n 0, 1) := by decide +kernel
theorem dC_ungenerated_13 : decode cC_ungenerated 13 = .ok (.getfield 28, 3) := by decide +kernel
theorem dC_ungenerated_16 : decode cC_ungenerated 16 = .ok (.iload_n 1, 1) := by decide +kernel
theorem dC_ungenerated_17 : decode cC_ungenerated 17 = .ok (.aaload, 1) := by decide +kernel
theorem dC_ungenerated_18 : decode cC_ungenerated 18 = .ok (.iload 4, 2) := by decide +kernel
theorem dC_ungenerated_20 : decode cC_ungenerated 20 = .ok (.laload, 1) := by decide +kernel
theorem dC_ungenerated_21 : decode cC_ungenerated 21 = .ok (.lor, 1) := by decide +kernel
theorem dC_ungenerated_22 : decode cC_ungenerated 22 = .ok (.lstore_n 2, 1) := by decide +kernel
theorem dC_ungenerated_23 : decode cC_ungenerated 23 = .ok (.iinc 4 1, 3) := by decide +kernel
theorem dC_ungenerated_26 : decode cC_ungenerated 26 = .ok (.goto (-21), 3) := by decide +kernel
theorem dC_ungenerated_29 : decode cC_ungenerated 29 = .ok (.lload_n 2, 1) := by decide +kernel
theorem dC_ungenerated_30 : decode cC_ungenerated 30 = .ok (.lreturn, 1) := by decide +kernel
theorem dC_firstBits_0 : decode cC_firstBits 0 = .ok (.lconst 1, 1) := by decide +kernel
theorem dC_firstBits_1 : decode cC_firstBits 1 = .ok (.iload_n 0, 1) := by decide +kernel
theorem dC_firstBits_2 : decode cC_firstBits 2 = .ok (.lshl, 1) := by decide +kernel
theorem dC_firstBits_3 : decode cC_firstBits 3 = .ok (.lconst 1, 1) := by decide +kernel
theorem dC_firstBits_4 : decode cC_firstBits 4 = .ok (.lsub, 1) := by decide +kernel
theorem dC_firstBits_5 : decode cC_firstBits 5 = .ok (.lreturn, 1) := by decide +kernel
theorem dC_falls_0 : decode cC_falls 0 = .ok (.aload_n 0, 1) := by decide +kernel
theorem dC_falls_1 : decode cC_falls 1 = .ok (.iload_n 1, 1) := by decide +kernel
theorem dC_falls_2 : decode cC_falls 2 = .ok (.invokevirtual 76, 3) := by decide +kernel
theorem dC_falls_5 : decode cC_falls 5 = .ok (.ifCond .eq 18, 3) := by decide +kernel
theorem dC_falls_8 : decode cC_falls 8 = .ok (.aload_n 0, 1) := by decide +kernel
theorem dC_falls_9 : decode cC_falls 9 = .ok (.iload_n 2, 1) := by decide +kernel
theorem dC_falls_10 : decode cC_falls 10 = .ok (.invokevirtual 76, 3) := by decide +kernel
theorem dC_falls_13 : decode cC_falls 13 = .ok (.ifCond .eq 10, 3) := by decide +kernel
theorem dC_falls_16 : decode cC_falls 16 = .ok (.iload_n 3, 1) := by decide +kernel
theorem dC_falls_17 : decode cC_falls 17 = .ok (.invokestatic 64, 3) := by decide +kernel
theorem dC_falls_20 : decode cC_falls 20 = .ok (.ifCond .ne 6, 3) := by decide +kernel
theorem dC_falls_23 : decode cC_falls 23 = .ok (.bipush (-2), 2) := by decide +kernel
theorem dC_falls_25 : decode cC_falls 25 = .ok (.ireturn, 1) := by decide +kernel
theorem dC_falls_26 : decode cC_falls 26 = .ok (.aload_n 0, 1) := by decide +kernel
theorem dC_falls_27 : decode cC_falls 27 = .ok (.iload_n 1, 1) := by decide +kernel
theorem dC_falls_28 : decode cC_falls 28 = .ok (.iload_n 3, 1) := by decide +kernel
theorem dC_falls_29 : decode cC_falls 29 = .ok (.invokevirtual 103, 3) := by decide +kernel
theorem dC_falls_32 : decode cC_falls 32 = .ok (.istore 4, 2) := by decide +kernel
theorem dC_falls_34 : decode cC_falls 34 = .ok (.aload_n 0, 1) := by decide +kernel
theorem dC_falls_35 : decode cC_falls 35 = .ok (.iload_n 2, 1) := by decide +kernel
theorem dC_falls_36 : decode cC_falls 36 = .ok (.iload_n 3, 1) := by decide +kernel
theorem dC_falls_37 : decode cC_falls 37 = .ok (.invokevirtual 103, 3) := by decide +kernel
theorem dC_falls_40 : decode cC_falls 40 = .ok (.istore 5, 2) := by decide +kernel
theorem dC_falls_42 : decode cC_falls 42 = .ok (.iload 4, 2) := by decide +kernel
theorem dC_falls_44 : decode cC_falls 44 = .ok (.ifCond .eq 8, 3) := by decide +kernel
theorem dC_falls_47 : decode cC_falls 47 = .ok (.iload 5, 2) := by decide +kernel
theorem dC_falls_49 : decode cC_falls 49 = .ok (.ifCond .ne 5, 3) := by decide +kernel
theorem dC_falls_52 : decode cC_falls 52 = .ok (.iconst (-1), 1) := by decide +kernel
theorem dC_falls_53 : decode cC_falls 53 = .ok (.ireturn, 1) := by decide +kernel
theorem dC_falls_54 : decode cC_falls 54 = .ok (.aload_n 0, 1) := by decide +kernel
theorem dC_falls_55 : decode cC_falls 55 = .ok (.iload_n 1, 1) := by decide +kernel
theorem dC_falls_56 : decode cC_falls 56 = .ok (.iload_n 3, 1) := by decide +kernel
theorem dC_falls_57 : decode cC_falls 57 = .ok (.invokevirtual 100, 3) := by decide +kernel
theorem dC_falls_60 : decode cC_falls 60 = .ok (.iload 5, 2) := by decide +kernel
theorem dC_falls_62 : decode cC_falls 62 = .ok (.imul, 1) := by decide +kernel
theorem dC_falls_63 : decode cC_falls 63 = .ok (.aload_n 0, 1) := by decide +kernel
theorem dC_falls_64 : decode cC_falls 64 = .ok (.iload_n 2, 1) := by decide +kernel
theorem dC_falls_65 : decode cC_falls 65 = .ok (.iload_n 3, 1) := by decide +kernel
theorem dC_falls_66 : decode cC_falls 66 = .ok (.invokevirtual 100, 3) := by decide +kernel
theorem dC_falls_69 : decode cC_falls 69 = .ok (.iload 4, 2) := by decide +kernel
theorem dC_falls_71 : decode cC_falls 71 = .ok (.imul, 1) := by decide +kernel
theorem dC_falls_72 : decode cC_falls 72 = .ok (.if_icmp .ge 7, 3) := by decide +kernel
theorem dC_falls_75 : decode cC_falls 75 = .ok (.iconst 1, 1) := by decide +kernel
theorem dC_falls_76 : decode cC_falls 76 = .ok (.goto 4, 3) := by decide +kernel
theorem dC_falls_79 : decode cC_falls 79 = .ok (.iconst 0, 1) := by decide +kernel
theorem dC_falls_80 : decode cC_falls 80 = .ok (.ireturn, 1) := by decide +kernel
theorem dC_dead_0 : decode cC_dead 0 = .ok (.aload_n 0, 1) := by decide +kernel
theorem dC_dead_1 : decode cC_dead 1 = .ok (.iload_n 1, 1) := by decide +kernel
theorem dC_dead_2 : decode cC_dead 2 = .ok (.invokevirtual 60, 3) := by decide +kernel
theorem dC_dead_5 : decode cC_dead 5 = .ok (.ifCond .ne 5, 3) := by decide +kernel
theorem dC_dead_8 : decode cC_dead 8 = .ok (.iconst 0, 1) := by decide +kernel
theorem dC_dead_9 : decode cC_dead 9 = .ok (.ireturn, 1) := by decide +kernel
theorem dC_dead_10 : decode cC_dead 10 = .ok (.lconst 0, 1) := by decide +kernel
theorem dC_dead_11 : decode cC_dead 11 = .ok (.lstore_n 2, 1) := by decide +kernel
theorem dC_dead_12 : decode cC_dead 12 = .ok (.iconst 0, 1) := by decide +kernel
theorem dC_dead_13 : decode cC_dead 13 = .ok (.istore 4, 2) := by decide +kernel
theorem dC_dead_15 : decode cC_dead 15 = .ok (.iconst 0, 1) := by decide +kernel
theorem dC_dead_16 : decode cC_dead 16 = .ok (.istore 5, 2) := by decide +kernel
theorem dC_dead_18 : decode cC_dead 18 = .ok (.iload 5, 2) := by decide +kernel
theorem dC_dead_20 : decode cC_dead 20 = .ok (.aload_n 0, 1) := by decide +kernel
theorem dC_dead_21 : decode cC_dead 21 = .ok (.getfield 31, 3) := by decide +kernel
theorem dC_dead_24 : decode cC_dead 24 = .ok (.if_icmp .ge 57, 3) := by decide +kernel
theorem dC_dead_27 : decode cC_dead 27 = .ok (.aload_n 0, 1) := by decide +kernel
theorem dC_dead_28 : decode cC_dead 28 = .ok (.getfield 34, 3) := by decide +kernel
theorem dC_dead_31 : decode cC_dead 31 = .ok (.iload 5, 2) := by decide +kernel
theorem dC_dead_33 : decode cC_dead 33 = .ok (.iaload, 1) := by decide +kernel
theorem dC_dead_34 : decode cC_dead 34 = .ok (.iload_n 1, 1) := by decide +kernel
theorem dC_dead_35 : decode cC_dead 35 = .ok (.if_icmp .ne 40, 3) := by decide +kernel
theorem dC_dead_38 : decode cC_dead 38 = .ok (.aload_n 0, 1) := by decide +kernel
theorem dC_dead_39 : decode cC_dead 39 = .ok (.getfield 40, 3) := by decide +kernel
theorem dC_dead_42 : decode cC_dead 42 = .ok (.iload 5, 2) := by decide +kernel
theorem dC_dead_44 : decode cC_dead 44 = .ok (.laload, 1) := by decide +kernel
theorem dC_dead_45 : decode cC_dead 45 = .ok (.lload_n 2, 1) := by decide +kernel
theorem dC_dead_46 : decode cC_dead 46 = .ok (.ldc2_w 112, 3) := by decide +kernel
theorem dC_dead_49 : decode cC_dead 49 = .ok (.lxor, 1) := by decide +kernel
theorem dC_dead_50 : decode cC_dead 50 = .ok (.land, 1) := by decide +kernel
theorem dC_dead_51 : decode cC_dead 51 = .ok (.lconst 0, 1) := by decide +kernel
theorem dC_dead_52 : decode cC_dead 52 = .ok (.lcmp, 1) := by decide +kernel
theorem dC_dead_53 : decode cC_dead 53 = .ok (.ifCond .ne 12, 3) := by decide +kernel
theorem dC_dead_56 : decode cC_dead 56 = .ok (.iload 4, 2) := by decide +kernel
theorem dC_dead_58 : decode cC_dead 58 = .ok (.iconst 1, 1) := by decide +kernel
theorem dC_dead_59 : decode cC_dead 59 = .ok (.iload 5, 2) := by decide +kernel
theorem dC_dead_61 : decode cC_dead 61 = .ok (.ishl, 1) := by decide +kernel
theorem dC_dead_62 : decode cC_dead 62 = .ok (.ior, 1) := by decide +kernel
theorem dC_dead_63 : decode cC_dead 63 = .ok (.istore 4, 2) := by decide +kernel
theorem dC_dead_65 : decode cC_dead 65 = .ok (.lload_n 2, 1) := by decide +kernel
theorem dC_dead_66 : decode cC_dead 66 = .ok (.aload_n 0, 1) := by decide +kernel
theorem dC_dead_67 : decode cC_dead 67 = .ok (.getfield 40, 3) := by decide +kernel
theorem dC_dead_70 : decode cC_dead 70 = .ok (.iload 5, 2) := by decide +kernel
theorem dC_dead_72 : decode cC_dead 72 = .ok (.laload, 1) := by decide +kernel
theorem dC_dead_73 : decode cC_dead 73 = .ok (.lor, 1) := by decide +kernel
theorem dC_dead_74 : decode cC_dead 74 = .ok (.lstore_n 2, 1) := by decide +kernel
theorem dC_dead_75 : decode cC_dead 75 = .ok (.iinc 5 1, 3) := by decide +kernel
theorem dC_dead_78 : decode cC_dead 78 = .ok (.goto (-60), 3) := by decide +kernel
theorem dC_dead_81 : decode cC_dead 81 = .ok (.iload 4, 2) := by decide +kernel
theorem dC_dead_83 : decode cC_dead 83 = .ok (.ireturn, 1) := by decide +kernel
theorem dC_least_0 : decode cC_least 0 = .ok (.aload_n 0, 1) := by decide +kernel
theorem dC_least_1 : decode cC_least 1 = .ok (.iload_n 1, 1) := by decide +kernel
theorem dC_least_2 : decode cC_least 2 = .ok (.invokevirtual 60, 3) := by decide +kernel
theorem dC_least_5 : decode cC_least 5 = .ok (.ifCond .ne 5, 3) := by decide +kernel
theorem dC_least_8 : decode cC_least 8 = .ok (.iconst (-1), 1) := by decide +kernel
theorem dC_least_9 : decode cC_least 9 = .ok (.ireturn, 1) := by decide +kernel
theorem dC_least_10 : decode cC_least 10 = .ok (.aload_n 0, 1) := by decide +kernel
theorem dC_least_11 : decode cC_least 11 = .ok (.iload_n 1, 1) := by decide +kernel
theorem dC_least_12 : decode cC_least 12 = .ok (.invokevirtual 120, 3) := by decide +kernel
theorem dC_least_15 : decode cC_least 15 = .ok (.aload_n 0, 1) := by decide +kernel
theorem dC_least_16 : decode cC_least 16 = .ok (.getfield 53, 3) := by decide +kernel
theorem dC_least_19 : decode cC_least 19 = .ok (.iconst 0, 1) := by decide +kernel
theorem dC_least_20 : decode cC_least 20 = .ok (.aload_n 0, 1) := by decide +kernel
theorem dC_least_21 : decode cC_least 21 = .ok (.getfield 53, 3) := by decide +kernel
theorem dC_least_24 : decode cC_least 24 = .ok (.getfield 124, 3) := by decide +kernel
theorem dC_least_27 : decode cC_least 27 = .ok (.iconst 0, 1) := by decide +kernel
theorem dC_least_28 : decode cC_least 28 = .ok (.laload, 1) := by decide +kernel
theorem dC_least_29 : decode cC_least 29 = .ok (.lconst 0, 1) := by decide +kernel
theorem dC_least_30 : decode cC_least 30 = .ok (.ldc2_w 127, 3) := by decide +kernel
theorem dC_least_33 : decode cC_least 33 = .ok (.invokestatic 129, 3) := by decide +kernel
theorem dC_least_36 : decode cC_least 36 = .ok (.lstore_n 2, 1) := by decide +kernel
theorem dC_least_37 : decode cC_least 37 = .ok (.aload_n 0, 1) := by decide +kernel
theorem dC_least_38 : decode cC_least 38 = .ok (.lload_n 2, 1) := by decide +kernel
theorem dC_least_39 : decode cC_least 39 = .ok (.ldc2_w 133, 3) := by decide +kernel
theorem dC_least_42 : decode cC_least 42 = .ok (.land, 1) := by decide +kernel
theorem dC_least_43 : decode cC_least 43 = .ok (.l2i, 1) := by decide +kernel
theorem dC_least_44 : decode cC_least 44 = .ok (.putfield 57, 3) := by decide +kernel
theorem dC_least_47 : decode cC_least 47 = .ok (.lload_n 2, 1) := by decide +kernel
theorem dC_least_48 : decode cC_least 48 = .ok (.bipush 18, 2) := by decide +kernel
theorem dC_least_50 : decode cC_least 50 = .ok (.lshr, 1) := by decide +kernel
theorem dC_least_51 : decode cC_least 51 = .ok (.l2i, 1) := by decide +kernel
theorem dC_least_52 : decode cC_least 52 = .ok (.ireturn, 1) := by decide +kernel
theorem dC_gatherCandidates_0 : decode cC_gatherCandidates 0 = .ok (.iconst 0, 1) := by decide +kernel
theorem dC_gatherCandidates_1 : decode cC_gatherCandidates 1 = .ok (.istore_n 2, 1) := by decide +kernel
theorem dC_gatherCandidates_2 : decode cC_gatherCandidates 2 = .ok (.iconst 0, 1) := by decide +kernel
theorem dC_gatherCandidates_3 : decode cC_gatherCandidates 3 = .ok (.istore_n 3, 1) := by decide +kernel
theorem dC_gatherCandidates_4 : decode cC_gatherCandidates 4 = .ok (.iload_n 3, 1) := by decide +kernel
theorem dC_gatherCandidates_5 : decode cC_gatherCandidates 5 = .ok (.aload_n 0, 1) := by decide +kernel
theorem dC_gatherCandidates_6 : decode cC_gatherCandidates 6 = .ok (.getfield 31, 3) := by decide +kernel
theorem dC_gatherCandidates_9 : decode cC_gatherCandidates 9 = .ok (.if_icmp .ge 51, 3) := by decide +kernel
theorem dC_gatherCandidates_12 : decode cC_gatherCandidates 12 = .ok (.aload_n 0, 1) := by decide +kernel
theorem dC_gatherCandidates_13 : decode cC_gatherCandidates 13 = .ok (.getfield 34, 3) := by decide +kernel
theorem dC_gatherCandidates_16 : decode cC_gatherCandidates 16 = .ok (.iload_n 3, 1) := by decide +kernel
theorem dC_gatherCandidates_17 : decode cC_gatherCandidates 17 = .ok (.iaload, 1) := by decide +kernel
theorem dC_gatherCandidates_18 : decode cC_gatherCandidates 18 = .ok (.iload_n 1, 1) := by decide +kernel
theorem dC_gatherCandidates_19 : decode cC_gatherCandidates 19 = .ok (.if_icmp .ne 35, 3) := by decide +kernel
theorem dC_gatherCandidates_22 : decode cC_gatherCandidates 22 = .ok (.aload_n 0, 1) := by decide +kernel
theorem dC_gatherCandidates_23 : decode cC_gatherCandidates 23 = .ok (.getfield 53, 3) := by decide +kernel
theorem dC_gatherCandidates_26 : decode cC_gatherCandidates 26 = .ok (.getfield 148, 3) := by decide +kernel
theorem dC_gatherCandidates_29 : decode cC_gatherCandidates 29 = .ok (.iload_n 2, 1) := by decide +kernel
theorem dC_gatherCandidates_30 : decode cC_gatherCandidates 30 = .ok (.aload_n 0, 1) := by decide +kernel
theorem dC_gatherCandidates_31 : decode cC_gatherCandidates 31 = .ok (.getfield 40, 3) := by decide +kernel
theorem dC_gatherCandidates_34 : decode cC_gatherCandidates 34 = .ok (.iload_n 3, 1) := by decide +kernel
theorem dC_gatherCandidates_35 : decode cC_gatherCandidates 35 = .ok (.laload, 1) := by decide +kernel
theorem dC_gatherCandidates_36 : decode cC_gatherCandidates 36 = .ok (.lastore, 1) := by decide +kernel
theorem dC_gatherCandidates_37 : decode cC_gatherCandidates 37 = .ok (.aload_n 0, 1) := by decide +kernel
theorem dC_gatherCandidates_38 : decode cC_gatherCandidates 38 = .ok (.getfield 53, 3) := by decide +kernel
theorem dC_gatherCandidates_41 : decode cC_gatherCandidates 41 = .ok (.getfield 151, 3) := by decide +kernel
theorem dC_gatherCandidates_44 : decode cC_gatherCandidates 44 = .ok (.iload_n 2, 1) := by decide +kernel
theorem dC_gatherCandidates_45 : decode cC_gatherCandidates 45 = .ok (.aload_n 0, 1) := by decide +kernel
theorem dC_gatherCandidates_46 : decode cC_gatherCandidates 46 = .ok (.iload_n 3, 1) := by decide +kernel
theorem dC_gatherCandidates_47 : decode cC_gatherCandidates 47 = .ok (.invokevirtual 154, 3) := by decide +kernel
theorem dC_gatherCandidates_50 : decode cC_gatherCandidates 50 = .ok (.lastore, 1) := by decide +kernel
theorem dC_gatherCandidates_51 : decode cC_gatherCandidates 51 = .ok (.iinc 2 1, 3) := by decide +kernel
theorem dC_gatherCandidates_54 : decode cC_gatherCandidates 54 = .ok (.iinc 3 1, 3) := by decide +kernel
theorem dC_gatherCandidates_57 : decode cC_gatherCandidates 57 = .ok (.goto (-53), 3) := by decide +kernel
theorem dC_gatherCandidates_60 : decode cC_gatherCandidates 60 = .ok (.aload_n 0, 1) := by decide +kernel
theorem dC_gatherCandidates_61 : decode cC_gatherCandidates 61 = .ok (.getfield 53, 3) := by decide +kernel
theorem dC_gatherCandidates_64 : decode cC_gatherCandidates 64 = .ok (.iload_n 2, 1) := by decide +kernel
theorem dC_gatherCandidates_65 : decode cC_gatherCandidates 65 = .ok (.putfield 157, 3) := by decide +kernel
theorem dC_gatherCandidates_68 : decode cC_gatherCandidates 68 = .ok (.aload_n 0, 1) := by decide +kernel
theorem dC_gatherCandidates_69 : decode cC_gatherCandidates 69 = .ok (.getfield 53, 3) := by decide +kernel
theorem dC_gatherCandidates_72 : decode cC_gatherCandidates 72 = .ok (.getfield 124, 3) := by decide +kernel
theorem dC_gatherCandidates_75 : decode cC_gatherCandidates 75 = .ok (.iload_n 2, 1) := by decide +kernel
theorem dC_gatherCandidates_76 : decode cC_gatherCandidates 76 = .ok (.lconst 0, 1) := by decide +kernel
theorem dC_gatherCandidates_77 : decode cC_gatherCandidates 77 = .ok (.lastore, 1) := by decide +kernel
theorem dC_gatherCandidates_78 : decode cC_gatherCandidates 78 = .ok (.iload_n 2, 1) := by decide +kernel
theorem dC_gatherCandidates_79 : decode cC_gatherCandidates 79 = .ok (.iconst 1, 1) := by decide +kernel
theorem dC_gatherCandidates_80 : decode cC_gatherCandidates 80 = .ok (.isub, 1) := by decide +kernel
theorem dC_gatherCandidates_81 : decode cC_gatherCandidates 81 = .ok (.istore_n 3, 1) := by decide +kernel
theorem dC_gatherCandidates_82 : decode cC_gatherCandidates 82 = .ok (.iload_n 3, 1) := by decide +kernel
theorem dC_gatherCandidates_83 : decode cC_gatherCandidates 83 = .ok (.ifCond .lt 39, 3) := by decide +kernel
theorem dC_gatherCandidates_86 : decode cC_gatherCandidates 86 = .ok (.aload_n 0, 1) := by decide +kernel
theorem dC_gatherCandidates_87 : decode cC_gatherCandidates 87 = .ok (.getfield 53, 3) := by decide +kernel
theorem dC_gatherCandidates_90 : decode cC_gatherCandidates 90 = .ok (.getfield 124, 3) := by decide +kernel
theorem dC_gatherCandidates_93 : decode cC_gatherCandidates 93 = .ok (.iload_n 3, 1) := by decide +kernel
theorem dC_gatherCandidates_94 : decode cC_gatherCandidates 94 = .ok (.aload_n 0, 1) := by decide +kernel
theorem dC_gatherCandidates_95 : decode cC_gatherCandidates 95 = .ok (.getfield 53, 3) := by decide +kernel
theorem dC_gatherCandidates_98 : decode cC_gatherCandidates 98 = .ok (.getfield 124, 3) := by decide +kernel
theorem dC_gatherCandidates_101 : decode cC_gatherCandidates 101 = .ok (.iload_n 3, 1) := by decide +kernel
theorem dC_gatherCandidates_102 : decode cC_gatherCandidates 102 = .ok (.iconst 1, 1) := by decide +kernel
theorem dC_gatherCandidates_103 : decode cC_gatherCandidates 103 = .ok (.iadd, 1) := by decide +kernel
theorem dC_gatherCandidates_104 : decode cC_gatherCandidates 104 = .ok (.laload, 1) := by decide +kernel
theorem dC_gatherCandidates_105 : decode cC_gatherCandidates 105 = .ok (.aload_n 0, 1) := by decide +kernel
theorem dC_gatherCandidates_106 : decode cC_gatherCandidates 106 = .ok (.getfield 53, 3) := by decide +kernel
theorem dC_gatherCandidates_109 : decode cC_gatherCandidates 109 = .ok (.getfield 148, 3) := by decide +kernel
theorem dC_gatherCandidates_112 : decode cC_gatherCandidates 112 = .ok (.iload_n 3, 1) := by decide +kernel
theorem dC_gatherCandidates_113 : decode cC_gatherCandidates 113 = .ok (.laload, 1) := by decide +kernel
theorem dC_gatherCandidates_114 : decode cC_gatherCandidates 114 = .ok (.lor, 1) := by decide +kernel
theorem dC_gatherCandidates_115 : decode cC_gatherCandidates 115 = .ok (.lastore, 1) := by decide +kernel
theorem dC_gatherCandidates_116 : decode cC_gatherCandidates 116 = .ok (.iinc 3 (-1), 3) := by decide +kernel
theorem dC_gatherCandidates_119 : decode cC_gatherCandidates 119 = .ok (.goto (-37), 3) := by decide +kernel
theorem dC_gatherCandidates_122 : decode cC_gatherCandidates 122 = .ok (.return_, 1) := by decide +kernel
theorem dC_weightOf_0 : decode cC_weightOf 0 = .ok (.aload_n 0, 1) := by decide +kernel
theorem dC_weightOf_1 : decode cC_weightOf 1 = .ok (.getfield 37, 3) := by decide +kernel
theorem dC_weightOf_4 : decode cC_weightOf 4 = .ok (.iload_n 1, 1) := by decide +kernel
theorem dC_weightOf_5 : decode cC_weightOf 5 = .ok (.iaload, 1) := by decide +kernel
theorem dC_weightOf_6 : decode cC_weightOf 6 = .ok (.i2l, 1) := by decide +kernel
theorem dC_weightOf_7 : decode cC_weightOf 7 = .ok (.bipush 18, 2) := by decide +kernel
theorem dC_weightOf_9 : decode cC_weightOf 9 = .ok (.lshl, 1) := by decide +kernel
theorem dC_weightOf_10 : decode cC_weightOf 10 = .ok (.ldc2_w 160, 3) := by decide +kernel
theorem dC_weightOf_13 : decode cC_weightOf 13 = .ok (.lor, 1) := by decide +kernel
theorem dC_weightOf_14 : decode cC_weightOf 14 = .ok (.lconst 1, 1) := by decide +kernel
theorem dC_weightOf_15 : decode cC_weightOf 15 = .ok (.iload_n 1, 1) := by decide +kernel
theorem dC_weightOf_16 : decode cC_weightOf 16 = .ok (.lshl, 1) := by decide +kernel
theorem dC_weightOf_17 : decode cC_weightOf 17 = .ok (.lor, 1) := by decide +kernel
theorem dC_weightOf_18 : decode cC_weightOf 18 = .ok (.lreturn, 1) := by decide +kernel
theorem dC_lightest_0 : decode cC_lightest 0 = .ok (.lload 4, 2) := by decide +kernel
theorem dC_lightest_2 : decode cC_lightest 2 = .ok (.lload 6, 2) := by decide +kernel
theorem dC_lightest_4 : decode cC_lightest 4 = .ok (.lcmp, 1) := by decide +kernel
theorem dC_lightest_5 : decode cC_lightest 5 = .ok (.ifCond .lt 6, 3) := by decide +kernel
theorem dC_lightest_8 : decode cC_lightest 8 = .ok (.lload 6, 2) := by decide +kernel
theorem dC_lightest_10 : decode cC_lightest 10 = .ok (.lreturn, 1) := by decide +kernel
theorem dC_lightest_11 : decode cC_lightest 11 = .ok (.lload_n 2, 1) := by decide +kernel
theorem dC_lightest_12 : decode cC_lightest 12 = .ok (.lconst 0, 1) := by decide +kernel
theorem dC_lightest_13 : decode cC_lightest 13 = .ok (.lcmp, 1) := by decide +kernel
theorem dC_lightest_14 : decode cC_lightest 14 = .ok (.ifCond .ne 6, 3) := by decide +kernel
theorem dC_lightest_17 : decode cC_lightest 17 = .ok (.lload 4, 2) := by decide +kernel
theorem dC_lightest_19 : decode cC_lightest 19 = .ok (.lreturn, 1) := by decide +kernel
theorem dC_lightest_20 : decode cC_lightest 20 = .ok (.iload_n 1, 1) := by decide +kernel
theorem dC_lightest_21 : decode cC_lightest 21 = .ok (.aload_n 0, 1) := by decide +kernel
theorem dC_lightest_22 : decode cC_lightest 22 = .ok (.getfield 157, 3) := by decide +kernel
theorem dC_lightest_25 : decode cC_lightest 25 = .ok (.if_icmp .ge 20, 3) := by decide +kernel
theorem dC_lightest_28 : decode cC_lightest 28 = .ok (.lload_n 2, 1) := by decide +kernel
theorem dC_lightest_29 : decode cC_lightest 29 = .ok (.aload_n 0, 1) := by decide +kernel
theorem dC_lightest_30 : decode cC_lightest 30 = .ok (.getfield 124, 3) := by decide +kernel
theorem dC_lightest_33 : decode cC_lightest 33 = .ok (.iload_n 1, 1) := by decide +kernel
theorem dC_lightest_34 : decode cC_lightest 34 = .ok (.laload, 1) := by decide +kernel
theorem dC_lightest_35 : decode cC_lightest 35 = .ok (.ldc2_w 112, 3) := by decide +kernel
theorem dC_lightest_38 : decode cC_lightest 38 = .ok (.lxor, 1) := by decide +kernel
theorem dC_lightest_39 : decode cC_lightest 39 = .ok (.land, 1) := by decide +kernel
theorem dC_lightest_40 : decode cC_lightest 40 = .ok (.lconst 0, 1) := by decide +kernel
theorem dC_lightest_41 : decode cC_lightest 41 = .ok (.lcmp, 1) := by decide +kernel
theorem dC_lightest_42 : decode cC_lightest 42 = .ok (.ifCond .eq 6, 3) := by decide +kernel
theorem dC_lightest_45 : decode cC_lightest 45 = .ok (.lload 6, 2) := by decide +kernel
theorem dC_lightest_47 : decode cC_lightest 47 = .ok (.lreturn, 1) := by decide +kernel
theorem dC_lightest_48 : decode cC_lightest 48 = .ok (.lload 6, 2) := by decide +kernel
theorem dC_lightest_50 : decode cC_lightest 50 = .ok (.lstore 8, 2) := by decide +kernel
theorem dC_lightest_52 : decode cC_lightest 52 = .ok (.lload_n 2, 1) := by decide +kernel
theorem dC_lightest_53 : decode cC_lightest 53 = .ok (.aload_n 0, 1) := by decide +kernel
theorem dC_lightest_54 : decode cC_lightest 54 = .ok (.getfield 148, 3) := by decide +kernel
theorem dC_lightest_57 : decode cC_lightest 57 = .ok (.iload_n 1, 1) := by decide +kernel
theorem dC_lightest_58 : decode cC_lightest 58 = .ok (.laload, 1) := by decide +kernel
theorem dC_lightest_59 : decode cC_lightest 59 = .ok (.land, 1) := by decide +kernel
theorem dC_lightest_60 : decode cC_lightest 60 = .ok (.lconst 0, 1) := by decide +kernel
theorem dC_lightest_61 : decode cC_lightest 61 = .ok (.lcmp, 1) := by decide +kernel
theorem dC_lightest_62 : decode cC_lightest 62 = .ok (.ifCond .eq 35, 3) := by decide +kernel
theorem dC_lightest_65 : decode cC_lightest 65 = .ok (.aload_n 0, 1) := by decide +kernel
theorem dC_lightest_66 : decode cC_lightest 66 = .ok (.iload_n 1, 1) := by decide +kernel
theorem dC_lightest_67 : decode cC_lightest 67 = .ok (.iconst 1, 1) := by decide +kernel
theorem dC_lightest_68 : decode cC_lightest 68 = .ok (.iadd, 1) := by decide +kernel
theorem dC_lightest_69 : decode cC_lightest 69 = .ok (.lload_n 2, 1) := by decide +kernel
theorem dC_lightest_70 : decode cC_lightest 70 = .ok (.aload_n 0, 1) := by decide +kernel
theorem dC_lightest_71 : decode cC_lightest 71 = .ok (.getfield 148, 3) := by decide +kernel
theorem dC_lightest_74 : decode cC_lightest 74 = .ok (.iload_n 1, 1) := by decide +kernel
theorem dC_lightest_75 : decode cC_lightest 75 = .ok (.laload, 1) := by decide +kernel
theorem dC_lightest_76 : decode cC_lightest 76 = .ok (.ldc2_w 112, 3) := by decide +kernel
theorem dC_lightest_79 : decode cC_lightest 79 = .ok (.lxor, 1) := by decide +kernel
theorem dC_lightest_80 : decode cC_lightest 80 = .ok (.land, 1) := by decide +kernel
theorem dC_lightest_81 : decode cC_lightest 81 = .ok (.lload 4, 2) := by decide +kernel
theorem dC_lightest_83 : decode cC_lightest 83 = .ok (.aload_n 0, 1) := by decide +kernel
theorem dC_lightest_84 : decode cC_lightest 84 = .ok (.getfield 151, 3) := by decide +kernel
theorem dC_lightest_87 : decode cC_lightest 87 = .ok (.iload_n 1, 1) := by decide +kernel
theorem dC_lightest_88 : decode cC_lightest 88 = .ok (.laload, 1) := by decide +kernel
theorem dC_lightest_89 : decode cC_lightest 89 = .ok (.ladd, 1) := by decide +kernel
theorem dC_lightest_90 : decode cC_lightest 90 = .ok (.lload 8, 2) := by decide +kernel
theorem dC_lightest_92 : decode cC_lightest 92 = .ok (.invokestatic 129, 3) := by decide +kernel
theorem dC_lightest_95 : decode cC_lightest 95 = .ok (.lstore 8, 2) := by decide +kernel
theorem dC_lightest_97 : decode cC_lightest 97 = .ok (.aload_n 0, 1) := by decide +kernel
theorem dC_lightest_98 : decode cC_lightest 98 = .ok (.iload_n 1, 1) := by decide +kernel
theorem dC_lightest_99 : decode cC_lightest 99 = .ok (.iconst 1, 1) := by decide +kernel
theorem dC_lightest_100 : decode cC_lightest 100 = .ok (.iadd, 1) := by decide +kernel
theorem dC_lightest_101 : decode cC_lightest 101 = .ok (.lload_n 2, 1) := by decide +kernel
theorem dC_lightest_102 : decode cC_lightest 102 = .ok (.lload 4, 2) := by decide +kernel
theorem dC_lightest_104 : decode cC_lightest 104 = .ok (.lload 8, 2) := by decide +kernel
theorem dC_lightest_106 : decode cC_lightest 106 = .ok (.invokestatic 129, 3) := by decide +kernel
theorem dC_lightest_109 : decode cC_lightest 109 = .ok (.lreturn, 1) := by decide +kernel
theorem dC_chosen_0 : decode cC_chosen 0 = .ok (.aload_n 0, 1) := by decide +kernel
theorem dC_chosen_1 : decode cC_chosen 1 = .ok (.getfield 57, 3) := by decide +kernel
theorem dC_chosen_4 : decode cC_chosen 4 = .ok (.ireturn, 1) := by decide +kernel
theorem dC_about_0 : decode cC_about 0 = .ok (.aload_n 0, 1) := by decide +kernel
theorem dC_about_1 : decode cC_about 1 = .ok (.iload_n 1, 1) := by decide +kernel
theorem dC_about_2 : decode cC_about 2 = .ok (.invokevirtual 76, 3) := by decide +kernel
theorem dC_about_5 : decode cC_about 5 = .ok (.ifCond .ne 5, 3) := by decide +kernel
theorem dC_about_8 : decode cC_about 8 = .ok (.iconst (-1), 1) := by decide +kernel
theorem dC_about_9 : decode cC_about 9 = .ok (.ireturn, 1) := by decide +kernel
theorem dC_about_10 : decode cC_about 10 = .ok (.iload_n 2, 1) := by decide +kernel
theorem dC_about_11 : decode cC_about 11 = .ok (.tableswitch 49 0 2 #[25, 32, 39], 25) := by decide +kernel
theorem dC_about_36 : decode cC_about 36 = .ok (.aload_n 0, 1) := by decide +kernel
theorem dC_about_37 : decode cC_about 37 = .ok (.getfield 34, 3) := by decide +kernel
theorem dC_about_40 : decode cC_about 40 = .ok (.iload_n 1, 1) := by decide +kernel
theorem dC_about_41 : decode cC_about 41 = .ok (.iaload, 1) := by decide +kernel
theorem dC_about_42 : decode cC_about 42 = .ok (.ireturn, 1) := by decide +kernel
theorem dC_about_43 : decode cC_about 43 = .ok (.aload_n 0, 1) := by decide +kernel
theorem dC_about_44 : decode cC_about 44 = .ok (.getfield 37, 3) := by decide +kernel
theorem dC_about_47 : decode cC_about 47 = .ok (.iload_n 1, 1) := by decide +kernel
theorem dC_about_48 : decode cC_about 48 = .ok (.iaload, 1) := by decide +kernel
theorem dC_about_49 : decode cC_about 49 = .ok (.ireturn, 1) := by decide +kernel
theorem dC_about_50 : decode cC_about 50 = .ok (.aload_n 0, 1) := by decide +kernel
theorem dC_about_51 : decode cC_about 51 = .ok (.getfield 40, 3) := by decide +kernel
theorem dC_about_54 : decode cC_about 54 = .ok (.iload_n 1, 1) := by decide +kernel
theorem dC_about_55 : decode cC_about 55 = .ok (.laload, 1) := by decide +kernel
theorem dC_about_56 : decode cC_about 56 = .ok (.invokestatic 114, 3) := by decide +kernel
theorem dC_about_59 : decode cC_about 59 = .ok (.ireturn, 1) := by decide +kernel
theorem dC_about_60 : decode cC_about 60 = .ok (.iconst (-1), 1) := by decide +kernel
theorem dC_about_61 : decode cC_about 61 = .ok (.ireturn, 1) := by decide +kernel
end
section
theorem dM_init_0 : decode cM_init 0 = .ok (.aload_n 0, 1) := by decide +kernel
theorem dM_init_1 : decode cM_init 1 = .ok (.invokespecial 1, 3) := by decide +kernel
theorem dM_init_4 : decode cM_init 4 = .ok (.aload_n 0, 1) := by decide +kernel
theorem dM_init_5 : decode cM_init 5 = .ok (.bipush 8, 2) := by decide +kernel
theorem dM_init_7 : decode cM_init 7 = .ok (.newarray .int, 2) := by decide +kernel
theorem dM_init_9 : decode cM_init 9 = .ok (.putfield 7, 3) := by decide +kernel
theorem dM_init_12 : decode cM_init 12 = .ok (.aload_n 0, 1) := by decide +kernel
theorem dM_init_13 : decode cM_init 13 = .ok (.sipush 320, 3) := by decide +kernel
theorem dM_init_16 : decode cM_init 16 = .ok (.newarray .int, 2) := by decide +kernel
theorem dM_init_18 : decode cM_init 18 = .ok (.putfield 13, 3) := by decide +kernel
theorem dM_init_21 : decode cM_init 21 = .ok (.aload_n 0, 1) := by decide +kernel
theorem dM_init_22 : decode cM_init 22 = .ok (.sipush 320, 3) := by decide +kernel
theorem dM_init_25 : decode cM_init 25 = .ok (.newarray .int, 2) := by decide +kernel
theorem dM_init_27 : decode cM_init 27 = .ok (.putfield 16, 3) := by decide +kernel
theorem dM_init_30 : decode cM_init 30 = .ok (.aload_n 0, 1) := by decide +kernel
theorem dM_init_31 : decode cM_init 31 = .ok (.sipush 320, 3) := by decide +kernel
theorem dM_init_34 : decode cM_init 34 = .ok (.newarray .boolean, 2) := by decide +kernel
theorem dM_init_36 : decode cM_init 36 = .ok (.putfield 19, 3) := by decide +kernel
theorem dM_init_39 : decode cM_init 39 = .ok (.aload_n 0, 1) := by decide +kernel
theorem dM_init_40 : decode cM_init 40 = .ok (.bipush 8, 2) := by decide +kernel
theorem dM_init_42 : decode cM_init 42 = .ok (.newarray .boolean, 2) := by decide +kernel
theorem dM_init_44 : decode cM_init 44 = .ok (.putfield 23, 3) := by decide +kernel
theorem dM_init_47 : decode cM_init 47 = .ok (.aload_n 0, 1) := by decide +kernel
theorem dM_init_48 : decode cM_init 48 = .ok (.bipush 14, 2) := by decide +kernel
theorem dM_init_50 : decode cM_init 50 = .ok (.newarray .int, 2) := by decide +kernel
theorem dM_init_52 : decode cM_init 52 = .ok (.putfield 26, 3) := by decide +kernel
theorem dM_init_55 : decode cM_init 55 = .ok (.aload_n 0, 1) := by decide +kernel
theorem dM_init_56 : decode cM_init 56 = .ok (.bipush 14, 2) := by decide +kernel
theorem dM_init_58 : decode cM_init 58 = .ok (.newarray .int, 2) := by decide +kernel
theorem dM_init_60 : decode cM_init 60 = .ok (.putfield 29, 3) := by decide +kernel
theorem dM_init_63 : decode cM_init 63 = .ok (.aload_n 0, 1) := by decide +kernel
theorem dM_init_64 : decode cM_init 64 = .ok (.bipush 14, 2) := by decide +kernel
theorem dM_init_66 : decode cM_init 66 = .ok (.newarray .long, 2) := by decide +kernel
theorem dM_init_68 : decode cM_init 68 = .ok (.putfield 32, 3) := by decide +kernel
theorem dM_init_71 : decode cM_init 71 = .ok (.aload_n 0, 1) := by decide +kernel
theorem dM_init_72 : decode cM_init 72 = .ok (.sipush 1681, 3) := by decide +kernel
theorem dM_init_75 : decode cM_init 75 = .ok (.newarray .int, 2) := by decide +kernel
theorem dM_init_77 : decode cM_init 77 = .ok (.putfield 36, 3) := by decide +kernel
theorem dM_init_80 : decode cM_init 80 = .ok (.aload_n 0, 1) := by decide +kernel
theorem dM_init_81 : decode cM_init 81 = .ok (.bipush 40, 2) := by decide +kernel
theorem dM_init_83 : decode cM_init 83 = .ok (.newarray .int, 2) := by decide +kernel
theorem dM_init_85 : decode cM_init 85 = .ok (.putfield 39, 3) := by decide +kernel
theorem dM_init_88 : decode cM_init 88 = .ok (.return_, 1) := by decide +kernel
theorem dM_edition_0 : decode cM_edition 0 = .ok (.aload_n 0, 1) := by decide +kernel
theorem dM_edition_1 : decode cM_edition 1 = .ok (.getfield 42, 3) := by decide +kernel
theorem dM_edition_4 : decode cM_edition 4 = .ok (.bipush 8, 2) := by decide +kernel
theorem dM_edition_6 : decode cM_edition 6 = .ok (.if_icmp .ne 5, 3) := by decide +kernel
theorem dM_edition_9 : decode cM_edition 9 = .ok (.iconst (-1), 1) := by decide +kernel
theorem dM_edition_10 : decode cM_edition 10 = .ok (.ireturn, 1) := by decide +kernel
theorem dM_edition_11 : decode cM_edition 11 = .ok (.aload_n 0, 1) := by decide +kernel
theorem dM_edition_12 : decode cM_edition 12 = .ok (.dup, 1) := by decide +kernel
theorem dM_edition_13 : decode cM_edition 13 = .ok (.getfield 42, 3) := by decide +kernel
theorem dM_edition_16 : decode cM_edition 16 = .ok (.iconst 1, 1) := by decide +kernel
theorem dM_edition_17 : decode cM_edition 17 = .ok (.iadd, 1) := by decide +kernel
theorem dM_edition_18 : decode cM_edition 18 = .ok (.putfield 42, 3) := by decide +kernel
theorem dM_edition_21 : decode cM_edition 21 = .ok (.aload_n 0, 1) := by decide +kernel
theorem dM_edition_22 : decode cM_edition 22 = .ok (.getfield 42, 3) := by decide +kernel
theorem dM_edition_25 : decode cM_edition 25 = .ok (.iconst 1, 1) := by decide +kernel
theorem dM_edition_26 : decode cM_edition 26 = .ok (.isub, 1) := by decide +kernel
theorem dM_edition_27 : decode cM_edition 27 = .ok (.ireturn, 1) := by decide +kernel
theorem dM_line_0 : decode cM_line 0 = .ok (.iload_n 1, 1) := by decide +kernel
theorem dM_line_1 : decode cM_line 1 = .ok (.aload_n 0, 1) := by decide +kernel
theorem dM_line_2 : decode cM_line 2 = .ok (.getfield 42, 3) := by decide +kernel
theorem dM_line_5 : decode cM_line 5 = .ok (.invokestatic 46, 3) := by decide +kernel
theorem dM_line_8 : decode cM_line 8 = .ok (.ifCond .eq 31, 3) := by decide +kernel
theorem dM_line_11 : decode cM_line 11 = .ok (.iload_n 3, 1) := by decide +kernel
theorem dM_line_12 : decode cM_line 12 = .ok (.iconst 4, 1) := by decide +kernel
theorem dM_line_13 : decode cM_line 13 = .ok (.invokestatic 46, 3) := by decide +kernel
theorem dM_line_16 : decode cM_line 16 = .ok (.ifCond .eq 23, 3) := by decide +kernel
theorem dM_line_19 : decode cM_line 19 = .ok (.aload_n 0, 1) := by decide +kernel
theorem dM_line_20 : decode cM_line 20 = .ok (.getfield 23, 3) := by decide +kernel
theorem dM_line_23 : decode cM_line 23 = .ok (.iload_n 1, 1) := by decide +kernel
theorem dM_line_24 : decode cM_line 24 = .ok (.baload, 1) := by decide +kernel
theorem dM_line_25 : decode cM_line 25 = .ok (.ifCond .ne 14, 3) := by decide +kernel
theorem dM_line_28 : decode cM_line 28 = .ok (.aload_n 0, 1) := by decide +kernel
theorem dM_line_29 : decode cM_line 29 = .ok (.getfield 7, 3) := by decide +kernel
theorem dM_line_32 : decode cM_line 32 = .ok (.iload_n 1, 1) := by decide +kernel
theorem dM_line_33 : decode cM_line 33 = .ok (.iaload, 1) := by decide +kernel
theorem dM_line_34 : decode cM_line 34 = .ok (.bipush 40, 2) := by decide +kernel
theorem dM_line_36 : decode cM_line 36 = .ok (.if_icmp .ne 5, 3) := by decide +kernel
theorem dM_line_39 : decode cM_line 39 = .ok (.iconst (-1), 1) := by decide +kernel
theorem dM_line_40 : decode cM_line 40 = .ok (.ireturn, 1) := by decide +kernel
theorem dM_line_41 : decode cM_line 41 = .ok (.bipush 40, 2) := by decide +kernel
theorem dM_line_43 : decode cM_line 43 = .ok (.iload_n 1, 1) := by decide +kernel
theorem dM_line_44 : decode cM_line 44 = .ok (.imul, 1) := by decide +kernel
theorem dM_line_45 : decode cM_line 45 = .ok (.aload_n 0, 1) := by decide +kernel
theorem dM_line_46 : decode cM_line 46 = .ok (.getfield 7, 3) := by decide +kernel
theorem dM_line_49 : decode cM_line 49 = .ok (.iload_n 1, 1) := by decide +kernel
theorem dM_line_50 : decode cM_line 50 = .ok (.iaload, 1) := by decide +kernel
theorem dM_line_51 : decode cM_line 51 = .ok (.iadd, 1) := by decide +kernel
theorem dM_line_52 : decode cM_line 52 = .ok (.istore 5, 2) := by decide +kernel
theorem dM_line_54 : decode cM_line 54 = .ok (.aload_n 0, 1) := by decide +kernel
theorem dM_line_55 : decode cM_line 55 = .ok (.getfield 13, 3) := by decide +kernel
theorem dM_line_58 : decode cM_line 58 = .ok (.iload 5, 2) := by decide +kernel
theorem dM_line_60 : decode cM_line 60 = .ok (.iload_n 2, 1) := by decide +kernel
theorem dM_line_61 : decode cM_line 61 = .ok (.iastore, 1) := by decide +kernel
theorem dM_line_62 : decode cM_line 62 = .ok (.aload_n 0, 1) := by decide +kernel
theorem dM_line_63 : decode cM_line 63 = .ok (.getfield 16, 3) := by decide +kernel
theorem dM_line_66 : decode cM_line 66 = .ok (.iload 5, 2) := by decide +kernel
theorem dM_line_68 : decode cM_line 68 = .ok (.iload_n 3, 1) := by decide +kernel
theorem dM_line_69 : decode cM_line 69 = .ok (.iastore, 1) := by decide +kernel
theorem dM_line_70 : decode cM_line 70 = .ok (.aload_n 0, 1) := by decide +kernel
theorem dM_line_71 : decode cM_line 71 = .ok (.getfield 19, 3) := by decide +kernel
theorem dM_line_74 : decode cM_line 74 = .ok (.iload 5, 2) := by decide +kernel
theorem dM_line_76 : decode cM_line 76 = .ok (.iload 4, 2) := by decide +kernel
theorem dM_line_78 : decode cM_line 78 = .ok (.bastore, 1) := by decide +kernel
theorem dM_line_79 : decode cM_line 79 = .ok (.aload_n 0, 1) := by decide +kernel
theorem dM_line_80 : decode cM_line 80 = .ok (.getfield 7, 3) := by decide +kernel
theorem dM_line_83 : decode cM_line 83 = .ok (.iload_n 1, 1) := by decide +kernel
theorem dM_line_84 : decode cM_line 84 = .ok (.dup2, 1) := by decide +kernel
theorem dM_line_85 : decode cM_line 85 = .ok (.iaload, 1) := by decide +kernel
theorem dM_line_86 : decode cM_line 86 = .ok (.iconst 1, 1) := by decide +kernel
theorem dM_line_87 : decode cM_line 87 = .ok (.iadd, 1) := by decide +kernel
theorem dM_line_88 : decode cM_line 88 = .ok (.iastore, 1) := by decide +kernel
theorem dM_line_89 : decode cM_line 89 = .ok (.aload_n 0, 1) := by decide +kernel
theorem dM_line_90 : decode cM_line 90 = .ok (.getfield 7, 3) := by decide +kernel
theorem dM_line_93 : decode cM_line 93 = .ok (.iload_n 1, 1) := by decide +kernel
theorem dM_line_94 : decode cM_line 94 = .ok (.iaload, 1) := by decide +kernel
theorem dM_line_95 : decode cM_line 95 = .ok (.iconst 1, 1) := by decide +kernel
theorem dM_line_96 : decode cM_line 96 = .ok (.isub, 1) := by decide +kernel
theorem dM_line_97 : decode cM_line 97 = .ok (.ireturn, 1) := by decide +kernel
theorem dM_in_0 : decode cM_in 0 = .ok (.iload_n 0, 1) := by decide +kernel
theorem dM_in_1 : decode cM_in 1 = .ok (.ifCond .lt 12, 3) := by decide +kernel
theorem dM_in_4 : decode cM_in 4 = .ok (.iload_n 0, 1) := by decide +kernel
theorem dM_in_5 : decode cM_in 5 = .ok (.iload_n 1, 1) := by decide +kernel
theorem dM_in_6 : decode cM_in 6 = .ok (.if_icmp .ge 7, 3) := by decide +kernel
theorem dM_in_9 : decode cM_in 9 = .ok (.iconst 1, 1) := by decide +kernel
theorem dM_in_10 : decode cM_in 10 = .ok (.goto 4, 3) := by decide +kernel
theorem dM_in_13 : decode cM_in 13 = .ok (.iconst 0, 1) := by decide +kernel
theorem dM_in_14 : decode cM_in 14 = .ok (.ireturn, 1) := by decide +kernel
theorem dM_lines_0 : decode cM_lines 0 = .ok (.iload_n 1, 1) := by decide +kernel
theorem dM_lines_1 : decode cM_lines 1 = .ok (.aload_n 0, 1) := by decide +kernel
theorem dM_lines_2 : decode cM_lines 2 = .ok (.getfield 42, 3) := by decide +kernel
theorem dM_lines_5 : decode cM_lines 5 = .ok (.invokestatic 46, 3) := by decide +kernel
theorem dM_lines_8 : decode cM_lines 8 = .ok (.ifCond .eq 12, 3) := by decide +kernel
theorem dM_lines_11 : decode cM_lines 11 = .ok (.aload_n 0, 1) := by decide +kernel
theorem dM_lines_12 : decode cM_lines 12 = .ok (.getfield 7, 3) := by decide +kernel
theorem dM_lines_15 : decode cM_lines 15 = .ok (.iload_n 1, 1) := by decide +kernel
theorem dM_lines_16 : decode cM_lines 16 = .ok (.iaload, 1) := by decide +kernel
theorem dM_lines_17 : decode cM_lines 17 = .ok (.goto 4, 3) := by decide +kernel
theorem dM_lines_20 : decode cM_lines 20 = .ok (.iconst (-1), 1) := by decide +kernel
theorem dM_lines_21 : decode cM_lines 21 = .ok (.ireturn, 1) := by decide +kernel
theorem dM_run_0 : decode cM_run 0 = .ok (.aload_n 0, 1) := by decide +kernel
theorem dM_run_1 : decode cM_run 1 = .ok (.getfield 50, 3) := by decide +kernel
theorem dM_run_4 : decode cM_run 4 = .ok (.bipush 14, 2) := by decide +kernel
theorem dM_run_6 : decode cM_run 6 = .ok (.if_icmp .eq 24, 3) := by decide +kernel
theorem dM_run_9 : decode cM_run 9 = .ok (.iload_n 1, 1) := by decide +kernel
theorem dM_run_10 : decode cM_run 10 = .ok (.aload_n 0, 1) := by decide +kernel
theorem dM_run_11 : decode cM_run 11 = .ok (.getfield 42, 3) := by decide +kernel
theorem dM_run_14 : decode cM_run 14 = .ok (.invokestatic 46, 3) := by decide +kernel
theorem dM_run_17 : decode cM_run 17 = .ok (.ifCond .eq 13, 3) := by decide +kernel
theorem dM_run_20 : decode cM_run 20 = .ok (.iload_n 2, 1) := by decide +kernel
theorem dM_run_21 : decode cM_run 21 = .ok (.ifCond .lt 9, 3) := by decide +kernel
theorem dM_run_24 : decode cM_run 24 = .ok (.iload_n 2, 1) := by decide +kernel
theorem dM_run_25 : decode cM_run 25 = .ok (.ldc 53, 2) := by decide +kernel
theorem dM_run_27 : decode cM_run 27 = .ok (.if_icmp .le 5, 3) := by decide +kernel
theorem dM_run_30 : decode cM_run 30 = .ok (.iconst (-1), 1) := by decide +kernel
theorem dM_run_31 : decode cM_run 31 = .ok (.ireturn, 1) := by decide +kernel
theorem dM_run_32 : decode cM_run 32 = .ok (.aload_n 0, 1) := by decide +kernel
theorem dM_run_33 : decode cM_run 33 = .ok (.iload_n 1, 1) := by decide +kernel
theorem dM_run_34 : decode cM_run 34 = .ok (.iload_n 2, 1) := by decide +kernel
theorem dM_run_35 : decode cM_run 35 = .ok (.lconst 0, 1) := by decide +kernel
theorem dM_run_36 : decode cM_run 36 = .ok (.invokevirtual 54, 3) := by decide +kernel
theorem dM_run_39 : decode cM_run 39 = .ok (.ireturn, 1) := by decide +kernel
theorem dM_newRun_0 : decode cM_newRun 0 = .ok (.aload_n 0, 1) := by decide +kernel
theorem dM_newRun_1 : decode cM_newRun 1 = .ok (.getfield 26, 3) := by decide +kernel
theorem dM_newRun_4 : decode cM_newRun 4 = .ok (.aload_n 0, 1) := by decide +kernel
theorem dM_newRun_5 : decode cM_newRun 5 = .ok (.getfield 50, 3) := by decide +kernel
theorem dM_newRun_8 : decode cM_newRun 8 = .ok (.iload_n 1, 1) := by decide +kernel
theorem dM_newRun_9 : decode cM_newRun 9 = .ok (.iastore, 1) := by decide +kernel
theorem dM_newRun_10 : decode cM_newRun 10 = .ok (.aload_n 0, 1) := by decide +kernel
theorem dM_newRun_11 : decode cM_newRun 11 = .ok (.getfield 29, 3) := by decide +kernel
theorem dM_newRun_14 : decode cM_newRun 14 = .ok (.aload_n 0, 1) := by decide +kernel
theorem dM_newRun_15 : decode cM_newRun 15 = .ok (.getfield 50, 3) := by decide +kernel
theorem dM_newRun_18 : decode cM_newRun 18 = .ok (.iload_n 2, 1) := by decide +kernel
theorem dM_newRun_19 : decode cM_newRun 19 = .ok (.iastore, 1) := by decide +kernel
theorem dM_newRun_20 : decode cM_newRun 20 = .ok (.aload_n 0, 1) := by decide +kernel
theorem dM_newRun_21 : decode cM_newRun 21 = .ok (.getfield 32, 3) := by decide +kernel
theorem dM_newRun_24 : decode cM_newRun 24 = .ok (.aload_n 0, 1) := by decide +kernel
theorem dM_newRun_25 : decode cM_newRun 25 = .ok (.getfield 50, 3) := by decide +kernel
theorem dM_newRun_28 : decode cM_newRun 28 = .ok (.lload_n 3, 1) := by decide +kernel
theorem dM_newRun_29 : decode cM_newRun 29 = .ok (.lastore, 1) := by decide +kernel
theorem dM_newRun_30 : decode cM_newRun 30 = .ok (.aload_n 0, 1) := by decide +kernel
theorem dM_newRun_31 : decode cM_newRun 31 = .ok (.getfield 23, 3) := by decide +kernel
theorem dM_newRun_34 : decode cM_newRun 34 = .ok (.iload_n 1, 1) := by decide +kernel
theorem dM_newRun_35 : decode cM_newRun 35 = .ok (.iconst 1, 1) := by decide +kernel
theorem dM_newRun_36 : decode cM_newRun 36 = .ok (.bastore, 1) := by decide +kernel
theorem dM_newRun_37 : decode cM_newRun 37 = .ok (.aload_n 0, 1) := by decide +kernel
theorem dM_newRun_38 : decode cM_newRun 38 = .ok (.dup, 1) := by decide +kernel
theorem dM_newRun_39 : decode cM_newRun 39 = .ok (.getfield 50, 3) := by decide +kernel
theorem dM_newRun_42 : decode cM_newRun 42 = .ok (.iconst 1, 1) := by decide +kernel
theorem dM_newRun_43 : decode cM_newRun 43 = .ok (.iadd, 1) := by decide +kernel
theorem dM_newRun_44 : decode cM_newRun 44 = .ok (.putfield 50, 3) := by decide +kernel
theorem dM_newRun_47 : decode cM_newRun 47 = .ok (.aload_n 0, 1) := by decide +kernel
theorem dM_newRun_48 : decode cM_newRun 48 = .ok (.getfield 50, 3) := by decide +kernel
theorem dM_newRun_51 : decode cM_newRun 51 = .ok (.iconst 1, 1) := by decide +kernel
theorem dM_newRun_52 : decode cM_newRun 52 = .ok (.isub, 1) := by decide +kernel
theorem dM_newRun_53 : decode cM_newRun 53 = .ok (.ireturn, 1) := by decide +kernel
theorem dM_hit_0 : decode cM_hit 0 = .ok (.aload_n 0, 1) := by decide +kernel
theorem dM_hit_1 : decode cM_hit 1 = .ok (.iload_n 1, 1) := by decide +kernel
theorem dM_hit_2 : decode cM_hit 2 = .ok (.iload_n 2, 1) := by decide +kernel
theorem dM_hit_3 : decode cM_hit 3 = .ok (.invokevirtual 58, 3) := by decide +kernel
theorem dM_hit_6 : decode cM_hit 6 = .ok (.ifCond .eq 12, 3) := by decide +kernel
theorem dM_hit_9 : decode cM_hit 9 = .ok (.aload_n 0, 1) := by decide +kernel
theorem dM_hit_10 : decode cM_hit 10 = .ok (.iload_n 1, 1) := by decide +kernel
theorem dM_hit_11 : decode cM_hit 11 = .ok (.iload_n 2, 1) := by decide +kernel
theorem dM_hit_12 : decode cM_hit 12 = .ok (.invokevirtual 61, 3) := by decide +kernel
theorem dM_hit_15 : decode cM_hit 15 = .ok (.ifCond .eq 5, 3) := by decide +kernel
theorem dM_hit_18 : decode cM_hit 18 = .ok (.iconst 0, 1) := by decide +kernel
theorem dM_hit_19 : decode cM_hit 19 = .ok (.ireturn, 1) := by decide +kernel
theorem dM_hit_20 : decode cM_hit 20 = .ok (.aload_n 0, 1) := by decide +kernel
theorem dM_hit_21 : decode cM_hit 21 = .ok (.getfield 32, 3) := by decide +kernel
theorem dM_hit_24 : decode cM_hit 24 = .ok (.iload_n 1, 1) := by decide +kernel
theorem dM_hit_25 : decode cM_hit 25 = .ok (.dup2, 1) := by decide +kernel
theorem dM_hit_26 : decode cM_hit 26 = .ok (.laload, 1) := by decide +kernel
theorem dM_hit_27 : decode cM_hit 27 = .ok (.lconst 1, 1) := by decide +kernel
theorem dM_hit_28 : decode cM_hit 28 = .ok (.iload_n 2, 1) := by decide +kernel
theorem dM_hit_29 : decode cM_hit 29 = .ok (.lshl, 1) := by decide +kernel
theorem dM_hit_30 : decode cM_hit 30 = .ok (.lor, 1) := by decide +kernel
theorem dM_hit_31 : decode cM_hit 31 = .ok (.lastore, 1) := by decide +kernel
theorem dM_hit_32 : decode cM_hit 32 = .ok (.iconst 1, 1) := by decide +kernel
theorem dM_hit_33 : decode cM_hit 33 = .ok (.ireturn, 1) := by decide +kernel
theorem dM_isLine_0 : decode cM_isLine 0 = .ok (.iload_n 1, 1) := by decide +kernel
theorem dM_isLine_1 : decode cM_isLine 1 = .ok (.aload_n 0, 1) := by decide +kernel
theorem dM_isLine_2 : decode cM_isLine 2 = .ok (.getfield 50, 3) := by decide +kernel
theorem dM_isLine_5 : decode cM_isLine 5 = .ok (.invokestatic 46, 3) := by decide +kernel
theorem dM_isLine_8 : decode cM_isLine 8 = .ok (.ifCond .eq 25, 3) := by decide +kernel
theorem dM_isLine_11 : decode cM_isLine 11 = .ok (.iload_n 2, 1) := by decide +kernel
theorem dM_isLine_12 : decode cM_isLine 12 = .ok (.aload_n 0, 1) := by decide +kernel
theorem dM_isLine_13 : decode cM_isLine 13 = .ok (.getfield 7, 3) := by decide +kernel
theorem dM_isLine_16 : decode cM_isLine 16 = .ok (.aload_n 0, 1) := by decide +kernel
theorem dM_isLine_17 : decode cM_isLine 17 = .ok (.getfield 26, 3) := by decide +kernel
theorem dM_isLine_20 : decode cM_isLine 20 = .ok (.iload_n 1, 1) := by decide +kernel
theorem dM_isLine_21 : decode cM_isLine 21 = .ok (.iaload, 1) := by decide +kernel
theorem dM_isLine_22 : decode cM_isLine 22 = .ok (.iaload, 1) := by decide +kernel
theorem dM_isLine_23 : decode cM_isLine 23 = .ok (.invokestatic 46, 3) := by decide +kernel
theorem dM_isLine_26 : decode cM_isLine 26 = .ok (.ifCond .eq 7, 3) := by decide +kernel
theorem dM_isLine_29 : decode cM_isLine 29 = .ok (.iconst 1, 1) := by decide +kernel
theorem dM_isLine_30 : decode cM_isLine 30 = .ok (.goto 4, 3) := by decide +kernel
theorem dM_isLine_33 : decode cM_isLine 33 = .ok (.iconst 0, 1) := by decide +kernel
theorem dM_isLine_34 : decode cM_isLine 34 = .ok (.ireturn, 1) := by decide +kernel
theorem dM_isHit_0 : decode cM_isHit 0 = .ok (.aload_n 0, 1) := by decide +kernel
theorem dM_isHit_1 : decode cM_isHit 1 = .ok (.getfield 32, 3) := by decide +kernel
theorem dM_isHit_4 : decode cM_isHit 4 = .ok (.iload_n 1, 1) := by decide +kernel
theorem dM_isHit_5 : decode cM_isHit 5 = .ok (.laload, 1) := by decide +kernel
theorem dM_isHit_6 : decode cM_isHit 6 = .ok (.iload_n 2, 1) := by decide +kernel
theorem dM_isHit_7 : decode cM_isHit 7 = .ok (.lshr, 1) := by decide +kernel
theorem dM_isHit_8 : decode cM_isHit 8 = .ok (.lconst 1, 1) := by decide +kernel
theorem dM_isHit_9 : decode cM_isHit 9 = .ok (.land, 1) := by decide +kernel
theorem dM_isHit_10 : decode cM_isHit 10 = .ok (.lconst 1, 1) := by decide +kernel
theorem dM_isHit_11 : decode cM_isHit 11 = .ok (.lcmp, 1) := by decide +kernel
theorem dM_isHit_12 : decode cM_isHit 12 = .ok (.ifCond .ne 7, 3) := by decide +kernel
theorem dM_isHit_15 : decode cM_isHit 15 = .ok (.iconst 1, 1) := by decide +kernel
theorem dM_isHit_16 : decode cM_isHit 16 = .ok (.goto 4, 3) := by decide +kernel
theorem dM_isHit_19 : decode cM_isHit 19 = .ok (.iconst 0, 1) := by decide +kernel
theorem dM_isHit_20 : decode cM_isHit 20 = .ok (.ireturn, 1) := by decide +kernel
theorem dM_covered_0 : decode cM_covered 0 = .ok (.aload_n 0, 1) := by decide +kernel
theorem dM_covered_1 : decode cM_covered 1 = .ok (.iload_n 1, 1) := by decide +kernel
theorem dM_covered_2 : decode cM_covered 2 = .ok (.iload_n 2, 1) := by decide +kernel
theorem dM_covered_3 : decode cM_covered 3 = .ok (.invokevirtual 58, 3) := by decide +kernel
theorem dM_covered_6 : decode cM_covered 6 = .ok (.ifCond .eq 16, 3) := by decide +kernel
theorem dM_covered_9 : decode cM_covered 9 = .ok (.aload_n 0, 1) := by decide +kernel
theorem dM_covered_10 : decode cM_covered 10 = .ok (.iload_n 1, 1) := by decide +kernel
theorem dM_covered_11 : decode cM_covered 11 = .ok (.iload_n 2, 1) := by decide +kernel
theorem dM_covered_12 : decode cM_covered 12 = .ok (.invokevirtual 61, 3) := by decide +kernel
theorem dM_covered_15 : decode cM_covered 15 = .ok (.ifCond .eq 7, 3) := by decide +kernel
theorem dM_covered_18 : decode cM_covered 18 = .ok (.iconst 1, 1) := by decide +kernel
theorem dM_covered_19 : decode cM_covered 19 = .ok (.goto 4, 3) := by decide +kernel
theorem dM_covered_22 : decode cM_covered 22 = .ok (.iconst 0, 1) := by decide +kernel
theorem dM_covered_23 : decode cM_covered 23 = .ok (.ireturn, 1) := by decide +kernel
theorem dM_same_0 : decode cM_same 0 = .ok (.iload_n 1, 1) := by decide +kernel
theorem dM_same_1 : decode cM_same 1 = .ok (.aload_n 0, 1) := by decide +kernel
theorem dM_same_2 : decode cM_same 2 = .ok (.getfield 42, 3) := by decide +kernel
theorem dM_same_5 : decode cM_same 5 = .ok (.invokestatic 46, 3) := by decide +kernel
theorem dM_same_8 : decode cM_same 8 = .ok (.ifCond .eq 27, 3) := by decide +kernel
theorem dM_same_11 : decode cM_same 11 = .ok (.iload_n 2, 1) := by decide +kernel
theorem dM_same_12 : decode cM_same 12 = .ok (.aload_n 0, 1) := by decide +kernel
theorem dM_same_13 : decode cM_same 13 = .ok (.getfield 42, 3) := by decide +kernel
theorem dM_same_16 : decode cM_same 16 = .ok (.invokestatic 46, 3) := by decide +kernel
theorem dM_same_19 : decode cM_same 19 = .ok (.ifCond .eq 16, 3) := by decide +kernel
theorem dM_same_22 : decode cM_same 22 = .ok (.iload_n 3, 1) := by decide +kernel
theorem dM_same_23 : decode cM_same 23 = .ok (.aload_n 0, 1) := by decide +kernel
theorem dM_same_24 : decode cM_same 24 = .ok (.getfield 7, 3) := by decide +kernel
theorem dM_same_27 : decode cM_same 27 = .ok (.iload_n 1, 1) := by decide +kernel
theorem dM_same_28 : decode cM_same 28 = .ok (.iaload, 1) := by decide +kernel
theorem dM_same_29 : decode cM_same 29 = .ok (.invokestatic 46, 3) := by decide +kernel
theorem dM_same_32 : decode cM_same 32 = .ok (.ifCond .ne 5, 3) := by decide +kernel
theorem dM_same_35 : decode cM_same 35 = .ok (.iconst (-1), 1) := by decide +kernel
theorem dM_same_36 : decode cM_same 36 = .ok (.ireturn, 1) := by decide +kernel
theorem dM_same_37 : decode cM_same 37 = .ok (.aload_n 0, 1) := by decide +kernel
theorem dM_same_38 : decode cM_same 38 = .ok (.iload_n 1, 1) := by decide +kernel
theorem dM_same_39 : decode cM_same 39 = .ok (.iload_n 2, 1) := by decide +kernel
theorem dM_same_40 : decode cM_same 40 = .ok (.invokevirtual 68, 3) := by decide +kernel
theorem dM_same_43 : decode cM_same 43 = .ok (.aload_n 0, 1) := by decide +kernel
theorem dM_same_44 : decode cM_same 44 = .ok (.getfield 39, 3) := by decide +kernel
theorem dM_same_47 : decode cM_same 47 = .ok (.iload_n 3, 1) := by decide +kernel
theorem dM_same_48 : decode cM_same 48 = .ok (.iaload, 1) := by decide +kernel
theorem dM_same_49 : decode cM_same 49 = .ok (.ireturn, 1) := by decide +kernel
theorem dM_compare_0 : decode cM_compare 0 = .ok (.aload_n 0, 1) := by decide +kernel
theorem dM_compare_1 : decode cM_compare 1 = .ok (.getfield 23, 3) := by decide +kernel
theorem dM_compare_4 : decode cM_compare 4 = .ok (.iload_n 1, 1) := by decide +kernel
theorem dM_compare_5 : decode cM_compare 5 = .ok (.iconst 1, 1) := by decide +kernel
theorem dM_compare_6 : decode cM_compare 6 = .ok (.bastore, 1) := by decide +kernel
theorem dM_compare_7 : decode cM_compare 7 = .ok (.aload_n 0, 1) := by decide +kernel
theorem dM_compare_8 : decode cM_compare 8 = .ok (.getfield 23, 3) := by decide +kernel
theorem dM_compare_11 : decode cM_compare 11 = .ok (.iload_n 2, 1) := by decide +kernel
theorem dM_compare_12 : decode cM_compare 12 = .ok (.iconst 1, 1) := by decide +kernel
theorem dM_compare_13 : decode cM_compare 13 = .ok (.bastore, 1) := by decide +kernel
theorem dM_compare_14 : decode cM_compare 14 = .ok (.aload_n 0, 1) := by decide +kernel
theorem dM_compare_15 : decode cM_compare 15 = .ok (.getfield 7, 3) := by decide +kernel
theorem dM_compare_18 : decode cM_compare 18 = .ok (.iload_n 1, 1) := by decide +kernel
theorem dM_compare_19 : decode cM_compare 19 = .ok (.iaload, 1) := by decide +kernel
theorem dM_compare_20 : decode cM_compare 20 = .ok (.istore_n 3, 1) := by decide +kernel
theorem dM_compare_21 : decode cM_compare 21 = .ok (.aload_n 0, 1) := by decide +kernel
theorem dM_compare_22 : decode cM_compare 22 = .ok (.getfield 7, 3) := by decide +kernel
theorem dM_compare_25 : decode cM_compare 25 = .ok (.iload_n 2, 1) := by decide +kernel
theorem dM_compare_26 : decode cM_compare 26 = .ok (.iaload, 1) := by decide +kernel
theorem dM_compare_27 : decode cM_compare 27 = .ok (.istore 4, 2) := by decide +kernel
theorem dM_compare_29 : decode cM_compare 29 = .ok (.iload_n 3, 1) := by decide +kernel
theorem dM_compare_30 : decode cM_compare 30 = .ok (.istore 5, 2) := by decide +kernel
theorem dM_compare_32 : decode cM_compare 32 = .ok (.iload 5, 2) := by decide +kernel
theorem dM_compare_34 : decode cM_compare 34 = .ok (.ifCond .lt 159, 3) := by decide +kernel
theorem dM_compare_37 : decode cM_compare 37 = .ok (.iload 4, 2) := by decide +kernel
theorem dM_compare_39 : decode cM_compare 39 = .ok (.istore 6, 2) := by decide +kernel
theorem dM_compare_41 : decode cM_compare 41 = .ok (.iload 6, 2) := by decide +kernel
theorem dM_compare_43 : decode cM_compare 43 = .ok (.ifCond .lt 144, 3) := by decide +kernel
theorem dM_compare_46 : decode cM_compare 46 = .ok (.iconst 0, 1) := by decide +kernel
theorem dM_compare_47 : decode cM_compare 47 = .ok (.istore 7, 2) := by decide +kernel
theorem dM_compare_49 : decode cM_compare 49 = .ok (.iload 5, 2) := by decide +kernel
theorem dM_compare_51 : decode cM_compare 51 = .ok (.iload_n 3, 1) := by decide +kernel
theorem dM_compare_52 : decode cM_compare 52 = .ok (.if_icmp .ge 114, 3) := by decide +kernel
theorem dM_compare_55 : decode cM_compare 55 = .ok (.iload 6, 2) := by decide +kernel
theorem dM_compare_57 : decode cM_compare 57 = .ok (.iload 4, 2) := by decide +kernel
theorem dM_compare_59 : decode cM_compare 59 = .ok (.if_icmp .ge 107, 3) := by decide +kernel
theorem dM_compare_62 : decode cM_compare 62 = .ok (.aload_n 0, 1) := by decide +kernel
theorem dM_compare_63 : decode cM_compare 63 = .ok (.getfield 36, 3) := by decide +kernel
theorem dM_compare_66 : decode cM_compare 66 = .ok (.bipush 41, 2) := by decide +kernel
theorem dM_compare_68 : decode cM_compare 68 = .ok (.iload 5, 2) := by decide +kernel
theorem dM_compare_70 : decode cM_compare 70 = .ok (.iconst 1, 1) := by decide +kernel
theorem dM_compare_71 : decode cM_compare 71 = .ok (.iadd, 1) := by decide +kernel
theorem dM_compare_72 : decode cM_compare 72 = .ok (.imul, 1) := by decide +kernel
theorem dM_compare_73 : decode cM_compare 73 = .ok (.iload 6, 2) := by decide +kernel
theorem dM_compare_75 : decode cM_compare 75 = .ok (.iadd, 1) := by decide +kernel
theorem dM_compare_76 : decode cM_compare 76 = .ok (.iaload, 1) := by decide +kernel
theorem dM_compare_77 : decode cM_compare 77 = .ok (.istore 8, 2) := by decide +kernel
theorem dM_compare_79 : decode cM_compare 79 = .ok (.aload_n 0, 1) := by decide +kernel
theorem dM_compare_80 : decode cM_compare 80 = .ok (.getfield 36, 3) := by decide +kernel
theorem dM_compare_83 : decode cM_compare 83 = .ok (.bipush 41, 2) := by decide +kernel
theorem dM_compare_85 : decode cM_compare 85 = .ok (.iload 5, 2) := by decide +kernel
theorem dM_compare_87 : decode cM_compare 87 = .ok (.imul, 1) := by decide +kernel
theorem dM_compare_88 : decode cM_compare 88 = .ok (.iload 6, 2) := by decide +kernel
theorem dM_compare_90 : decode cM_compare 90 = .ok (.iadd, 1) := by decide +kernel
theorem dM_compare_91 : decode cM_compare 91 = .ok (.iconst 1, 1) := by decide +kernel
theorem dM_compare_92 : decode cM_compare 92 = .ok (.iadd, 1) := by decide +kernel
theorem dM_compare_93 : decode cM_compare 93 = .ok (.iaload, 1) := by decide +kernel
theorem dM_compare_94 : decode cM_compare 94 = .ok (.istore 9, 2) := by decide +kernel
theorem dM_compare_96 : decode cM_compare 96 = .ok (.aload_n 0, 1) := by decide +kernel
theorem dM_compare_97 : decode cM_compare 97 = .ok (.iload_n 1, 1) := by decide +kernel
theorem dM_compare_98 : decode cM_compare 98 = .ok (.iload 5, 2) := by decide +kernel
theorem dM_compare_100 : decode cM_compare 100 = .ok (.iload_n 2, 1) := by decide +kernel
theorem dM_compare_101 : decode cM_compare 101 = .ok (.iload 6, 2) := by decide +kernel
theorem dM_compare_103 : decode cM_compare 103 = .ok (.invokevirtual 64, 3) := by decide +kernel
theorem dM_compare_106 : decode cM_compare 106 = .ok (.ifCond .eq 25, 3) := by decide +kernel
theorem dM_compare_109 : decode cM_compare 109 = .ok (.aload_n 0, 1) := by decide +kernel
theorem dM_compare_110 : decode cM_compare 110 = .ok (.getfield 36, 3) := by decide +kernel
theorem dM_compare_113 : decode cM_compare 113 = .ok (.bipush 41, 2) := by decide +kernel
theorem dM_compare_115 : decode cM_compare 115 = .ok (.iload 5, 2) := by decide +kernel
theorem dM_compare_117 : decode cM_compare 117 = .ok (.iconst 1, 1) := by decide +kernel
theorem dM_compare_118 : decode cM_compare 118 = .ok (.iadd, 1) := by decide +kernel
theorem dM_compare_119 : decode cM_compare 119 = .ok (.imul, 1) := by decide +kernel
theorem dM_compare_120 : decode cM_compare 120 = .ok (.iload 6, 2) := by decide +kernel
theorem dM_compare_122 : decode cM_compare 122 = .ok (.iadd, 1) := by decide +kernel
theorem dM_compare_123 : decode cM_compare 123 = .ok (.iconst 1, 1) := by decide +kernel
theorem dM_compare_124 : decode cM_compare 124 = .ok (.iadd, 1) := by decide +kernel
theorem dM_compare_125 : decode cM_compare 125 = .ok (.iaload, 1) := by decide +kernel
theorem dM_compare_126 : decode cM_compare 126 = .ok (.iconst 1, 1) := by decide +kernel
theorem dM_compare_127 : decode cM_compare 127 = .ok (.iadd, 1) := by decide +kernel
theorem dM_compare_128 : decode cM_compare 128 = .ok (.goto 4, 3) := by decide +kernel
theorem dM_compare_131 : decode cM_compare 131 = .ok (.iconst 0, 1) := by decide +kernel
theorem dM_compare_132 : decode cM_compare 132 = .ok (.istore 10, 2) := by decide +kernel
theorem dM_compare_134 : decode cM_compare 134 = .ok (.iload 8, 2) := by decide +kernel
theorem dM_compare_136 : decode cM_compare 136 = .ok (.iload 9, 2) := by decide +kernel
theorem dM_compare_138 : decode cM_compare 138 = .ok (.if_icmp .le 8, 3) := by decide +kernel
theorem dM_compare_141 : decode cM_compare 141 = .ok (.iload 8, 2) := by decide +kernel
theorem dM_compare_143 : decode cM_compare 143 = .ok (.goto 5, 3) := by decide +kernel
theorem dM_compare_146 : decode cM_compare 146 = .ok (.iload 9, 2) := by decide +kernel
theorem dM_compare_148 : decode cM_compare 148 = .ok (.istore 7, 2) := by decide +kernel
theorem dM_compare_150 : decode cM_compare 150 = .ok (.iload 10, 2) := by decide +kernel
theorem dM_compare_152 : decode cM_compare 152 = .ok (.iload 7, 2) := by decide +kernel
theorem dM_compare_154 : decode cM_compare 154 = .ok (.if_icmp .le 8, 3) := by decide +kernel
theorem dM_compare_157 : decode cM_compare 157 = .ok (.iload 10, 2) := by decide +kernel
theorem dM_compare_159 : decode cM_compare 159 = .ok (.goto 5, 3) := by decide +kernel
theorem dM_compare_162 : decode cM_compare 162 = .ok (.iload 7, 2) := by decide +kernel
theorem dM_compare_164 : decode cM_compare 164 = .ok (.istore 7, 2) := by decide +kernel
theorem dM_compare_166 : decode cM_compare 166 = .ok (.aload_n 0, 1) := by decide +kernel
theorem dM_compare_167 : decode cM_compare 167 = .ok (.getfield 36, 3) := by decide +kernel
theorem dM_compare_170 : decode cM_compare 170 = .ok (.bipush 41, 2) := by decide +kernel
theorem dM_compare_172 : decode cM_compare 172 = .ok (.iload 5, 2) := by decide +kernel
theorem dM_compare_174 : decode cM_compare 174 = .ok (.imul, 1) := by decide +kernel
theorem dM_compare_175 : decode cM_compare 175 = .ok (.iload 6, 2) := by decide +kernel
theorem dM_compare_177 : decode cM_compare 177 = .ok (.iadd, 1) := by decide +kernel
theorem dM_compare_178 : decode cM_compare 178 = .ok (.iload 7, 2) := by decide +kernel
theorem dM_compare_180 : decode cM_compare 180 = .ok (.iastore, 1) := by decide +kernel
theorem dM_compare_181 : decode cM_compare 181 = .ok (.iinc 6 (-1), 3) := by decide +kernel
theorem dM_compare_184 : decode cM_compare 184 = .ok (.goto (-143), 3) := by decide +kernel
theorem dM_compare_187 : decode cM_compare 187 = .ok (.iinc 5 (-1), 3) := by decide +kernel
theorem dM_compare_190 : decode cM_compare 190 = .ok (.goto (-158), 3) := by decide +kernel
theorem dM_compare_193 : decode cM_compare 193 = .ok (.iconst 0, 1) := by decide +kernel
theorem dM_compare_194 : decode cM_compare 194 = .ok (.istore 5, 2) := by decide +kernel
theorem dM_compare_196 : decode cM_compare 196 = .ok (.iconst 0, 1) := by decide +kernel
theorem dM_compare_197 : decode cM_compare 197 = .ok (.istore 6, 2) := by decide +kernel
theorem dM_compare_199 : decode cM_compare 199 = .ok (.iload 6, 2) := by decide +kernel
theorem dM_compare_201 : decode cM_compare 201 = .ok (.iload_n 3, 1) := by decide +kernel
theorem dM_compare_202 : decode cM_compare 202 = .ok (.if_icmp .ge 129, 3) := by decide +kernel
theorem dM_compare_205 : decode cM_compare 205 = .ok (.aload_n 0, 1) := by decide +kernel
theorem dM_compare_206 : decode cM_compare 206 = .ok (.getfield 39, 3) := by decide +kernel
theorem dM_compare_209 : decode cM_compare 209 = .ok (.iload 6, 2) := by decide +kernel
theorem dM_compare_211 : decode cM_compare 211 = .ok (.iconst (-1), 1) := by decide +kernel
theorem dM_compare_212 : decode cM_compare 212 = .ok (.iastore, 1) := by decide +kernel
theorem dM_compare_213 : decode cM_compare 213 = .ok (.iload 5, 2) := by decide +kernel
theorem dM_compare_215 : decode cM_compare 215 = .ok (.istore 7, 2) := by decide +kernel
theorem dM_compare_217 : decode cM_compare 217 = .ok (.iload 7, 2) := by decide +kernel
theorem dM_compare_219 : decode cM_compare 219 = .ok (.iload 4, 2) := by decide +kernel
theorem dM_compare_221 : decode cM_compare 221 = .ok (.if_icmp .ge 77, 3) := by decide +kernel
theorem dM_compare_224 : decode cM_compare 224 = .ok (.aload_n 0, 1) := by decide +kernel
theorem dM_compare_225 : decode cM_compare 225 = .ok (.getfield 39, 3) := by decide +kernel
theorem dM_compare_228 : decode cM_compare 228 = .ok (.iload 6, 2) := by decide +kernel
theorem dM_compare_230 : decode cM_compare 230 = .ok (.iaload, 1) := by decide +kernel
theorem dM_compare_231 : decode cM_compare 231 = .ok (.iconst (-1), 1) := by decide +kernel
theorem dM_compare_232 : decode cM_compare 232 = .ok (.if_icmp .ne 66, 3) := by decide +kernel
theorem dM_compare_235 : decode cM_compare 235 = .ok (.aload_n 0, 1) := by decide +kernel
theorem dM_compare_236 : decode cM_compare 236 = .ok (.iload_n 1, 1) := by decide +kernel
theorem dM_compare_237 : decode cM_compare 237 = .ok (.iload 6, 2) := by decide +kernel
theorem dM_compare_239 : decode cM_compare 239 = .ok (.iload_n 2, 1) := by decide +kernel
theorem dM_compare_240 : decode cM_compare 240 = .ok (.iload 7, 2) := by decide +kernel
theorem dM_compare_242 : decode cM_compare 242 = .ok (.invokevirtual 64, 3) := by decide +kernel
theorem dM_compare_245 : decode cM_compare 245 = .ok (.ifCond .eq 47, 3) := by decide +kernel
theorem dM_compare_248 : decode cM_compare 248 = .ok (.aload_n 0, 1) := by decide +kernel
theorem dM_compare_249 : decode cM_compare 249 = .ok (.getfield 36, 3) := by decide +kernel
theorem dM_compare_252 : decode cM_compare 252 = .ok (.bipush 41, 2) := by decide +kernel
theorem dM_compare_254 : decode cM_compare 254 = .ok (.iload 6, 2) := by decide +kernel
theorem dM_compare_256 : decode cM_compare 256 = .ok (.iconst 1, 1) := by decide +kernel
theorem dM_compare_257 : decode cM_compare 257 = .ok (.iadd, 1) := by decide +kernel
theorem dM_compare_258 : decode cM_compare 258 = .ok (.imul, 1) := by decide +kernel
theorem dM_compare_259 : decode cM_compare 259 = .ok (.iload 7, 2) := by decide +kernel
theorem dM_compare_261 : decode cM_compare 261 = .ok (.iadd, 1) := by decide +kernel
theorem dM_compare_262 : decode cM_compare 262 = .ok (.iconst 1, 1) := by decide +kernel
theorem dM_compare_263 : decode cM_compare 263 = .ok (.iadd, 1) := by decide +kernel
theorem dM_compare_264 : decode cM_compare 264 = .ok (.iaload, 1) := by decide +kernel
theorem dM_compare_265 : decode cM_compare 265 = .ok (.iconst 1, 1) := by decide +kernel
theorem dM_compare_266 : decode cM_compare 266 = .ok (.iadd, 1) := by decide +kernel
theorem dM_compare_267 : decode cM_compare 267 = .ok (.aload_n 0, 1) := by decide +kernel
theorem dM_compare_268 : decode cM_compare 268 = .ok (.getfield 36, 3) := by decide +kernel
theorem dM_compare_271 : decode cM_compare 271 = .ok (.bipush 41, 2) := by decide +kernel
theorem dM_compare_273 : decode cM_compare 273 = .ok (.iload 6, 2) := by decide +kernel
theorem dM_compare_275 : decode cM_compare 275 = .ok (.imul, 1) := by decide +kernel
theorem dM_compare_276 : decode cM_compare 276 = .ok (.iload 5, 2) := by decide +kernel
theorem dM_compare_278 : decode cM_compare 278 = .ok (.iadd, 1) := by decide +kernel
theorem dM_compare_279 : decode cM_compare 279 = .ok (.iaload, 1) := by decide +kernel
theorem dM_compare_280 : decode cM_compare 280 = .ok (.if_icmp .ne 12, 3) := by decide +kernel
theorem dM_compare_283 : decode cM_compare 283 = .ok (.aload_n 0, 1) := by decide +kernel
theorem dM_compare_284 : decode cM_compare 284 = .ok (.getfield 39, 3) := by decide +kernel
theorem dM_compare_287 : decode cM_compare 287 = .ok (.iload 6, 2) := by decide +kernel
theorem dM_compare_289 : decode cM_compare 289 = .ok (.iload 7, 2) := by decide +kernel
theorem dM_compare_291 : decode cM_compare 291 = .ok (.iastore, 1) := by decide +kernel
theorem dM_compare_292 : decode cM_compare 292 = .ok (.iinc 7 1, 3) := by decide +kernel
theorem dM_compare_295 : decode cM_compare 295 = .ok (.goto (-78), 3) := by decide +kernel
theorem dM_compare_298 : decode cM_compare 298 = .ok (.aload_n 0, 1) := by decide +kernel
theorem dM_compare_299 : decode cM_compare 299 = .ok (.getfield 39, 3) := by decide +kernel
theorem dM_compare_302 : decode cM_compare 302 = .ok (.iload 6, 2) := by decide +kernel
theorem dM_compare_304 : decode cM_compare 304 = .ok (.iaload, 1) := by decide +kernel
theorem dM_compare_305 : decode cM_compare 305 = .ok (.iconst (-1), 1) := by decide +kernel
theorem dM_compare_306 : decode cM_compare 306 = .ok (.if_icmp .ne 8, 3) := by decide +kernel
theorem dM_compare_309 : decode cM_compare 309 = .ok (.iload 5, 2) := by decide +kernel
theorem dM_compare_311 : decode cM_compare 311 = .ok (.goto 12, 3) := by decide +kernel
theorem dM_compare_314 : decode cM_compare 314 = .ok (.aload_n 0, 1) := by decide +kernel
theorem dM_compare_315 : decode cM_compare 315 = .ok (.getfield 39, 3) := by decide +kernel
theorem dM_compare_318 : decode cM_compare 318 = .ok (.iload 6, 2) := by decide +kernel
theorem dM_compare_320 : decode cM_compare 320 = .ok (.iaload, 1) := by decide +kernel
theorem dM_compare_321 : decode cM_compare 321 = .ok (.iconst 1, 1) := by decide +kernel
theorem dM_compare_322 : decode cM_compare 322 = .ok (.iadd, 1) := by decide +kernel
theorem dM_compare_323 : decode cM_compare 323 = .ok (.istore 5, 2) := by decide +kernel
theorem dM_compare_325 : decode cM_compare 325 = .ok (.iinc 6 1, 3) := by decide +kernel
theorem dM_compare_328 : decode cM_compare 328 = .ok (.goto (-129), 3) := by decide +kernel
theorem dM_compare_331 : decode cM_compare 331 = .ok (.return_, 1) := by decide +kernel
theorem dM_isAlike_0 : decode cM_isAlike 0 = .ok (.aload_n 0, 1) := by decide +kernel
theorem dM_isAlike_1 : decode cM_isAlike 1 = .ok (.getfield 13, 3) := by decide +kernel
theorem dM_isAlike_4 : decode cM_isAlike 4 = .ok (.bipush 40, 2) := by decide +kernel
theorem dM_isAlike_6 : decode cM_isAlike 6 = .ok (.iload_n 1, 1) := by decide +kernel
theorem dM_isAlike_7 : decode cM_isAlike 7 = .ok (.imul, 1) := by decide +kernel
theorem dM_isAlike_8 : decode cM_isAlike 8 = .ok (.iload_n 2, 1) := by decide +kernel
theorem dM_isAlike_9 : decode cM_isAlike 9 = .ok (.iadd, 1) := by decide +kernel
theorem dM_isAlike_10 : decode cM_isAlike 10 = .ok (.iaload, 1) := by decide +kernel
theorem dM_isAlike_11 : decode cM_isAlike 11 = .ok (.aload_n 0, 1) := by decide +kernel
theorem dM_isAlike_12 : decode cM_isAlike 12 = .ok (.getfield 13, 3) := by decide +kernel
theorem dM_isAlike_15 : decode cM_isAlike 15 = .ok (.bipush 40, 2) := by decide +kernel
theorem dM_isAlike_17 : decode cM_isAlike 17 = .ok (.iload_n 3, 1) := by decide +kernel
theorem dM_isAlike_18 : decode cM_isAlike 18 = .ok (.imul, 1) := by decide +kernel
theorem dM_isAlike_19 : decode cM_isAlike 19 = .ok (.iload 4, 2) := by decide +kernel
theorem dM_isAlike_21 : decode cM_isAlike 21 = .ok (.iadd, 1) := by decide +kernel
theorem dM_isAlike_22 : decode cM_isAlike 22 = .ok (.iaload, 1) := by decide +kernel
theorem dM_isAlike_23 : decode cM_isAlike 23 = .ok (.if_icmp .ne 7, 3) := by decide +kernel
theorem dM_isAlike_26 : decode cM_isAlike 26 = .ok (.iconst 1, 1) := by decide +kernel
theorem dM_isAlike_27 : decode cM_isAlike 27 = .ok (.goto 4, 3) := by decide +kernel
theorem dM_isAlike_30 : decode cM_isAlike 30 = .ok (.iconst 0, 1) := by decide +kernel
theorem dM_isAlike_31 : decode cM_isAlike 31 = .ok (.ireturn, 1) := by decide +kernel
theorem dM_map_0 : decode cM_map 0 = .ok (.iload_n 1, 1) := by decide +kernel
theorem dM_map_1 : decode cM_map 1 = .ok (.aload_n 0, 1) := by decide +kernel
theorem dM_map_2 : decode cM_map 2 = .ok (.getfield 50, 3) := by decide +kernel
theorem dM_map_5 : decode cM_map 5 = .ok (.invokestatic 46, 3) := by decide +kernel
theorem dM_map_8 : decode cM_map 8 = .ok (.ifCond .eq 23, 3) := by decide +kernel
theorem dM_map_11 : decode cM_map 11 = .ok (.iload_n 2, 1) := by decide +kernel
theorem dM_map_12 : decode cM_map 12 = .ok (.aload_n 0, 1) := by decide +kernel
theorem dM_map_13 : decode cM_map 13 = .ok (.getfield 42, 3) := by decide +kernel
theorem dM_map_16 : decode cM_map 16 = .ok (.invokestatic 46, 3) := by decide +kernel
theorem dM_map_19 : decode cM_map 19 = .ok (.ifCond .eq 12, 3) := by decide +kernel
theorem dM_map_22 : decode cM_map 22 = .ok (.aload_n 0, 1) := by decide +kernel
theorem dM_map_23 : decode cM_map 23 = .ok (.getfield 50, 3) := by decide +kernel
theorem dM_map_26 : decode cM_map 26 = .ok (.bipush 14, 2) := by decide +kernel
theorem dM_map_28 : decode cM_map 28 = .ok (.if_icmp .ne 5, 3) := by decide +kernel
theorem dM_map_31 : decode cM_map 31 = .ok (.iconst (-1), 1) := by decide +kernel
theorem dM_map_32 : decode cM_map 32 = .ok (.ireturn, 1) := by decide +kernel
theorem dM_map_33 : decode cM_map 33 = .ok (.aload_n 0, 1) := by decide +kernel
theorem dM_map_34 : decode cM_map 34 = .ok (.aload_n 0, 1) := by decide +kernel
theorem dM_map_35 : decode cM_map 35 = .ok (.getfield 26, 3) := by decide +kernel
theorem dM_map_38 : decode cM_map 38 = .ok (.iload_n 1, 1) := by decide +kernel
theorem dM_map_39 : decode cM_map 39 = .ok (.iaload, 1) := by decide +kernel
theorem dM_map_40 : decode cM_map 40 = .ok (.iload_n 2, 1) := by decide +kernel
theorem dM_map_41 : decode cM_map 41 = .ok (.invokevirtual 68, 3) := by decide +kernel
theorem dM_map_44 : decode cM_map 44 = .ok (.lconst 0, 1) := by decide +kernel
theorem dM_map_45 : decode cM_map 45 = .ok (.lstore_n 3, 1) := by decide +kernel
theorem dM_map_46 : decode cM_map 46 = .ok (.iconst 0, 1) := by decide +kernel
theorem dM_map_47 : decode cM_map 47 = .ok (.istore 5, 2) := by decide +kernel
theorem dM_map_49 : decode cM_map 49 = .ok (.iload 5, 2) := by decide +kernel
theorem dM_map_51 : decode cM_map 51 = .ok (.aload_n 0, 1) := by decide +kernel
theorem dM_map_52 : decode cM_map 52 = .ok (.getfield 7, 3) := by decide +kernel
theorem dM_map_55 : decode cM_map 55 = .ok (.aload_n 0, 1) := by decide +kernel
theorem dM_map_56 : decode cM_map 56 = .ok (.getfield 26, 3) := by decide +kernel
theorem dM_map_59 : decode cM_map 59 = .ok (.iload_n 1, 1) := by decide +kernel
theorem dM_map_60 : decode cM_map 60 = .ok (.iaload, 1) := by decide +kernel
theorem dM_map_61 : decode cM_map 61 = .ok (.iaload, 1) := by decide +kernel
theorem dM_map_62 : decode cM_map 62 = .ok (.if_icmp .ge 46, 3) := by decide +kernel
theorem dM_map_65 : decode cM_map 65 = .ok (.lload_n 3, 1) := by decide +kernel
theorem dM_map_66 : decode cM_map 66 = .ok (.aload_n 0, 1) := by decide +kernel
theorem dM_map_67 : decode cM_map 67 = .ok (.iload_n 1, 1) := by decide +kernel
theorem dM_map_68 : decode cM_map 68 = .ok (.iload 5, 2) := by decide +kernel
theorem dM_map_70 : decode cM_map 70 = .ok (.invokevirtual 61, 3) := by decide +kernel
theorem dM_map_73 : decode cM_map 73 = .ok (.ifCond .eq 26, 3) := by decide +kernel
theorem dM_map_76 : decode cM_map 76 = .ok (.aload_n 0, 1) := by decide +kernel
theorem dM_map_77 : decode cM_map 77 = .ok (.getfield 39, 3) := by decide +kernel
theorem dM_map_80 : decode cM_map 80 = .ok (.iload 5, 2) := by decide +kernel
theorem dM_map_82 : decode cM_map 82 = .ok (.iaload, 1) := by decide +kernel
theorem dM_map_83 : decode cM_map 83 = .ok (.iconst (-1), 1) := by decide +kernel
theorem dM_map_84 : decode cM_map 84 = .ok (.if_icmp .eq 15, 3) := by decide +kernel
theorem dM_map_87 : decode cM_map 87 = .ok (.lconst 1, 1) := by decide +kernel
theorem dM_map_88 : decode cM_map 88 = .ok (.aload_n 0, 1) := by decide +kernel
theorem dM_map_89 : decode cM_map 89 = .ok (.getfield 39, 3) := by decide +kernel
theorem dM_map_92 : decode cM_map 92 = .ok (.iload 5, 2) := by decide +kernel
theorem dM_map_94 : decode cM_map 94 = .ok (.iaload, 1) := by decide +kernel
theorem dM_map_95 : decode cM_map 95 = .ok (.lshl, 1) := by decide +kernel
theorem dM_map_96 : decode cM_map 96 = .ok (.goto 4, 3) := by decide +kernel
theorem dM_map_99 : decode cM_map 99 = .ok (.lconst 0, 1) := by decide +kernel
theorem dM_map_100 : decode cM_map 100 = .ok (.lor, 1) := by decide +kernel
theorem dM_map_101 : decode cM_map 101 = .ok (.lstore_n 3, 1) := by decide +kernel
theorem dM_map_102 : decode cM_map 102 = .ok (.iinc 5 1, 3) := by decide +kernel
theorem dM_map_105 : decode cM_map 105 = .ok (.goto (-56), 3) := by decide +kernel
theorem dM_map_108 : decode cM_map 108 = .ok (.aload_n 0, 1) := by decide +kernel
theorem dM_map_109 : decode cM_map 109 = .ok (.iload_n 2, 1) := by decide +kernel
theorem dM_map_110 : decode cM_map 110 = .ok (.aload_n 0, 1) := by decide +kernel
theorem dM_map_111 : decode cM_map 111 = .ok (.getfield 29, 3) := by decide +kernel
theorem dM_map_114 : decode cM_map 114 = .ok (.iload_n 1, 1) := by decide +kernel
theorem dM_map_115 : decode cM_map 115 = .ok (.iaload, 1) := by decide +kernel
theorem dM_map_116 : decode cM_map 116 = .ok (.lload_n 3, 1) := by decide +kernel
theorem dM_map_117 : decode cM_map 117 = .ok (.invokevirtual 54, 3) := by decide +kernel
theorem dM_map_120 : decode cM_map 120 = .ok (.ireturn, 1) := by decide +kernel
theorem dM_join_0 : decode cM_join 0 = .ok (.iload_n 1, 1) := by decide +kernel
theorem dM_join_1 : decode cM_join 1 = .ok (.aload_n 0, 1) := by decide +kernel
theorem dM_join_2 : decode cM_join 2 = .ok (.getfield 50, 3) := by decide +kernel
theorem dM_join_5 : decode cM_join 5 = .ok (.invokestatic 46, 3) := by decide +kernel
theorem dM_join_8 : decode cM_join 8 = .ok (.ifCond .eq 38, 3) := by decide +kernel
theorem dM_join_11 : decode cM_join 11 = .ok (.iload_n 2, 1) := by decide +kernel
theorem dM_join_12 : decode cM_join 12 = .ok (.aload_n 0, 1) := by decide +kernel
theorem dM_join_13 : decode cM_join 13 = .ok (.getfield 50, 3) := by decide +kernel
theorem dM_join_16 : decode cM_join 16 = .ok (.invokestatic 46, 3) := by decide +kernel
theorem dM_join_19 : decode cM_join 19 = .ok (.ifCond .eq 27, 3) := by decide +kernel
theorem dM_join_22 : decode cM_join 22 = .ok (.aload_n 0, 1) := by decide +kernel
theorem dM_join_23 : decode cM_join 23 = .ok (.getfield 26, 3) := by decide +kernel
theorem dM_join_26 : decode cM_join 26 = .ok (.iload_n 1, 1) := by decide +kernel
theorem dM_join_27 : decode cM_join 27 = .ok (.iaload, 1) := by decide +kernel
theorem dM_join_28 : decode cM_join 28 = .ok (.aload_n 0, 1) := by decide +kernel
theorem dM_join_29 : decode cM_join 29 = .ok (.getfield 26, 3) := by decide +kernel
theorem dM_join_32 : decode cM_join 32 = .ok (.iload_n 2, 1) := by decide +kernel
theorem dM_join_33 : decode cM_join 33 = .ok (.iaload, 1) := by decide +kernel
theorem dM_join_34 : decode cM_join 34 = .ok (.if_icmp .ne 12, 3) := by decide +kernel
theorem dM_join_37 : decode cM_join 37 = .ok (.aload_n 0, 1) := by decide +kernel
theorem dM_join_38 : decode cM_join 38 = .ok (.getfield 50, 3) := by decide +kernel
theorem dM_join_41 : decode cM_join 41 = .ok (.bipush 14, 2) := by decide +kernel
theorem dM_join_43 : decode cM_join 43 = .ok (.if_icmp .ne 5, 3) := by decide +kernel
theorem dM_join_46 : decode cM_join 46 = .ok (.iconst (-1), 1) := by decide +kernel
theorem dM_join_47 : decode cM_join 47 = .ok (.ireturn, 1) := by decide +kernel
theorem dM_join_48 : decode cM_join 48 = .ok (.aload_n 0, 1) := by decide +kernel
theorem dM_join_49 : decode cM_join 49 = .ok (.getfield 29, 3) := by decide +kernel
theorem dM_join_52 : decode cM_join 52 = .ok (.iload_n 1, 1) := by decide +kernel
theorem dM_join_53 : decode cM_join 53 = .ok (.iaload, 1) := by decide +kernel
theorem dM_join_54 : decode cM_join 54 = .ok (.aload_n 0, 1) := by decide +kernel
theorem dM_join_55 : decode cM_join 55 = .ok (.getfield 29, 3) := by decide +kernel
theorem dM_join_58 : decode cM_join 58 = .ok (.iload_n 2, 1) := by decide +kernel
theorem dM_join_59 : decode cM_join 59 = .ok (.iaload, 1) := by decide +kernel
theorem dM_join_60 : decode cM_join 60 = .ok (.iadd, 1) := by decide +kernel
theorem dM_join_61 : decode cM_join 61 = .ok (.istore_n 3, 1) := by decide +kernel
theorem dM_join_62 : decode cM_join 62 = .ok (.aload_n 0, 1) := by decide +kernel
theorem dM_join_63 : decode cM_join 63 = .ok (.aload_n 0, 1) := by decide +kernel
theorem dM_join_64 : decode cM_join 64 = .ok (.getfield 26, 3) := by decide +kernel
theorem dM_join_67 : decode cM_join 67 = .ok (.iload_n 1, 1) := by decide +kernel
theorem dM_join_68 : decode cM_join 68 = .ok (.iaload, 1) := by decide +kernel
theorem dM_join_69 : decode cM_join 69 = .ok (.iload_n 3, 1) := by decide +kernel
theorem dM_join_70 : decode cM_join 70 = .ok (.ldc 53, 2) := by decide +kernel
theorem dM_join_72 : decode cM_join 72 = .ok (.if_icmp .le 8, 3) := by decide +kernel
theorem dM_join_75 : decode cM_join 75 = .ok (.ldc 53, 2) := by decide +kernel
theorem dM_join_77 : decode cM_join 77 = .ok (.goto 4, 3) := by decide +kernel
theorem dM_join_80 : decode cM_join 80 = .ok (.iload_n 3, 1) := by decide +kernel
theorem dM_join_81 : decode cM_join 81 = .ok (.aload_n 0, 1) := by decide +kernel
theorem dM_join_82 : decode cM_join 82 = .ok (.getfield 32, 3) := by decide +kernel
theorem dM_join_85 : decode cM_join 85 = .ok (.iload_n 1, 1) := by decide +kernel
theorem dM_join_86 : decode cM_join 86 = .ok (.laload, 1) := by decide +kernel
theorem dM_join_87 : decode cM_join 87 = .ok (.aload_n 0, 1) := by decide +kernel
theorem dM_join_88 : decode cM_join 88 = .ok (.getfield 32, 3) := by decide +kernel
theorem dM_join_91 : decode cM_join 91 = .ok (.iload_n 2, 1) := by decide +kernel
theorem dM_join_92 : decode cM_join 92 = .ok (.laload, 1) := by decide +kernel
theorem dM_join_93 : decode cM_join 93 = .ok (.lor, 1) := by decide +kernel
theorem dM_join_94 : decode cM_join 94 = .ok (.invokevirtual 54, 3) := by decide +kernel
theorem dM_join_97 : decode cM_join 97 = .ok (.ireturn, 1) := by decide +kernel
theorem dM_share_0 : decode cM_share 0 = .ok (.iload_n 1, 1) := by decide +kernel
theorem dM_share_1 : decode cM_share 1 = .ok (.aload_n 0, 1) := by decide +kernel
theorem dM_share_2 : decode cM_share 2 = .ok (.getfield 50, 3) := by decide +kernel
theorem dM_share_5 : decode cM_share 5 = .ok (.invokestatic 46, 3) := by decide +kernel
theorem dM_share_8 : decode cM_share 8 = .ok (.ifCond .eq 21, 3) := by decide +kernel
theorem dM_share_11 : decode cM_share 11 = .ok (.iload_n 2, 1) := by decide +kernel
theorem dM_share_12 : decode cM_share 12 = .ok (.iconst 4, 1) := by decide +kernel
theorem dM_share_13 : decode cM_share 13 = .ok (.invokestatic 46, 3) := by decide +kernel
theorem dM_share_16 : decode cM_share 16 = .ok (.ifCond .eq 13, 3) := by decide +kernel
theorem dM_share_19 : decode cM_share 19 = .ok (.aload_n 0, 1) := by decide +kernel
theorem dM_share_20 : decode cM_share 20 = .ok (.iload_n 1, 1) := by decide +kernel
theorem dM_share_21 : decode cM_share 21 = .ok (.iload_n 2, 1) := by decide +kernel
theorem dM_share_22 : decode cM_share 22 = .ok (.iload_n 3, 1) := by decide +kernel
theorem dM_share_23 : decode cM_share 23 = .ok (.invokevirtual 72, 3) := by decide +kernel
theorem dM_share_26 : decode cM_share 26 = .ok (.goto 4, 3) := by decide +kernel
theorem dM_share_29 : decode cM_share 29 = .ok (.iconst (-1), 1) := by decide +kernel
theorem dM_share_30 : decode cM_share 30 = .ok (.ireturn, 1) := by decide +kernel
theorem dM_shareOf_0 : decode cM_shareOf 0 = .ok (.iconst 0, 1) := by decide +kernel
theorem dM_shareOf_1 : decode cM_shareOf 1 = .ok (.istore 4, 2) := by decide +kernel
theorem dM_shareOf_3 : decode cM_shareOf 3 = .ok (.aload_n 0, 1) := by decide +kernel
theorem dM_shareOf_4 : decode cM_shareOf 4 = .ok (.getfield 26, 3) := by decide +kernel
theorem dM_shareOf_7 : decode cM_shareOf 7 = .ok (.iload_n 1, 1) := by decide +kernel
theorem dM_shareOf_8 : decode cM_shareOf 8 = .ok (.iaload, 1) := by decide +kernel
theorem dM_shareOf_9 : decode cM_shareOf 9 = .ok (.istore 5, 2) := by decide +kernel
theorem dM_shareOf_11 : decode cM_shareOf 11 = .ok (.iconst 0, 1) := by decide +kernel
theorem dM_shareOf_12 : decode cM_shareOf 12 = .ok (.istore 6, 2) := by decide +kernel
theorem dM_shareOf_14 : decode cM_shareOf 14 = .ok (.iload 6, 2) := by decide +kernel
theorem dM_shareOf_16 : decode cM_shareOf 16 = .ok (.aload_n 0, 1) := by decide +kernel
theorem dM_shareOf_17 : decode cM_shareOf 17 = .ok (.getfield 7, 3) := by decide +kernel
theorem dM_shareOf_20 : decode cM_shareOf 20 = .ok (.iload 5, 2) := by decide +kernel
theorem dM_shareOf_22 : decode cM_shareOf 22 = .ok (.iaload, 1) := by decide +kernel
theorem dM_shareOf_23 : decode cM_shareOf 23 = .ok (.if_icmp .ge 78, 3) := by decide +kernel
theorem dM_shareOf_26 : decode cM_shareOf 26 = .ok (.aload_n 0, 1) := by decide +kernel
theorem dM_shareOf_27 : decode cM_shareOf 27 = .ok (.getfield 16, 3) := by decide +kernel
theorem dM_shareOf_30 : decode cM_shareOf 30 = .ok (.bipush 40, 2) := by decide +kernel
theorem dM_shareOf_32 : decode cM_shareOf 32 = .ok (.iload 5, 2) := by decide +kernel
theorem dM_shareOf_34 : decode cM_shareOf 34 = .ok (.imul, 1) := by decide +kernel
theorem dM_shareOf_35 : decode cM_shareOf 35 = .ok (.iload 6, 2) := by decide +kernel
theorem dM_shareOf_37 : decode cM_shareOf 37 = .ok (.iadd, 1) := by decide +kernel
theorem dM_shareOf_38 : decode cM_shareOf 38 = .ok (.iaload, 1) := by decide +kernel
theorem dM_shareOf_39 : decode cM_shareOf 39 = .ok (.iload_n 2, 1) := by decide +kernel
theorem dM_shareOf_40 : decode cM_shareOf 40 = .ok (.if_icmp .ne 23, 3) := by decide +kernel
theorem dM_shareOf_43 : decode cM_shareOf 43 = .ok (.aload_n 0, 1) := by decide +kernel
theorem dM_shareOf_44 : decode cM_shareOf 44 = .ok (.getfield 19, 3) := by decide +kernel
theorem dM_shareOf_47 : decode cM_shareOf 47 = .ok (.bipush 40, 2) := by decide +kernel
theorem dM_shareOf_49 : decode cM_shareOf 49 = .ok (.iload 5, 2) := by decide +kernel
theorem dM_shareOf_51 : decode cM_shareOf 51 = .ok (.imul, 1) := by decide +kernel
theorem dM_shareOf_52 : decode cM_shareOf 52 = .ok (.iload 6, 2) := by decide +kernel
theorem dM_shareOf_54 : decode cM_shareOf 54 = .ok (.iadd, 1) := by decide +kernel
theorem dM_shareOf_55 : decode cM_shareOf 55 = .ok (.baload, 1) := by decide +kernel
theorem dM_shareOf_56 : decode cM_shareOf 56 = .ok (.ifCond .ne 7, 3) := by decide +kernel
theorem dM_shareOf_59 : decode cM_shareOf 59 = .ok (.iconst 1, 1) := by decide +kernel
theorem dM_shareOf_60 : decode cM_shareOf 60 = .ok (.goto 4, 3) := by decide +kernel
theorem dM_shareOf_63 : decode cM_shareOf 63 = .ok (.iconst 0, 1) := by decide +kernel
theorem dM_shareOf_64 : decode cM_shareOf 64 = .ok (.istore 7, 2) := by decide +kernel
theorem dM_shareOf_66 : decode cM_shareOf 66 = .ok (.iload 4, 2) := by decide +kernel
theorem dM_shareOf_68 : decode cM_shareOf 68 = .ok (.iload 7, 2) := by decide +kernel
theorem dM_shareOf_70 : decode cM_shareOf 70 = .ok (.ifCond .eq 21, 3) := by decide +kernel
theorem dM_shareOf_73 : decode cM_shareOf 73 = .ok (.iload_n 3, 1) := by decide +kernel
theorem dM_shareOf_74 : decode cM_shareOf 74 = .ok (.ifCond .eq 13, 3) := by decide +kernel
theorem dM_shareOf_77 : decode cM_shareOf 77 = .ok (.aload_n 0, 1) := by decide +kernel
theorem dM_shareOf_78 : decode cM_shareOf 78 = .ok (.iload_n 1, 1) := by decide +kernel
theorem dM_shareOf_79 : decode cM_shareOf 79 = .ok (.iload 6, 2) := by decide +kernel
theorem dM_shareOf_81 : decode cM_shareOf 81 = .ok (.invokevirtual 61, 3) := by decide +kernel
theorem dM_shareOf_84 : decode cM_shareOf 84 = .ok (.ifCond .eq 7, 3) := by decide +kernel
theorem dM_shareOf_87 : decode cM_shareOf 87 = .ok (.iconst 1, 1) := by decide +kernel
theorem dM_shareOf_88 : decode cM_shareOf 88 = .ok (.goto 4, 3) := by decide +kernel
theorem dM_shareOf_91 : decode cM_shareOf 91 = .ok (.iconst 0, 1) := by decide +kernel
theorem dM_shareOf_92 : decode cM_shareOf 92 = .ok (.iadd, 1) := by decide +kernel
theorem dM_shareOf_93 : decode cM_shareOf 93 = .ok (.istore 4, 2) := by decide +kernel
theorem dM_shareOf_95 : decode cM_shareOf 95 = .ok (.iinc 6 1, 3) := by decide +kernel
theorem dM_shareOf_98 : decode cM_shareOf 98 = .ok (.goto (-84), 3) := by decide +kernel
theorem dM_shareOf_101 : decode cM_shareOf 101 = .ok (.iload 4, 2) := by decide +kernel
theorem dM_shareOf_103 : decode cM_shareOf 103 = .ok (.ireturn, 1) := by decide +kernel
theorem dM_fresh_0 : decode cM_fresh 0 = .ok (.iload_n 1, 1) := by decide +kernel
theorem dM_fresh_1 : decode cM_fresh 1 = .ok (.aload_n 0, 1) := by decide +kernel
theorem dM_fresh_2 : decode cM_fresh 2 = .ok (.getfield 50, 3) := by decide +kernel
theorem dM_fresh_5 : decode cM_fresh 5 = .ok (.invokestatic 46, 3) := by decide +kernel
theorem dM_fresh_8 : decode cM_fresh 8 = .ok (.ifCond .eq 14, 3) := by decide +kernel
theorem dM_fresh_11 : decode cM_fresh 11 = .ok (.iload_n 2, 1) := by decide +kernel
theorem dM_fresh_12 : decode cM_fresh 12 = .ok (.aload_n 0, 1) := by decide +kernel
theorem dM_fresh_13 : decode cM_fresh 13 = .ok (.getfield 42, 3) := by decide +kernel
theorem dM_fresh_16 : decode cM_fresh 16 = .ok (.invokestatic 46, 3) := by decide +kernel
theorem dM_fresh_19 : decode cM_fresh 19 = .ok (.ifCond .ne 5, 3) := by decide +kernel
theorem dM_fresh_22 : decode cM_fresh 22 = .ok (.iconst (-1), 1) := by decide +kernel
theorem dM_fresh_23 : decode cM_fresh 23 = .ok (.ireturn, 1) := by decide +kernel
theorem dM_fresh_24 : decode cM_fresh 24 = .ok (.aload_n 0, 1) := by decide +kernel
theorem dM_fresh_25 : decode cM_fresh 25 = .ok (.getfield 26, 3) := by decide +kernel
theorem dM_fresh_28 : decode cM_fresh 28 = .ok (.iload_n 1, 1) := by decide +kernel
theorem dM_fresh_29 : decode cM_fresh 29 = .ok (.iaload, 1) := by decide +kernel
theorem dM_fresh_30 : decode cM_fresh 30 = .ok (.istore 4, 2) := by decide +kernel
theorem dM_fresh_32 : decode cM_fresh 32 = .ok (.aload_n 0, 1) := by decide +kernel
theorem dM_fresh_33 : decode cM_fresh 33 = .ok (.iload_n 2, 1) := by decide +kernel
theorem dM_fresh_34 : decode cM_fresh 34 = .ok (.iload 4, 2) := by decide +kernel
theorem dM_fresh_36 : decode cM_fresh 36 = .ok (.invokevirtual 68, 3) := by decide +kernel
theorem dM_fresh_39 : decode cM_fresh 39 = .ok (.lconst 0, 1) := by decide +kernel
theorem dM_fresh_40 : decode cM_fresh 40 = .ok (.lstore 5, 2) := by decide +kernel
theorem dM_fresh_42 : decode cM_fresh 42 = .ok (.iconst 0, 1) := by decide +kernel
theorem dM_fresh_43 : decode cM_fresh 43 = .ok (.istore 7, 2) := by decide +kernel
theorem dM_fresh_45 : decode cM_fresh 45 = .ok (.iload 7, 2) := by decide +kernel
theorem dM_fresh_47 : decode cM_fresh 47 = .ok (.aload_n 0, 1) := by decide +kernel
theorem dM_fresh_48 : decode cM_fresh 48 = .ok (.getfield 7, 3) := by decide +kernel
theorem dM_fresh_51 : decode cM_fresh 51 = .ok (.iload_n 2, 1) := by decide +kernel
theorem dM_fresh_52 : decode cM_fresh 52 = .ok (.iaload, 1) := by decide +kernel
theorem dM_fresh_53 : decode cM_fresh 53 = .ok (.if_icmp .ge 38, 3) := by decide +kernel
theorem dM_fresh_56 : decode cM_fresh 56 = .ok (.lload 5, 2) := by decide +kernel
theorem dM_fresh_58 : decode cM_fresh 58 = .ok (.aload_n 0, 1) := by decide +kernel
theorem dM_fresh_59 : decode cM_fresh 59 = .ok (.getfield 39, 3) := by decide +kernel
theorem dM_fresh_62 : decode cM_fresh 62 = .ok (.iload 7, 2) := by decide +kernel
theorem dM_fresh_64 : decode cM_fresh 64 = .ok (.iaload, 1) := by decide +kernel
theorem dM_fresh_65 : decode cM_fresh 65 = .ok (.iconst (-1), 1) := by decide +kernel
theorem dM_fresh_66 : decode cM_fresh 66 = .ok (.if_icmp .ne 7, 3) := by decide +kernel
theorem dM_fresh_69 : decode cM_fresh 69 = .ok (.lconst 0, 1) := by decide +kernel
theorem dM_fresh_70 : decode cM_fresh 70 = .ok (.goto 12, 3) := by decide +kernel
theorem dM_fresh_73 : decode cM_fresh 73 = .ok (.lconst 1, 1) := by decide +kernel
theorem dM_fresh_74 : decode cM_fresh 74 = .ok (.aload_n 0, 1) := by decide +kernel
theorem dM_fresh_75 : decode cM_fresh 75 = .ok (.getfield 39, 3) := by decide +kernel
theorem dM_fresh_78 : decode cM_fresh 78 = .ok (.iload 7, 2) := by decide +kernel
theorem dM_fresh_80 : decode cM_fresh 80 = .ok (.iaload, 1) := by decide +kernel
theorem dM_fresh_81 : decode cM_fresh 81 = .ok (.lshl, 1) := by decide +kernel
theorem dM_fresh_82 : decode cM_fresh 82 = .ok (.lor, 1) := by decide +kernel
theorem dM_fresh_83 : decode cM_fresh 83 = .ok (.lstore 5, 2) := by decide +kernel
theorem dM_fresh_85 : decode cM_fresh 85 = .ok (.iinc 7 1, 3) := by decide +kernel
theorem dM_fresh_88 : decode cM_fresh 88 = .ok (.goto (-43), 3) := by decide +kernel
theorem dM_fresh_91 : decode cM_fresh 91 = .ok (.iconst 0, 1) := by decide +kernel
theorem dM_fresh_92 : decode cM_fresh 92 = .ok (.istore 7, 2) := by decide +kernel
theorem dM_fresh_94 : decode cM_fresh 94 = .ok (.iconst 0, 1) := by decide +kernel
theorem dM_fresh_95 : decode cM_fresh 95 = .ok (.istore 8, 2) := by decide +kernel
theorem dM_fresh_97 : decode cM_fresh 97 = .ok (.iload 8, 2) := by decide +kernel
theorem dM_fresh_99 : decode cM_fresh 99 = .ok (.aload_n 0, 1) := by decide +kernel
theorem dM_fresh_100 : decode cM_fresh 100 = .ok (.getfield 7, 3) := by decide +kernel
theorem dM_fresh_103 : decode cM_fresh 103 = .ok (.iload 4, 2) := by decide +kernel
theorem dM_fresh_105 : decode cM_fresh 105 = .ok (.iaload, 1) := by decide +kernel
theorem dM_fresh_106 : decode cM_fresh 106 = .ok (.if_icmp .ge 73, 3) := by decide +kernel
theorem dM_fresh_109 : decode cM_fresh 109 = .ok (.lload 5, 2) := by decide +kernel
theorem dM_fresh_111 : decode cM_fresh 111 = .ok (.iload 8, 2) := by decide +kernel
theorem dM_fresh_113 : decode cM_fresh 113 = .ok (.lshr, 1) := by decide +kernel
theorem dM_fresh_114 : decode cM_fresh 114 = .ok (.lconst 1, 1) := by decide +kernel
theorem dM_fresh_115 : decode cM_fresh 115 = .ok (.land, 1) := by decide +kernel
theorem dM_fresh_116 : decode cM_fresh 116 = .ok (.lconst 0, 1) := by decide +kernel
theorem dM_fresh_117 : decode cM_fresh 117 = .ok (.lcmp, 1) := by decide +kernel
theorem dM_fresh_118 : decode cM_fresh 118 = .ok (.ifCond .ne 23, 3) := by decide +kernel
theorem dM_fresh_121 : decode cM_fresh 121 = .ok (.aload_n 0, 1) := by decide +kernel
theorem dM_fresh_122 : decode cM_fresh 122 = .ok (.getfield 19, 3) := by decide +kernel
theorem dM_fresh_125 : decode cM_fresh 125 = .ok (.bipush 40, 2) := by decide +kernel
theorem dM_fresh_127 : decode cM_fresh 127 = .ok (.iload 4, 2) := by decide +kernel
theorem dM_fresh_129 : decode cM_fresh 129 = .ok (.imul, 1) := by decide +kernel
theorem dM_fresh_130 : decode cM_fresh 130 = .ok (.iload 8, 2) := by decide +kernel
theorem dM_fresh_132 : decode cM_fresh 132 = .ok (.iadd, 1) := by decide +kernel
theorem dM_fresh_133 : decode cM_fresh 133 = .ok (.baload, 1) := by decide +kernel
theorem dM_fresh_134 : decode cM_fresh 134 = .ok (.ifCond .ne 7, 3) := by decide +kernel
theorem dM_fresh_137 : decode cM_fresh 137 = .ok (.iconst 1, 1) := by decide +kernel
theorem dM_fresh_138 : decode cM_fresh 138 = .ok (.goto 4, 3) := by decide +kernel
theorem dM_fresh_141 : decode cM_fresh 141 = .ok (.iconst 0, 1) := by decide +kernel
theorem dM_fresh_142 : decode cM_fresh 142 = .ok (.istore 9, 2) := by decide +kernel
theorem dM_fresh_144 : decode cM_fresh 144 = .ok (.iload 7, 2) := by decide +kernel
theorem dM_fresh_146 : decode cM_fresh 146 = .ok (.iload 9, 2) := by decide +kernel
theorem dM_fresh_148 : decode cM_fresh 148 = .ok (.ifCond .eq 21, 3) := by decide +kernel
theorem dM_fresh_151 : decode cM_fresh 151 = .ok (.iload_n 3, 1) := by decide +kernel
theorem dM_fresh_152 : decode cM_fresh 152 = .ok (.ifCond .eq 13, 3) := by decide +kernel
theorem dM_fresh_155 : decode cM_fresh 155 = .ok (.aload_n 0, 1) := by decide +kernel
theorem dM_fresh_156 : decode cM_fresh 156 = .ok (.iload_n 1, 1) := by decide +kernel
theorem dM_fresh_157 : decode cM_fresh 157 = .ok (.iload 8, 2) := by decide +kernel
theorem dM_fresh_159 : decode cM_fresh 159 = .ok (.invokevirtual 61, 3) := by decide +kernel
theorem dM_fresh_162 : decode cM_fresh 162 = .ok (.ifCond .eq 7, 3) := by decide +kernel
theorem dM_fresh_165 : decode cM_fresh 165 = .ok (.iconst 1, 1) := by decide +kernel
theorem dM_fresh_166 : decode cM_fresh 166 = .ok (.goto 4, 3) := by decide +kernel
theorem dM_fresh_169 : decode cM_fresh 169 = .ok (.iconst 0, 1) := by decide +kernel
theorem dM_fresh_170 : decode cM_fresh 170 = .ok (.iadd, 1) := by decide +kernel
theorem dM_fresh_171 : decode cM_fresh 171 = .ok (.istore 7, 2) := by decide +kernel
theorem dM_fresh_173 : decode cM_fresh 173 = .ok (.iinc 8 1, 3) := by decide +kernel
theorem dM_fresh_176 : decode cM_fresh 176 = .ok (.goto (-79), 3) := by decide +kernel
theorem dM_fresh_179 : decode cM_fresh 179 = .ok (.iload 7, 2) := by decide +kernel
theorem dM_fresh_181 : decode cM_fresh 181 = .ok (.ireturn, 1) := by decide +kernel
theorem dM_falls_0 : decode cM_falls 0 = .ok (.iload_n 1, 1) := by decide +kernel
theorem dM_falls_1 : decode cM_falls 1 = .ok (.aload_n 0, 1) := by decide +kernel
theorem dM_falls_2 : decode cM_falls 2 = .ok (.getfield 50, 3) := by decide +kernel
theorem dM_falls_5 : decode cM_falls 5 = .ok (.invokestatic 46, 3) := by decide +kernel
theorem dM_falls_8 : decode cM_falls 8 = .ok (.ifCond .eq 22, 3) := by decide +kernel
theorem dM_falls_11 : decode cM_falls 11 = .ok (.iload_n 2, 1) := by decide +kernel
theorem dM_falls_12 : decode cM_falls 12 = .ok (.aload_n 0, 1) := by decide +kernel
theorem dM_falls_13 : decode cM_falls 13 = .ok (.getfield 50, 3) := by decide +kernel
theorem dM_falls_16 : decode cM_falls 16 = .ok (.invokestatic 46, 3) := by decide +kernel
theorem dM_falls_19 : decode cM_falls 19 = .ok (.ifCond .eq 11, 3) := by decide +kernel
theorem dM_falls_22 : decode cM_falls 22 = .ok (.iload_n 3, 1) := by decide +kernel
theorem dM_falls_23 : decode cM_falls 23 = .ok (.iconst 4, 1) := by decide +kernel
theorem dM_falls_24 : decode cM_falls 24 = .ok (.invokestatic 46, 3) := by decide +kernel
theorem dM_falls_27 : decode cM_falls 27 = .ok (.ifCond .ne 6, 3) := by decide +kernel
theorem dM_falls_30 : decode cM_falls 30 = .ok (.bipush (-2), 2) := by decide +kernel
theorem dM_falls_32 : decode cM_falls 32 = .ok (.ireturn, 1) := by decide +kernel
theorem dM_falls_33 : decode cM_falls 33 = .ok (.aload_n 0, 1) := by decide +kernel
theorem dM_falls_34 : decode cM_falls 34 = .ok (.iload_n 1, 1) := by decide +kernel
theorem dM_falls_35 : decode cM_falls 35 = .ok (.iload_n 3, 1) := by decide +kernel
theorem dM_falls_36 : decode cM_falls 36 = .ok (.iconst 0, 1) := by decide +kernel
theorem dM_falls_37 : decode cM_falls 37 = .ok (.invokevirtual 72, 3) := by decide +kernel
theorem dM_falls_40 : decode cM_falls 40 = .ok (.istore 4, 2) := by decide +kernel
theorem dM_falls_42 : decode cM_falls 42 = .ok (.aload_n 0, 1) := by decide +kernel
theorem dM_falls_43 : decode cM_falls 43 = .ok (.iload_n 2, 1) := by decide +kernel
theorem dM_falls_44 : decode cM_falls 44 = .ok (.iload_n 3, 1) := by decide +kernel
theorem dM_falls_45 : decode cM_falls 45 = .ok (.iconst 0, 1) := by decide +kernel
theorem dM_falls_46 : decode cM_falls 46 = .ok (.invokevirtual 72, 3) := by decide +kernel
theorem dM_falls_49 : decode cM_falls 49 = .ok (.istore 5, 2) := by decide +kernel
theorem dM_falls_51 : decode cM_falls 51 = .ok (.iload 4, 2) := by decide +kernel
theorem dM_falls_53 : decode cM_falls 53 = .ok (.ifCond .eq 8, 3) := by decide +kernel
theorem dM_falls_56 : decode cM_falls 56 = .ok (.iload 5, 2) := by decide +kernel
theorem dM_falls_58 : decode cM_falls 58 = .ok (.ifCond .ne 5, 3) := by decide +kernel
theorem dM_falls_61 : decode cM_falls 61 = .ok (.iconst (-1), 1) := by decide +kernel
theorem dM_falls_62 : decode cM_falls 62 = .ok (.ireturn, 1) := by decide +kernel
theorem dM_falls_63 : decode cM_falls 63 = .ok (.aload_n 0, 1) := by decide +kernel
theorem dM_falls_64 : decode cM_falls 64 = .ok (.iload_n 1, 1) := by decide +kernel
theorem dM_falls_65 : decode cM_falls 65 = .ok (.iload_n 3, 1) := by decide +kernel
theorem dM_falls_66 : decode cM_falls 66 = .ok (.iconst 1, 1) := by decide +kernel
theorem dM_falls_67 : decode cM_falls 67 = .ok (.invokevirtual 72, 3) := by decide +kernel
theorem dM_falls_70 : decode cM_falls 70 = .ok (.iload 5, 2) := by decide +kernel
theorem dM_falls_72 : decode cM_falls 72 = .ok (.imul, 1) := by decide +kernel
theorem dM_falls_73 : decode cM_falls 73 = .ok (.aload_n 0, 1) := by decide +kernel
theorem dM_falls_74 : decode cM_falls 74 = .ok (.iload_n 2, 1) := by decide +kernel
theorem dM_falls_75 : decode cM_falls 75 = .ok (.iload_n 3, 1) := by decide +kernel
theorem dM_falls_76 : decode cM_falls 76 = .ok (.iconst 1, 1) := by decide +kernel
theorem dM_falls_77 : decode cM_falls 77 = .ok (.invokevirtual 72, 3) := by decide +kernel
theorem dM_falls_80 : decode cM_falls 80 = .ok (.iload 4, 2) := by decide +kernel
theorem dM_falls_82 : decode cM_falls 82 = .ok (.imul, 1) := by decide +kernel
theorem dM_falls_83 : decode cM_falls 83 = .ok (.if_icmp .ge 7, 3) := by decide +kernel
theorem dM_falls_86 : decode cM_falls 86 = .ok (.iconst 1, 1) := by decide +kernel
theorem dM_falls_87 : decode cM_falls 87 = .ok (.goto 4, 3) := by decide +kernel
theorem dM_falls_90 : decode cM_falls 90 = .ok (.iconst 0, 1) := by decide +kernel
theorem dM_falls_91 : decode cM_falls 91 = .ok (.ireturn, 1) := by decide +kernel
theorem dM_dead_0 : decode cM_dead 0 = .ok (.iconst 0, 1) := by decide +kernel
theorem dM_dead_1 : decode cM_dead 1 = .ok (.istore_n 2, 1) := by decide +kernel
theorem dM_dead_2 : decode cM_dead 2 = .ok (.lconst 0, 1) := by decide +kernel
theorem dM_dead_3 : decode cM_dead 3 = .ok (.lstore_n 3, 1) := by decide +kernel
theorem dM_dead_4 : decode cM_dead 4 = .ok (.iconst 0, 1) := by decide +kernel
theorem dM_dead_5 : decode cM_dead 5 = .ok (.istore 5, 2) := by decide +kernel
theorem dM_dead_7 : decode cM_dead 7 = .ok (.iload 5, 2) := by decide +kernel
theorem dM_dead_9 : decode cM_dead 9 = .ok (.aload_n 0, 1) := by decide +kernel
theorem dM_dead_10 : decode cM_dead 10 = .ok (.getfield 50, 3) := by decide +kernel
theorem dM_dead_13 : decode cM_dead 13 = .ok (.if_icmp .ge 59, 3) := by decide +kernel
theorem dM_dead_16 : decode cM_dead 16 = .ok (.aload_n 0, 1) := by decide +kernel
theorem dM_dead_17 : decode cM_dead 17 = .ok (.getfield 26, 3) := by decide +kernel
theorem dM_dead_20 : decode cM_dead 20 = .ok (.iload 5, 2) := by decide +kernel
theorem dM_dead_22 : decode cM_dead 22 = .ok (.iaload, 1) := by decide +kernel
theorem dM_dead_23 : decode cM_dead 23 = .ok (.iload_n 1, 1) := by decide +kernel
theorem dM_dead_24 : decode cM_dead 24 = .ok (.if_icmp .ne 42, 3) := by decide +kernel
theorem dM_dead_27 : decode cM_dead 27 = .ok (.iload_n 2, 1) := by decide +kernel
theorem dM_dead_28 : decode cM_dead 28 = .ok (.aload_n 0, 1) := by decide +kernel
theorem dM_dead_29 : decode cM_dead 29 = .ok (.getfield 32, 3) := by decide +kernel
theorem dM_dead_32 : decode cM_dead 32 = .ok (.iload 5, 2) := by decide +kernel
theorem dM_dead_34 : decode cM_dead 34 = .ok (.laload, 1) := by decide +kernel
theorem dM_dead_35 : decode cM_dead 35 = .ok (.lload_n 3, 1) := by decide +kernel
theorem dM_dead_36 : decode cM_dead 36 = .ok (.ldc2_w 76, 3) := by decide +kernel
theorem dM_dead_39 : decode cM_dead 39 = .ok (.lxor, 1) := by decide +kernel
theorem dM_dead_40 : decode cM_dead 40 = .ok (.land, 1) := by decide +kernel
theorem dM_dead_41 : decode cM_dead 41 = .ok (.lconst 0, 1) := by decide +kernel
theorem dM_dead_42 : decode cM_dead 42 = .ok (.lcmp, 1) := by decide +kernel
theorem dM_dead_43 : decode cM_dead 43 = .ok (.ifCond .ne 10, 3) := by decide +kernel
theorem dM_dead_46 : decode cM_dead 46 = .ok (.iconst 1, 1) := by decide +kernel
theorem dM_dead_47 : decode cM_dead 47 = .ok (.iload 5, 2) := by decide +kernel
theorem dM_dead_49 : decode cM_dead 49 = .ok (.ishl, 1) := by decide +kernel
theorem dM_dead_50 : decode cM_dead 50 = .ok (.goto 4, 3) := by decide +kernel
theorem dM_dead_53 : decode cM_dead 53 = .ok (.iconst 0, 1) := by decide +kernel
theorem dM_dead_54 : decode cM_dead 54 = .ok (.ior, 1) := by decide +kernel
theorem dM_dead_55 : decode cM_dead 55 = .ok (.istore_n 2, 1) := by decide +kernel
theorem dM_dead_56 : decode cM_dead 56 = .ok (.lload_n 3, 1) := by decide +kernel
theorem dM_dead_57 : decode cM_dead 57 = .ok (.aload_n 0, 1) := by decide +kernel
theorem dM_dead_58 : decode cM_dead 58 = .ok (.getfield 32, 3) := by decide +kernel
theorem dM_dead_61 : decode cM_dead 61 = .ok (.iload 5, 2) := by decide +kernel
theorem dM_dead_63 : decode cM_dead 63 = .ok (.laload, 1) := by decide +kernel
theorem dM_dead_64 : decode cM_dead 64 = .ok (.lor, 1) := by decide +kernel
theorem dM_dead_65 : decode cM_dead 65 = .ok (.lstore_n 3, 1) := by decide +kernel
theorem dM_dead_66 : decode cM_dead 66 = .ok (.iinc 5 1, 3) := by decide +kernel
theorem dM_dead_69 : decode cM_dead 69 = .ok (.goto (-62), 3) := by decide +kernel
theorem dM_dead_72 : decode cM_dead 72 = .ok (.iload_n 2, 1) := by decide +kernel
theorem dM_dead_73 : decode cM_dead 73 = .ok (.ireturn, 1) := by decide +kernel
theorem dM_least_0 : decode cM_least 0 = .ok (.iload_n 1, 1) := by decide +kernel
theorem dM_least_1 : decode cM_least 1 = .ok (.aload_n 0, 1) := by decide +kernel
theorem dM_least_2 : decode cM_least 2 = .ok (.getfield 42, 3) := by decide +kernel
theorem dM_least_5 : decode cM_least 5 = .ok (.invokestatic 46, 3) := by decide +kernel
theorem dM_least_8 : decode cM_least 8 = .ok (.ifCond .ne 5, 3) := by decide +kernel
theorem dM_least_11 : decode cM_least 11 = .ok (.iconst (-1), 1) := by decide +kernel
theorem dM_least_12 : decode cM_least 12 = .ok (.ireturn, 1) := by decide +kernel
theorem dM_least_13 : decode cM_least 13 = .ok (.iconst 0, 1) := by decide +kernel
theorem dM_least_14 : decode cM_least 14 = .ok (.istore_n 2, 1) := by decide +kernel
theorem dM_least_15 : decode cM_least 15 = .ok (.lconst 0, 1) := by decide +kernel
theorem dM_least_16 : decode cM_least 16 = .ok (.lstore_n 3, 1) := by decide +kernel
theorem dM_least_17 : decode cM_least 17 = .ok (.iconst 0, 1) := by decide +kernel
theorem dM_least_18 : decode cM_least 18 = .ok (.istore 5, 2) := by decide +kernel
theorem dM_least_20 : decode cM_least 20 = .ok (.iload 5, 2) := by decide +kernel
theorem dM_least_22 : decode cM_least 22 = .ok (.aload_n 0, 1) := by decide +kernel
theorem dM_least_23 : decode cM_least 23 = .ok (.getfield 50, 3) := by decide +kernel
theorem dM_least_26 : decode cM_least 26 = .ok (.if_icmp .ge 37, 3) := by decide +kernel
theorem dM_least_29 : decode cM_least 29 = .ok (.aload_n 0, 1) := by decide +kernel
theorem dM_least_30 : decode cM_least 30 = .ok (.getfield 26, 3) := by decide +kernel
theorem dM_least_33 : decode cM_least 33 = .ok (.iload 5, 2) := by decide +kernel
theorem dM_least_35 : decode cM_least 35 = .ok (.iaload, 1) := by decide +kernel
theorem dM_least_36 : decode cM_least 36 = .ok (.iload_n 1, 1) := by decide +kernel
theorem dM_least_37 : decode cM_least 37 = .ok (.if_icmp .ne 20, 3) := by decide +kernel
theorem dM_least_40 : decode cM_least 40 = .ok (.iload_n 2, 1) := by decide +kernel
theorem dM_least_41 : decode cM_least 41 = .ok (.iconst 1, 1) := by decide +kernel
theorem dM_least_42 : decode cM_least 42 = .ok (.iload 5, 2) := by decide +kernel
theorem dM_least_44 : decode cM_least 44 = .ok (.ishl, 1) := by decide +kernel
theorem dM_least_45 : decode cM_least 45 = .ok (.ior, 1) := by decide +kernel
theorem dM_least_46 : decode cM_least 46 = .ok (.istore_n 2, 1) := by decide +kernel
theorem dM_least_47 : decode cM_least 47 = .ok (.lload_n 3, 1) := by decide +kernel
theorem dM_least_48 : decode cM_least 48 = .ok (.aload_n 0, 1) := by decide +kernel
theorem dM_least_49 : decode cM_least 49 = .ok (.getfield 32, 3) := by decide +kernel
theorem dM_least_52 : decode cM_least 52 = .ok (.iload 5, 2) := by decide +kernel
theorem dM_least_54 : decode cM_least 54 = .ok (.laload, 1) := by decide +kernel
theorem dM_least_55 : decode cM_least 55 = .ok (.lor, 1) := by decide +kernel
theorem dM_least_56 : decode cM_least 56 = .ok (.lstore_n 3, 1) := by decide +kernel
theorem dM_least_57 : decode cM_least 57 = .ok (.iinc 5 1, 3) := by decide +kernel
theorem dM_least_60 : decode cM_least 60 = .ok (.goto (-40), 3) := by decide +kernel
theorem dM_least_63 : decode cM_least 63 = .ok (.iconst (-1), 1) := by decide +kernel
theorem dM_least_64 : decode cM_least 64 = .ok (.istore 5, 2) := by decide +kernel
theorem dM_least_66 : decode cM_least 66 = .ok (.iconst 0, 1) := by decide +kernel
theorem dM_least_67 : decode cM_least 67 = .ok (.istore 6, 2) := by decide +kernel
theorem dM_least_69 : decode cM_least 69 = .ok (.iconst 0, 1) := by decide +kernel
theorem dM_least_70 : decode cM_least 70 = .ok (.istore 7, 2) := by decide +kernel
theorem dM_least_72 : decode cM_least 72 = .ok (.iload 7, 2) := by decide +kernel
theorem dM_least_74 : decode cM_least 74 = .ok (.iconst 1, 1) := by decide +kernel
theorem dM_least_75 : decode cM_least 75 = .ok (.aload_n 0, 1) := by decide +kernel
theorem dM_least_76 : decode cM_least 76 = .ok (.getfield 50, 3) := by decide +kernel
theorem dM_least_79 : decode cM_least 79 = .ok (.ishl, 1) := by decide +kernel
theorem dM_least_80 : decode cM_least 80 = .ok (.if_icmp .ge 137, 3) := by decide +kernel
theorem dM_least_83 : decode cM_least 83 = .ok (.iload 7, 2) := by decide +kernel
theorem dM_least_85 : decode cM_least 85 = .ok (.iload_n 2, 1) := by decide +kernel
theorem dM_least_86 : decode cM_least 86 = .ok (.iconst (-1), 1) := by decide +kernel
theorem dM_least_87 : decode cM_least 87 = .ok (.ixor, 1) := by decide +kernel
theorem dM_least_88 : decode cM_least 88 = .ok (.iand, 1) := by decide +kernel
theorem dM_least_89 : decode cM_least 89 = .ok (.ifCond .ne 122, 3) := by decide +kernel
theorem dM_least_92 : decode cM_least 92 = .ok (.lconst 0, 1) := by decide +kernel
theorem dM_least_93 : decode cM_least 93 = .ok (.lstore 8, 2) := by decide +kernel
theorem dM_least_95 : decode cM_least 95 = .ok (.iconst 0, 1) := by decide +kernel
theorem dM_least_96 : decode cM_least 96 = .ok (.istore 10, 2) := by decide +kernel
theorem dM_least_98 : decode cM_least 98 = .ok (.iconst 0, 1) := by decide +kernel
theorem dM_least_99 : decode cM_least 99 = .ok (.istore 11, 2) := by decide +kernel
theorem dM_least_101 : decode cM_least 101 = .ok (.iload 11, 2) := by decide +kernel
theorem dM_least_103 : decode cM_least 103 = .ok (.aload_n 0, 1) := by decide +kernel
theorem dM_least_104 : decode cM_least 104 = .ok (.getfield 50, 3) := by decide +kernel
theorem dM_least_107 : decode cM_least 107 = .ok (.if_icmp .ge 44, 3) := by decide +kernel
theorem dM_least_110 : decode cM_least 110 = .ok (.iload 7, 2) := by decide +kernel
theorem dM_least_112 : decode cM_least 112 = .ok (.iload 11, 2) := by decide +kernel
theorem dM_least_114 : decode cM_least 114 = .ok (.ishr, 1) := by decide +kernel
theorem dM_least_115 : decode cM_least 115 = .ok (.iconst 1, 1) := by decide +kernel
theorem dM_least_116 : decode cM_least 116 = .ok (.iand, 1) := by decide +kernel
theorem dM_least_117 : decode cM_least 117 = .ok (.iconst 1, 1) := by decide +kernel
theorem dM_least_118 : decode cM_least 118 = .ok (.if_icmp .ne 27, 3) := by decide +kernel
theorem dM_least_121 : decode cM_least 121 = .ok (.lload 8, 2) := by decide +kernel
theorem dM_least_123 : decode cM_least 123 = .ok (.aload_n 0, 1) := by decide +kernel
theorem dM_least_124 : decode cM_least 124 = .ok (.getfield 32, 3) := by decide +kernel
theorem dM_least_127 : decode cM_least 127 = .ok (.iload 11, 2) := by decide +kernel
theorem dM_least_129 : decode cM_least 129 = .ok (.laload, 1) := by decide +kernel
theorem dM_least_130 : decode cM_least 130 = .ok (.lor, 1) := by decide +kernel
theorem dM_least_131 : decode cM_least 131 = .ok (.lstore 8, 2) := by decide +kernel
theorem dM_least_133 : decode cM_least 133 = .ok (.iload 10, 2) := by decide +kernel
theorem dM_least_135 : decode cM_least 135 = .ok (.aload_n 0, 1) := by decide +kernel
theorem dM_least_136 : decode cM_least 136 = .ok (.getfield 29, 3) := by decide +kernel
theorem dM_least_139 : decode cM_least 139 = .ok (.iload 11, 2) := by decide +kernel
theorem dM_least_141 : decode cM_least 141 = .ok (.iaload, 1) := by decide +kernel
theorem dM_least_142 : decode cM_least 142 = .ok (.iadd, 1) := by decide +kernel
theorem dM_least_143 : decode cM_least 143 = .ok (.istore 10, 2) := by decide +kernel
theorem dM_least_145 : decode cM_least 145 = .ok (.iinc 11 1, 3) := by decide +kernel
theorem dM_least_148 : decode cM_least 148 = .ok (.goto (-47), 3) := by decide +kernel
theorem dM_least_151 : decode cM_least 151 = .ok (.iload 5, 2) := by decide +kernel
theorem dM_least_153 : decode cM_least 153 = .ok (.iconst (-1), 1) := by decide +kernel
theorem dM_least_154 : decode cM_least 154 = .ok (.if_icmp .eq 30, 3) := by decide +kernel
theorem dM_least_157 : decode cM_least 157 = .ok (.iload 10, 2) := by decide +kernel
theorem dM_least_159 : decode cM_least 159 = .ok (.iload 6, 2) := by decide +kernel
theorem dM_least_161 : decode cM_least 161 = .ok (.if_icmp .lt 23, 3) := by decide +kernel
theorem dM_least_164 : decode cM_least 164 = .ok (.iload 10, 2) := by decide +kernel
theorem dM_least_166 : decode cM_least 166 = .ok (.iload 6, 2) := by decide +kernel
theorem dM_least_168 : decode cM_least 168 = .ok (.if_icmp .ne 20, 3) := by decide +kernel
theorem dM_least_171 : decode cM_least 171 = .ok (.iload 7, 2) := by decide +kernel
theorem dM_least_173 : decode cM_least 173 = .ok (.invokestatic 78, 3) := by decide +kernel
theorem dM_least_176 : decode cM_least 176 = .ok (.iload 5, 2) := by decide +kernel
theorem dM_least_178 : decode cM_least 178 = .ok (.invokestatic 78, 3) := by decide +kernel
theorem dM_least_181 : decode cM_least 181 = .ok (.if_icmp .ge 7, 3) := by decide +kernel
theorem dM_least_184 : decode cM_least 184 = .ok (.iconst 1, 1) := by decide +kernel
theorem dM_least_185 : decode cM_least 185 = .ok (.goto 4, 3) := by decide +kernel
theorem dM_least_188 : decode cM_least 188 = .ok (.iconst 0, 1) := by decide +kernel
theorem dM_least_189 : decode cM_least 189 = .ok (.istore 11, 2) := by decide +kernel
theorem dM_least_191 : decode cM_least 191 = .ok (.lload 8, 2) := by decide +kernel
theorem dM_least_193 : decode cM_least 193 = .ok (.lload_n 3, 1) := by decide +kernel
theorem dM_least_194 : decode cM_least 194 = .ok (.lcmp, 1) := by decide +kernel
theorem dM_least_195 : decode cM_least 195 = .ok (.ifCond .ne 16, 3) := by decide +kernel
theorem dM_least_198 : decode cM_least 198 = .ok (.iload 11, 2) := by decide +kernel
theorem dM_least_200 : decode cM_least 200 = .ok (.ifCond .eq 11, 3) := by decide +kernel
theorem dM_least_203 : decode cM_least 203 = .ok (.iload 7, 2) := by decide +kernel
theorem dM_least_205 : decode cM_least 205 = .ok (.istore 5, 2) := by decide +kernel
theorem dM_least_207 : decode cM_least 207 = .ok (.iload 10, 2) := by decide +kernel
theorem dM_least_209 : decode cM_least 209 = .ok (.istore 6, 2) := by decide +kernel
theorem dM_least_211 : decode cM_least 211 = .ok (.iinc 7 1, 3) := by decide +kernel
theorem dM_least_214 : decode cM_least 214 = .ok (.goto (-142), 3) := by decide +kernel
theorem dM_least_217 : decode cM_least 217 = .ok (.aload_n 0, 1) := by decide +kernel
theorem dM_least_218 : decode cM_least 218 = .ok (.iload 5, 2) := by decide +kernel
theorem dM_least_220 : decode cM_least 220 = .ok (.putfield 82, 3) := by decide +kernel
theorem dM_least_223 : decode cM_least 223 = .ok (.iload 6, 2) := by decide +kernel
theorem dM_least_225 : decode cM_least 225 = .ok (.ireturn, 1) := by decide +kernel
theorem dM_ones_0 : decode cM_ones 0 = .ok (.iconst 0, 1) := by decide +kernel
theorem dM_ones_1 : decode cM_ones 1 = .ok (.istore_n 1, 1) := by decide +kernel
theorem dM_ones_2 : decode cM_ones 2 = .ok (.iconst 0, 1) := by decide +kernel
theorem dM_ones_3 : decode cM_ones 3 = .ok (.istore_n 2, 1) := by decide +kernel
theorem dM_ones_4 : decode cM_ones 4 = .ok (.iload_n 2, 1) := by decide +kernel
theorem dM_ones_5 : decode cM_ones 5 = .ok (.bipush 14, 2) := by decide +kernel
theorem dM_ones_7 : decode cM_ones 7 = .ok (.if_icmp .ge 17, 3) := by decide +kernel
theorem dM_ones_10 : decode cM_ones 10 = .ok (.iload_n 1, 1) := by decide +kernel
theorem dM_ones_11 : decode cM_ones 11 = .ok (.iload_n 0, 1) := by decide +kernel
theorem dM_ones_12 : decode cM_ones 12 = .ok (.iload_n 2, 1) := by decide +kernel
theorem dM_ones_13 : decode cM_ones 13 = .ok (.ishr, 1) := by decide +kernel
theorem dM_ones_14 : decode cM_ones 14 = .ok (.iconst 1, 1) := by decide +kernel
theorem dM_ones_15 : decode cM_ones 15 = .ok (.iand, 1) := by decide +kernel
theorem dM_ones_16 : decode cM_ones 16 = .ok (.iadd, 1) := by decide +kernel
theorem dM_ones_17 : decode cM_ones 17 = .ok (.istore_n 1, 1) := by decide +kernel
theorem dM_ones_18 : decode cM_ones 18 = .ok (.iinc 2 1, 3) := by decide +kernel
theorem dM_ones_21 : decode cM_ones 21 = .ok (.goto (-17), 3) := by decide +kernel
theorem dM_ones_24 : decode cM_ones 24 = .ok (.iload_n 1, 1) := by decide +kernel
theorem dM_ones_25 : decode cM_ones 25 = .ok (.ireturn, 1) := by decide +kernel
theorem dM_chosen_0 : decode cM_chosen 0 = .ok (.aload_n 0, 1) := by decide +kernel
theorem dM_chosen_1 : decode cM_chosen 1 = .ok (.getfield 82, 3) := by decide +kernel
theorem dM_chosen_4 : decode cM_chosen 4 = .ok (.ireturn, 1) := by decide +kernel
theorem dM_about_0 : decode cM_about 0 = .ok (.iload_n 1, 1) := by decide +kernel
theorem dM_about_1 : decode cM_about 1 = .ok (.aload_n 0, 1) := by decide +kernel
theorem dM_about_2 : decode cM_about 2 = .ok (.getfield 50, 3) := by decide +kernel
theorem dM_about_5 : decode cM_about 5 = .ok (.invokestatic 46, 3) := by decide +kernel
theorem dM_about_8 : decode cM_about 8 = .ok (.ifCond .ne 5, 3) := by decide +kernel
theorem dM_about_11 : decode cM_about 11 = .ok (.iconst (-1), 1) := by decide +kernel
theorem dM_about_12 : decode cM_about 12 = .ok (.ireturn, 1) := by decide +kernel
theorem dM_about_13 : decode cM_about 13 = .ok (.iload_n 2, 1) := by decide +kernel
theorem dM_about_14 : decode cM_about 14 = .ok (.ifCond .ne 10, 3) := by decide +kernel
theorem dM_about_17 : decode cM_about 17 = .ok (.aload_n 0, 1) := by decide +kernel
theorem dM_about_18 : decode cM_about 18 = .ok (.getfield 26, 3) := by decide +kernel
theorem dM_about_21 : decode cM_about 21 = .ok (.iload_n 1, 1) := by decide +kernel
theorem dM_about_22 : decode cM_about 22 = .ok (.iaload, 1) := by decide +kernel
theorem dM_about_23 : decode cM_about 23 = .ok (.ireturn, 1) := by decide +kernel
theorem dM_about_24 : decode cM_about 24 = .ok (.iconst 0, 1) := by decide +kernel
theorem dM_about_25 : decode cM_about 25 = .ok (.istore_n 3, 1) := by decide +kernel
theorem dM_about_26 : decode cM_about 26 = .ok (.iconst 0, 1) := by decide +kernel
theorem dM_about_27 : decode cM_about 27 = .ok (.istore 4, 2) := by decide +kernel
theorem dM_about_29 : decode cM_about 29 = .ok (.iload 4, 2) := by decide +kernel
theorem dM_about_31 : decode cM_about 31 = .ok (.bipush 40, 2) := by decide +kernel
theorem dM_about_33 : decode cM_about 33 = .ok (.if_icmp .ge 27, 3) := by decide +kernel
theorem dM_about_36 : decode cM_about 36 = .ok (.iload_n 3, 1) := by decide +kernel
theorem dM_about_37 : decode cM_about 37 = .ok (.aload_n 0, 1) := by decide +kernel
theorem dM_about_38 : decode cM_about 38 = .ok (.iload_n 1, 1) := by decide +kernel
theorem dM_about_39 : decode cM_about 39 = .ok (.iload 4, 2) := by decide +kernel
theorem dM_about_41 : decode cM_about 41 = .ok (.invokevirtual 61, 3) := by decide +kernel
theorem dM_about_44 : decode cM_about 44 = .ok (.ifCond .eq 7, 3) := by decide +kernel
theorem dM_about_47 : decode cM_about 47 = .ok (.iconst 1, 1) := by decide +kernel
theorem dM_about_48 : decode cM_about 48 = .ok (.goto 4, 3) := by decide +kernel
theorem dM_about_51 : decode cM_about 51 = .ok (.iconst 0, 1) := by decide +kernel
theorem dM_about_52 : decode cM_about 52 = .ok (.iadd, 1) := by decide +kernel
theorem dM_about_53 : decode cM_about 53 = .ok (.istore_n 3, 1) := by decide +kernel
theorem dM_about_54 : decode cM_about 54 = .ok (.iinc 4 1, 3) := by decide +kernel
theorem dM_about_57 : decode cM_about 57 = .ok (.goto (-28), 3) := by decide +kernel
theorem dM_about_60 : decode cM_about 60 = .ok (.iload_n 2, 1) := by decide +kernel
theorem dM_about_61 : decode cM_about 61 = .ok (.iconst 1, 1) := by decide +kernel
theorem dM_about_62 : decode cM_about 62 = .ok (.if_icmp .ne 12, 3) := by decide +kernel
theorem dM_about_65 : decode cM_about 65 = .ok (.aload_n 0, 1) := by decide +kernel
theorem dM_about_66 : decode cM_about 66 = .ok (.getfield 29, 3) := by decide +kernel
theorem dM_about_69 : decode cM_about 69 = .ok (.iload_n 1, 1) := by decide +kernel
theorem dM_about_70 : decode cM_about 70 = .ok (.iaload, 1) := by decide +kernel
theorem dM_about_71 : decode cM_about 71 = .ok (.goto 13, 3) := by decide +kernel
theorem dM_about_74 : decode cM_about 74 = .ok (.iload_n 2, 1) := by decide +kernel
theorem dM_about_75 : decode cM_about 75 = .ok (.iconst 2, 1) := by decide +kernel
theorem dM_about_76 : decode cM_about 76 = .ok (.if_icmp .ne 7, 3) := by decide +kernel
theorem dM_about_79 : decode cM_about 79 = .ok (.iload_n 3, 1) := by decide +kernel
theorem dM_about_80 : decode cM_about 80 = .ok (.goto 4, 3) := by decide +kernel
theorem dM_about_83 : decode cM_about 83 = .ok (.iconst (-1), 1) := by decide +kernel
theorem dM_about_84 : decode cM_about 84 = .ok (.ireturn, 1) := by decide +kernel
theorem dL_law_0 : decode cL_law 0 = .ok (.new 7, 3) := by decide +kernel
theorem dL_law_3 : decode cL_law 3 = .ok (.dup, 1) := by decide +kernel
theorem dL_law_4 : decode cL_law 4 = .ok (.invokespecial 9, 3) := by decide +kernel
theorem dL_law_7 : decode cL_law 7 = .ok (.astore_n 1, 1) := by decide +kernel
theorem dL_law_8 : decode cL_law 8 = .ok (.new 10, 3) := by decide +kernel
theorem dL_law_11 : decode cL_law 11 = .ok (.dup, 1) := by decide +kernel
theorem dL_law_12 : decode cL_law 12 = .ok (.invokespecial 12, 3) := by decide +kernel
theorem dL_law_15 : decode cL_law 15 = .ok (.astore_n 2, 1) := by decide +kernel
theorem dL_law_16 : decode cL_law 16 = .ok (.iconst 0, 1) := by decide +kernel
theorem dL_law_17 : decode cL_law 17 = .ok (.istore_n 3, 1) := by decide +kernel
theorem dL_law_18 : decode cL_law 18 = .ok (.iload_n 3, 1) := by decide +kernel
theorem dL_law_19 : decode cL_law 19 = .ok (.aload_n 0, 1) := by decide +kernel
theorem dL_law_20 : decode cL_law 20 = .ok (.arraylength, 1) := by decide +kernel
theorem dL_law_21 : decode cL_law 21 = .ok (.iconst 5, 1) := by decide +kernel
theorem dL_law_22 : decode cL_law 22 = .ok (.isub, 1) := by decide +kernel
theorem dL_law_23 : decode cL_law 23 = .ok (.if_icmp .gt 661, 3) := by decide +kernel
theorem dL_law_26 : decode cL_law 26 = .ok (.aload_n 0, 1) := by decide +kernel
theorem dL_law_27 : decode cL_law 27 = .ok (.iload_n 3, 1) := by decide +kernel
theorem dL_law_28 : decode cL_law 28 = .ok (.iaload, 1) := by decide +kernel
theorem dL_law_29 : decode cL_law 29 = .ok (.bipush 15, 2) := by decide +kernel
theorem dL_law_31 : decode cL_law 31 = .ok (.iand, 1) := by decide +kernel
theorem dL_law_32 : decode cL_law 32 = .ok (.tableswitch 646 0 15 #[80, 93, 162, 185, 218, 251, 284, 317, 350, 393, 452, 511, 554, 577, 600, 613], 80) := by decide +kernel
theorem dL_law_112 : decode cL_law 112 = .ok (.aload_n 1, 1) := by decide +kernel
theorem dL_law_113 : decode cL_law 113 = .ok (.invokevirtual 13, 3) := by decide +kernel
theorem dL_law_116 : decode cL_law 116 = .ok (.aload_n 2, 1) := by decide +kernel
theorem dL_law_117 : decode cL_law 117 = .ok (.invokevirtual 17, 3) := by decide +kernel
theorem dL_law_120 : decode cL_law 120 = .ok (.if_icmp .eq 558, 3) := by decide +kernel
theorem dL_law_123 : decode cL_law 123 = .ok (.iconst 0, 1) := by decide +kernel
theorem dL_law_124 : decode cL_law 124 = .ok (.ireturn, 1) := by decide +kernel
theorem dL_law_125 : decode cL_law 125 = .ok (.aload_n 1, 1) := by decide +kernel
theorem dL_law_126 : decode cL_law 126 = .ok (.aload_n 0, 1) := by decide +kernel
theorem dL_law_127 : decode cL_law 127 = .ok (.iload_n 3, 1) := by decide +kernel
theorem dL_law_128 : decode cL_law 128 = .ok (.iconst 1, 1) := by decide +kernel
theorem dL_law_129 : decode cL_law 129 = .ok (.iadd, 1) := by decide +kernel
theorem dL_law_130 : decode cL_law 130 = .ok (.iaload, 1) := by decide +kernel
theorem dL_law_131 : decode cL_law 131 = .ok (.aload_n 0, 1) := by decide +kernel
theorem dL_law_132 : decode cL_law 132 = .ok (.iload_n 3, 1) := by decide +kernel
theorem dL_law_133 : decode cL_law 133 = .ok (.iconst 2, 1) := by decide +kernel
theorem dL_law_134 : decode cL_law 134 = .ok (.iadd, 1) := by decide +kernel
theorem dL_law_135 : decode cL_law 135 = .ok (.iaload, 1) := by decide +kernel
theorem dL_law_136 : decode cL_law 136 = .ok (.aload_n 0, 1) := by decide +kernel
theorem dL_law_137 : decode cL_law 137 = .ok (.iload_n 3, 1) := by decide +kernel
theorem dL_law_138 : decode cL_law 138 = .ok (.iconst 3, 1) := by decide +kernel
theorem dL_law_139 : decode cL_law 139 = .ok (.iadd, 1) := by decide +kernel
theorem dL_law_140 : decode cL_law 140 = .ok (.iaload, 1) := by decide +kernel
theorem dL_law_141 : decode cL_law 141 = .ok (.aload_n 0, 1) := by decide +kernel
theorem dL_law_142 : decode cL_law 142 = .ok (.iload_n 3, 1) := by decide +kernel
theorem dL_law_143 : decode cL_law 143 = .ok (.iconst 4, 1) := by decide +kernel
theorem dL_law_144 : decode cL_law 144 = .ok (.iadd, 1) := by decide +kernel
theorem dL_law_145 : decode cL_law 145 = .ok (.iaload, 1) := by decide +kernel
theorem dL_law_146 : decode cL_law 146 = .ok (.ifCond .eq 7, 3) := by decide +kernel
theorem dL_law_149 : decode cL_law 149 = .ok (.iconst 1, 1) := by decide +kernel
theorem dL_law_150 : decode cL_law 150 = .ok (.goto 4, 3) := by decide +kernel
theorem dL_law_153 : decode cL_law 153 = .ok (.iconst 0, 1) := by decide +kernel
theorem dL_law_154 : decode cL_law 154 = .ok (.invokevirtual 18, 3) := by decide +kernel
theorem dL_law_157 : decode cL_law 157 = .ok (.aload_n 2, 1) := by decide +kernel
theorem dL_law_158 : decode cL_law 158 = .ok (.aload_n 0, 1) := by decide +kernel
theorem dL_law_159 : decode cL_law 159 = .ok (.iload_n 3, 1) := by decide +kernel
theorem dL_law_160 : decode cL_law 160 = .ok (.iconst 1, 1) := by decide +kernel
theorem dL_law_161 : decode cL_law 161 = .ok (.iadd, 1) := by decide +kernel
theorem dL_law_162 : decode cL_law 162 = .ok (.iaload, 1) := by decide +kernel
theorem dL_law_163 : decode cL_law 163 = .ok (.aload_n 0, 1) := by decide +kernel
theorem dL_law_164 : decode cL_law 164 = .ok (.iload_n 3, 1) := by decide +kernel
theorem dL_law_165 : decode cL_law 165 = .ok (.iconst 2, 1) := by decide +kernel
theorem dL_law_166 : decode cL_law 166 = .ok (.iadd, 1) := by decide +kernel
theorem dL_law_167 : decode cL_law 167 = .ok (.iaload, 1) := by decide +kernel
theorem dL_law_168 : decode cL_law 168 = .ok (.aload_n 0, 1) := by decide +kernel
theorem dL_law_169 : decode cL_law 169 = .ok (.iload_n 3, 1) := by decide +kernel
theorem dL_law_170 : decode cL_law 170 = .ok (.iconst 3, 1) := by decide +kernel
theorem dL_law_171 : decode cL_law 171 = .ok (.iadd, 1) := by decide +kernel
theorem dL_law_172 : decode cL_law 172 = .ok (.iaload, 1) := by decide +kernel
theorem dL_law_173 : decode cL_law 173 = .ok (.aload_n 0, 1) := by decide +kernel
theorem dL_law_174 : decode cL_law 174 = .ok (.iload_n 3, 1) := by decide +kernel
theorem dL_law_175 : decode cL_law 175 = .ok (.iconst 4, 1) := by decide +kernel
theorem dL_law_176 : decode cL_law 176 = .ok (.iadd, 1) := by decide +kernel
theorem dL_law_177 : decode cL_law 177 = .ok (.iaload, 1) := by decide +kernel
theorem dL_law_178 : decode cL_law 178 = .ok (.ifCond .eq 7, 3) := by decide +kernel
theorem dL_law_181 : decode cL_law 181 = .ok (.iconst 1, 1) := by decide +kernel
theorem dL_law_182 : decode cL_law 182 = .ok (.goto 4, 3) := by decide +kernel
theorem dL_law_185 : decode cL_law 185 = .ok (.iconst 0, 1) := by decide +kernel
theorem dL_law_186 : decode cL_law 186 = .ok (.invokevirtual 22, 3) := by decide +kernel
theorem dL_law_189 : decode cL_law 189 = .ok (.if_icmp .eq 489, 3) := by decide +kernel
theorem dL_law_192 : decode cL_law 192 = .ok (.iconst 0, 1) := by decide +kernel
theorem dL_law_193 : decode cL_law 193 = .ok (.ireturn, 1) := by decide +kernel
theorem dL_law_194 : decode cL_law 194 = .ok (.aload_n 1, 1) := by decide +kernel
theorem dL_law_195 : decode cL_law 195 = .ok (.aload_n 0, 1) := by decide +kernel
theorem dL_law_196 : decode cL_law 196 = .ok (.iload_n 3, 1) := by decide +kernel
theorem dL_law_197 : decode cL_law 197 = .ok (.iconst 1, 1) := by decide +kernel
theorem dL_law_198 : decode cL_law 198 = .ok (.iadd, 1) := by decide +kernel
theorem dL_law_199 : decode cL_law 199 = .ok (.iaload, 1) := by decide +kernel
theorem dL_law_200 : decode cL_law 200 = .ok (.invokevirtual 23, 3) := by decide +kernel
theorem dL_law_203 : decode cL_law 203 = .ok (.aload_n 2, 1) := by decide +kernel
theorem dL_law_204 : decode cL_law 204 = .ok (.aload_n 0, 1) := by decide +kernel
theorem dL_law_205 : decode cL_law 205 = .ok (.iload_n 3, 1) := by decide +kernel
theorem dL_law_206 : decode cL_law 206 = .ok (.iconst 1, 1) := by decide +kernel
theorem dL_law_207 : decode cL_law 207 = .ok (.iadd, 1) := by decide +kernel
theorem dL_law_208 : decode cL_law 208 = .ok (.iaload, 1) := by decide +kernel
theorem dL_law_209 : decode cL_law 209 = .ok (.invokevirtual 27, 3) := by decide +kernel
theorem dL_law_212 : decode cL_law 212 = .ok (.if_icmp .eq 466, 3) := by decide +kernel
theorem dL_law_215 : decode cL_law 215 = .ok (.iconst 0, 1) := by decide +kernel
theorem dL_law_216 : decode cL_law 216 = .ok (.ireturn, 1) := by decide +kernel
theorem dL_law_217 : decode cL_law 217 = .ok (.aload_n 1, 1) := by decide +kernel
theorem dL_law_218 : decode cL_law 218 = .ok (.aload_n 0, 1) := by decide +kernel
theorem dL_law_219 : decode cL_law 219 = .ok (.iload_n 3, 1) := by decide +kernel
theorem dL_law_220 : decode cL_law 220 = .ok (.iconst 1, 1) := by decide +kernel
theorem dL_law_221 : decode cL_law 221 = .ok (.iadd, 1) := by decide +kernel
theorem dL_law_222 : decode cL_law 222 = .ok (.iaload, 1) := by decide +kernel
theorem dL_law_223 : decode cL_law 223 = .ok (.aload_n 0, 1) := by decide +kernel
theorem dL_law_224 : decode cL_law 224 = .ok (.iload_n 3, 1) := by decide +kernel
theorem dL_law_225 : decode cL_law 225 = .ok (.iconst 2, 1) := by decide +kernel
theorem dL_law_226 : decode cL_law 226 = .ok (.iadd, 1) := by decide +kernel
theorem dL_law_227 : decode cL_law 227 = .ok (.iaload, 1) := by decide +kernel
theorem dL_law_228 : decode cL_law 228 = .ok (.invokevirtual 28, 3) := by decide +kernel
theorem dL_law_231 : decode cL_law 231 = .ok (.aload_n 2, 1) := by decide +kernel
theorem dL_law_232 : decode cL_law 232 = .ok (.aload_n 0, 1) := by decide +kernel
theorem dL_law_233 : decode cL_law 233 = .ok (.iload_n 3, 1) := by decide +kernel
theorem dL_law_234 : decode cL_law 234 = .ok (.iconst 1, 1) := by decide +kernel
theorem dL_law_235 : decode cL_law 235 = .ok (.iadd, 1) := by decide +kernel
theorem dL_law_236 : decode cL_law 236 = .ok (.iaload, 1) := by decide +kernel
theorem dL_law_237 : decode cL_law 237 = .ok (.aload_n 0, 1) := by decide +kernel
theorem dL_law_238 : decode cL_law 238 = .ok (.iload_n 3, 1) := by decide +kernel
theorem dL_law_239 : decode cL_law 239 = .ok (.iconst 2, 1) := by decide +kernel
theorem dL_law_240 : decode cL_law 240 = .ok (.iadd, 1) := by decide +kernel
theorem dL_law_241 : decode cL_law 241 = .ok (.iaload, 1) := by decide +kernel
theorem dL_law_242 : decode cL_law 242 = .ok (.invokevirtual 32, 3) := by decide +kernel
theorem dL_law_245 : decode cL_law 245 = .ok (.if_icmp .eq 433, 3) := by decide +kernel
theorem dL_law_248 : decode cL_law 248 = .ok (.iconst 0, 1) := by decide +kernel
theorem dL_law_249 : decode cL_law 249 = .ok (.ireturn, 1) := by decide +kernel
theorem dL_law_250 : decode cL_law 250 = .ok (.aload_n 1, 1) := by decide +kernel
theorem dL_law_251 : decode cL_law 251 = .ok (.aload_n 0, 1) := by decide +kernel
theorem dL_law_252 : decode cL_law 252 = .ok (.iload_n 3, 1) := by decide +kernel
theorem dL_law_253 : decode cL_law 253 = .ok (.iconst 1, 1) := by decide +kernel
theorem dL_law_254 : decode cL_law 254 = .ok (.iadd, 1) := by decide +kernel
theorem dL_law_255 : decode cL_law 255 = .ok (.iaload, 1) := by decide +kernel
theorem dL_law_256 : decode cL_law 256 = .ok (.aload_n 0, 1) := by decide +kernel
theorem dL_law_257 : decode cL_law 257 = .ok (.iload_n 3, 1) := by decide +kernel
theorem dL_law_258 : decode cL_law 258 = .ok (.iconst 2, 1) := by decide +kernel
theorem dL_law_259 : decode cL_law 259 = .ok (.iadd, 1) := by decide +kernel
theorem dL_law_260 : decode cL_law 260 = .ok (.iaload, 1) := by decide +kernel
theorem dL_law_261 : decode cL_law 261 = .ok (.invokevirtual 33, 3) := by decide +kernel
theorem dL_law_264 : decode cL_law 264 = .ok (.aload_n 2, 1) := by decide +kernel
theorem dL_law_265 : decode cL_law 265 = .ok (.aload_n 0, 1) := by decide +kernel
theorem dL_law_266 : decode cL_law 266 = .ok (.iload_n 3, 1) := by decide +kernel
theorem dL_law_267 : decode cL_law 267 = .ok (.iconst 1, 1) := by decide +kernel
theorem dL_law_268 : decode cL_law 268 = .ok (.iadd, 1) := by decide +kernel
theorem dL_law_269 : decode cL_law 269 = .ok (.iaload, 1) := by decide +kernel
theorem dL_law_270 : decode cL_law 270 = .ok (.aload_n 0, 1) := by decide +kernel
theorem dL_law_271 : decode cL_law 271 = .ok (.iload_n 3, 1) := by decide +kernel
theorem dL_law_272 : decode cL_law 272 = .ok (.iconst 2, 1) := by decide +kernel
theorem dL_law_273 : decode cL_law 273 = .ok (.iadd, 1) := by decide +kernel
theorem dL_law_274 : decode cL_law 274 = .ok (.iaload, 1) := by decide +kernel
theorem dL_law_275 : decode cL_law 275 = .ok (.invokevirtual 37, 3) := by decide +kernel
theorem dL_law_278 : decode cL_law 278 = .ok (.if_icmp .eq 400, 3) := by decide +kernel
theorem dL_law_281 : decode cL_law 281 = .ok (.iconst 0, 1) := by decide +kernel
theorem dL_law_282 : decode cL_law 282 = .ok (.ireturn, 1) := by decide +kernel
theorem dL_law_283 : decode cL_law 283 = .ok (.aload_n 1, 1) := by decide +kernel
theorem dL_law_284 : decode cL_law 284 = .ok (.aload_n 0, 1) := by decide +kernel
theorem dL_law_285 : decode cL_law 285 = .ok (.iload_n 3, 1) := by decide +kernel
theorem dL_law_286 : decode cL_law 286 = .ok (.iconst 1, 1) := by decide +kernel
theorem dL_law_287 : decode cL_law 287 = .ok (.iadd, 1) := by decide +kernel
theorem dL_law_288 : decode cL_law 288 = .ok (.iaload, 1) := by decide +kernel
theorem dL_law_289 : decode cL_law 289 = .ok (.aload_n 0, 1) := by decide +kernel
theorem dL_law_290 : decode cL_law 290 = .ok (.iload_n 3, 1) := by decide +kernel
theorem dL_law_291 : decode cL_law 291 = .ok (.iconst 2, 1) := by decide +kernel
theorem dL_law_292 : decode cL_law 292 = .ok (.iadd, 1) := by decide +kernel
theorem dL_law_293 : decode cL_law 293 = .ok (.iaload, 1) := by decide +kernel
theorem dL_law_294 : decode cL_law 294 = .ok (.invokevirtual 38, 3) := by decide +kernel
theorem dL_law_297 : decode cL_law 297 = .ok (.aload_n 2, 1) := by decide +kernel
theorem dL_law_298 : decode cL_law 298 = .ok (.aload_n 0, 1) := by decide +kernel
theorem dL_law_299 : decode cL_law 299 = .ok (.iload_n 3, 1) := by decide +kernel
theorem dL_law_300 : decode cL_law 300 = .ok (.iconst 1, 1) := by decide +kernel
theorem dL_law_301 : decode cL_law 301 = .ok (.iadd, 1) := by decide +kernel
theorem dL_law_302 : decode cL_law 302 = .ok (.iaload, 1) := by decide +kernel
theorem dL_law_303 : decode cL_law 303 = .ok (.aload_n 0, 1) := by decide +kernel
theorem dL_law_304 : decode cL_law 304 = .ok (.iload_n 3, 1) := by decide +kernel
theorem dL_law_305 : decode cL_law 305 = .ok (.iconst 2, 1) := by decide +kernel
theorem dL_law_306 : decode cL_law 306 = .ok (.iadd, 1) := by decide +kernel
theorem dL_law_307 : decode cL_law 307 = .ok (.iaload, 1) := by decide +kernel
theorem dL_law_308 : decode cL_law 308 = .ok (.invokevirtual 41, 3) := by decide +kernel
theorem dL_law_311 : decode cL_law 311 = .ok (.if_icmp .eq 367, 3) := by decide +kernel
theorem dL_law_314 : decode cL_law 314 = .ok (.iconst 0, 1) := by decide +kernel
theorem dL_law_315 : decode cL_law 315 = .ok (.ireturn, 1) := by decide +kernel
theorem dL_law_316 : decode cL_law 316 = .ok (.aload_n 1, 1) := by decide +kernel
theorem dL_law_317 : decode cL_law 317 = .ok (.aload_n 0, 1) := by decide +kernel
theorem dL_law_318 : decode cL_law 318 = .ok (.iload_n 3, 1) := by decide +kernel
theorem dL_law_319 : decode cL_law 319 = .ok (.iconst 1, 1) := by decide +kernel
theorem dL_law_320 : decode cL_law 320 = .ok (.iadd, 1) := by decide +kernel
theorem dL_law_321 : decode cL_law 321 = .ok (.iaload, 1) := by decide +kernel
theorem dL_law_322 : decode cL_law 322 = .ok (.aload_n 0, 1) := by decide +kernel
theorem dL_law_323 : decode cL_law 323 = .ok (.iload_n 3, 1) := by decide +kernel
theorem dL_law_324 : decode cL_law 324 = .ok (.iconst 2, 1) := by decide +kernel
theorem dL_law_325 : decode cL_law 325 = .ok (.iadd, 1) := by decide +kernel
theorem dL_law_326 : decode cL_law 326 = .ok (.iaload, 1) := by decide +kernel
theorem dL_law_327 : decode cL_law 327 = .ok (.invokevirtual 42, 3) := by decide +kernel
theorem dL_law_330 : decode cL_law 330 = .ok (.aload_n 2, 1) := by decide +kernel
theorem dL_law_331 : decode cL_law 331 = .ok (.aload_n 0, 1) := by decide +kernel
theorem dL_law_332 : decode cL_law 332 = .ok (.iload_n 3, 1) := by decide +kernel
theorem dL_law_333 : decode cL_law 333 = .ok (.iconst 1, 1) := by decide +kernel
theorem dL_law_334 : decode cL_law 334 = .ok (.iadd, 1) := by decide +kernel
theorem dL_law_335 : decode cL_law 335 = .ok (.iaload, 1) := by decide +kernel
theorem dL_law_336 : decode cL_law 336 = .ok (.aload_n 0, 1) := by decide +kernel
theorem dL_law_337 : decode cL_law 337 = .ok (.iload_n 3, 1) := by decide +kernel
theorem dL_law_338 : decode cL_law 338 = .ok (.iconst 2, 1) := by decide +kernel
theorem dL_law_339 : decode cL_law 339 = .ok (.iadd, 1) := by decide +kernel
theorem dL_law_340 : decode cL_law 340 = .ok (.iaload, 1) := by decide +kernel
theorem dL_law_341 : decode cL_law 341 = .ok (.invokevirtual 45, 3) := by decide +kernel
theorem dL_law_344 : decode cL_law 344 = .ok (.if_icmp .eq 334, 3) := by decide +kernel
theorem dL_law_347 : decode cL_law 347 = .ok (.iconst 0, 1) := by decide +kernel
theorem dL_law_348 : decode cL_law 348 = .ok (.ireturn, 1) := by decide +kernel
theorem dL_law_349 : decode cL_law 349 = .ok (.aload_n 1, 1) := by decide +kernel
theorem dL_law_350 : decode cL_law 350 = .ok (.aload_n 0, 1) := by decide +kernel
theorem dL_law_351 : decode cL_law 351 = .ok (.iload_n 3, 1) := by decide +kernel
theorem dL_law_352 : decode cL_law 352 = .ok (.iconst 1, 1) := by decide +kernel
theorem dL_law_353 : decode cL_law 353 = .ok (.iadd, 1) := by decide +kernel
theorem dL_law_354 : decode cL_law 354 = .ok (.iaload, 1) := by decide +kernel
theorem dL_law_355 : decode cL_law 355 = .ok (.aload_n 0, 1) := by decide +kernel
theorem dL_law_356 : decode cL_law 356 = .ok (.iload_n 3, 1) := by decide +kernel
theorem dL_law_357 : decode cL_law 357 = .ok (.iconst 2, 1) := by decide +kernel
theorem dL_law_358 : decode cL_law 358 = .ok (.iadd, 1) := by decide +kernel
theorem dL_law_359 : decode cL_law 359 = .ok (.iaload, 1) := by decide +kernel
theorem dL_law_360 : decode cL_law 360 = .ok (.invokevirtual 46, 3) := by decide +kernel
theorem dL_law_363 : decode cL_law 363 = .ok (.aload_n 2, 1) := by decide +kernel
theorem dL_law_364 : decode cL_law 364 = .ok (.aload_n 0, 1) := by decide +kernel
theorem dL_law_365 : decode cL_law 365 = .ok (.iload_n 3, 1) := by decide +kernel
theorem dL_law_366 : decode cL_law 366 = .ok (.iconst 1, 1) := by decide +kernel
theorem dL_law_367 : decode cL_law 367 = .ok (.iadd, 1) := by decide +kernel
theorem dL_law_368 : decode cL_law 368 = .ok (.iaload, 1) := by decide +kernel
theorem dL_law_369 : decode cL_law 369 = .ok (.aload_n 0, 1) := by decide +kernel
theorem dL_law_370 : decode cL_law 370 = .ok (.iload_n 3, 1) := by decide +kernel
theorem dL_law_371 : decode cL_law 371 = .ok (.iconst 2, 1) := by decide +kernel
theorem dL_law_372 : decode cL_law 372 = .ok (.iadd, 1) := by decide +kernel
theorem dL_law_373 : decode cL_law 373 = .ok (.iaload, 1) := by decide +kernel
theorem dL_law_374 : decode cL_law 374 = .ok (.invokevirtual 49, 3) := by decide +kernel
theorem dL_law_377 : decode cL_law 377 = .ok (.if_icmp .eq 301, 3) := by decide +kernel
theorem dL_law_380 : decode cL_law 380 = .ok (.iconst 0, 1) := by decide +kernel
theorem dL_law_381 : decode cL_law 381 = .ok (.ireturn, 1) := by decide +kernel
theorem dL_law_382 : decode cL_law 382 = .ok (.aload_n 1, 1) := by decide +kernel
theorem dL_law_383 : decode cL_law 383 = .ok (.aload_n 0, 1) := by decide +kernel
theorem dL_law_384 : decode cL_law 384 = .ok (.iload_n 3, 1) := by decide +kernel
theorem dL_law_385 : decode cL_law 385 = .ok (.iconst 1, 1) := by decide +kernel
theorem dL_law_386 : decode cL_law 386 = .ok (.iadd, 1) := by decide +kernel
theorem dL_law_387 : decode cL_law 387 = .ok (.iaload, 1) := by decide +kernel
theorem dL_law_388 : decode cL_law 388 = .ok (.aload_n 0, 1) := by decide +kernel
theorem dL_law_389 : decode cL_law 389 = .ok (.iload_n 3, 1) := by decide +kernel
theorem dL_law_390 : decode cL_law 390 = .ok (.iconst 2, 1) := by decide +kernel
theorem dL_law_391 : decode cL_law 391 = .ok (.iadd, 1) := by decide +kernel
theorem dL_law_392 : decode cL_law 392 = .ok (.iaload, 1) := by decide +kernel
theorem dL_law_393 : decode cL_law 393 = .ok (.aload_n 0, 1) := by decide +kernel
theorem dL_law_394 : decode cL_law 394 = .ok (.iload_n 3, 1) := by decide +kernel
theorem dL_law_395 : decode cL_law 395 = .ok (.iconst 3, 1) := by decide +kernel
theorem dL_law_396 : decode cL_law 396 = .ok (.iadd, 1) := by decide +kernel
theorem dL_law_397 : decode cL_law 397 = .ok (.iaload, 1) := by decide +kernel
theorem dL_law_398 : decode cL_law 398 = .ok (.invokevirtual 50, 3) := by decide +kernel
theorem dL_law_401 : decode cL_law 401 = .ok (.aload_n 2, 1) := by decide +kernel
theorem dL_law_402 : decode cL_law 402 = .ok (.aload_n 0, 1) := by decide +kernel
theorem dL_law_403 : decode cL_law 403 = .ok (.iload_n 3, 1) := by decide +kernel
theorem dL_law_404 : decode cL_law 404 = .ok (.iconst 1, 1) := by decide +kernel
theorem dL_law_405 : decode cL_law 405 = .ok (.iadd, 1) := by decide +kernel
theorem dL_law_406 : decode cL_law 406 = .ok (.iaload, 1) := by decide +kernel
theorem dL_law_407 : decode cL_law 407 = .ok (.aload_n 0, 1) := by decide +kernel
theorem dL_law_408 : decode cL_law 408 = .ok (.iload_n 3, 1) := by decide +kernel
theorem dL_law_409 : decode cL_law 409 = .ok (.iconst 2, 1) := by decide +kernel
theorem dL_law_410 : decode cL_law 410 = .ok (.iadd, 1) := by decide +kernel
theorem dL_law_411 : decode cL_law 411 = .ok (.iaload, 1) := by decide +kernel
theorem dL_law_412 : decode cL_law 412 = .ok (.aload_n 0, 1) := by decide +kernel
theorem dL_law_413 : decode cL_law 413 = .ok (.iload_n 3, 1) := by decide +kernel
theorem dL_law_414 : decode cL_law 414 = .ok (.iconst 3, 1) := by decide +kernel
theorem dL_law_415 : decode cL_law 415 = .ok (.iadd, 1) := by decide +kernel
theorem dL_law_416 : decode cL_law 416 = .ok (.iaload, 1) := by decide +kernel
theorem dL_law_417 : decode cL_law 417 = .ok (.invokevirtual 54, 3) := by decide +kernel
theorem dL_law_420 : decode cL_law 420 = .ok (.if_icmp .eq 258, 3) := by decide +kernel
theorem dL_law_423 : decode cL_law 423 = .ok (.iconst 0, 1) := by decide +kernel
theorem dL_law_424 : decode cL_law 424 = .ok (.ireturn, 1) := by decide +kernel
theorem dL_law_425 : decode cL_law 425 = .ok (.aload_n 1, 1) := by decide +kernel
theorem dL_law_426 : decode cL_law 426 = .ok (.aload_n 0, 1) := by decide +kernel
theorem dL_law_427 : decode cL_law 427 = .ok (.iload_n 3, 1) := by decide +kernel
theorem dL_law_428 : decode cL_law 428 = .ok (.iconst 1, 1) := by decide +kernel
theorem dL_law_429 : decode cL_law 429 = .ok (.iadd, 1) := by decide +kernel
theorem dL_law_430 : decode cL_law 430 = .ok (.iaload, 1) := by decide +kernel
theorem dL_law_431 : decode cL_law 431 = .ok (.aload_n 0, 1) := by decide +kernel
theorem dL_law_432 : decode cL_law 432 = .ok (.iload_n 3, 1) := by decide +kernel
theorem dL_law_433 : decode cL_law 433 = .ok (.iconst 2, 1) := by decide +kernel
theorem dL_law_434 : decode cL_law 434 = .ok (.iadd, 1) := by decide +kernel
theorem dL_law_435 : decode cL_law 435 = .ok (.iaload, 1) := by decide +kernel
theorem dL_law_436 : decode cL_law 436 = .ok (.aload_n 0, 1) := by decide +kernel
theorem dL_law_437 : decode cL_law 437 = .ok (.iload_n 3, 1) := by decide +kernel
theorem dL_law_438 : decode cL_law 438 = .ok (.iconst 3, 1) := by decide +kernel
theorem dL_law_439 : decode cL_law 439 = .ok (.iadd, 1) := by decide +kernel
theorem dL_law_440 : decode cL_law 440 = .ok (.iaload, 1) := by decide +kernel
theorem dL_law_441 : decode cL_law 441 = .ok (.ifCond .eq 7, 3) := by decide +kernel
theorem dL_law_444 : decode cL_law 444 = .ok (.iconst 1, 1) := by decide +kernel
theorem dL_law_445 : decode cL_law 445 = .ok (.goto 4, 3) := by decide +kernel
theorem dL_law_448 : decode cL_law 448 = .ok (.iconst 0, 1) := by decide +kernel
theorem dL_law_449 : decode cL_law 449 = .ok (.invokevirtual 55, 3) := by decide +kernel
theorem dL_law_452 : decode cL_law 452 = .ok (.aload_n 2, 1) := by decide +kernel
theorem dL_law_453 : decode cL_law 453 = .ok (.aload_n 0, 1) := by decide +kernel
theorem dL_law_454 : decode cL_law 454 = .ok (.iload_n 3, 1) := by decide +kernel
theorem dL_law_455 : decode cL_law 455 = .ok (.iconst 1, 1) := by decide +kernel
theorem dL_law_456 : decode cL_law 456 = .ok (.iadd, 1) := by decide +kernel
theorem dL_law_457 : decode cL_law 457 = .ok (.iaload, 1) := by decide +kernel
theorem dL_law_458 : decode cL_law 458 = .ok (.aload_n 0, 1) := by decide +kernel
theorem dL_law_459 : decode cL_law 459 = .ok (.iload_n 3, 1) := by decide +kernel
theorem dL_law_460 : decode cL_law 460 = .ok (.iconst 2, 1) := by decide +kernel
theorem dL_law_461 : decode cL_law 461 = .ok (.iadd, 1) := by decide +kernel
theorem dL_law_462 : decode cL_law 462 = .ok (.iaload, 1) := by decide +kernel
theorem dL_law_463 : decode cL_law 463 = .ok (.aload_n 0, 1) := by decide +kernel
theorem dL_law_464 : decode cL_law 464 = .ok (.iload_n 3, 1) := by decide +kernel
theorem dL_law_465 : decode cL_law 465 = .ok (.iconst 3, 1) := by decide +kernel
theorem dL_law_466 : decode cL_law 466 = .ok (.iadd, 1) := by decide +kernel
theorem dL_law_467 : decode cL_law 467 = .ok (.iaload, 1) := by decide +kernel
theorem dL_law_468 : decode cL_law 468 = .ok (.ifCond .eq 7, 3) := by decide +kernel
theorem dL_law_471 : decode cL_law 471 = .ok (.iconst 1, 1) := by decide +kernel
theorem dL_law_472 : decode cL_law 472 = .ok (.goto 4, 3) := by decide +kernel
theorem dL_law_475 : decode cL_law 475 = .ok (.iconst 0, 1) := by decide +kernel
theorem dL_law_476 : decode cL_law 476 = .ok (.invokevirtual 59, 3) := by decide +kernel
theorem dL_law_479 : decode cL_law 479 = .ok (.if_icmp .eq 199, 3) := by decide +kernel
theorem dL_law_482 : decode cL_law 482 = .ok (.iconst 0, 1) := by decide +kernel
theorem dL_law_483 : decode cL_law 483 = .ok (.ireturn, 1) := by decide +kernel
theorem dL_law_484 : decode cL_law 484 = .ok (.aload_n 1, 1) := by decide +kernel
theorem dL_law_485 : decode cL_law 485 = .ok (.aload_n 0, 1) := by decide +kernel
theorem dL_law_486 : decode cL_law 486 = .ok (.iload_n 3, 1) := by decide +kernel
theorem dL_law_487 : decode cL_law 487 = .ok (.iconst 1, 1) := by decide +kernel
theorem dL_law_488 : decode cL_law 488 = .ok (.iadd, 1) := by decide +kernel
theorem dL_law_489 : decode cL_law 489 = .ok (.iaload, 1) := by decide +kernel
theorem dL_law_490 : decode cL_law 490 = .ok (.aload_n 0, 1) := by decide +kernel
theorem dL_law_491 : decode cL_law 491 = .ok (.iload_n 3, 1) := by decide +kernel
theorem dL_law_492 : decode cL_law 492 = .ok (.iconst 2, 1) := by decide +kernel
theorem dL_law_493 : decode cL_law 493 = .ok (.iadd, 1) := by decide +kernel
theorem dL_law_494 : decode cL_law 494 = .ok (.iaload, 1) := by decide +kernel
theorem dL_law_495 : decode cL_law 495 = .ok (.aload_n 0, 1) := by decide +kernel
theorem dL_law_496 : decode cL_law 496 = .ok (.iload_n 3, 1) := by decide +kernel
theorem dL_law_497 : decode cL_law 497 = .ok (.iconst 3, 1) := by decide +kernel
theorem dL_law_498 : decode cL_law 498 = .ok (.iadd, 1) := by decide +kernel
theorem dL_law_499 : decode cL_law 499 = .ok (.iaload, 1) := by decide +kernel
theorem dL_law_500 : decode cL_law 500 = .ok (.ifCond .eq 7, 3) := by decide +kernel
theorem dL_law_503 : decode cL_law 503 = .ok (.iconst 1, 1) := by decide +kernel
theorem dL_law_504 : decode cL_law 504 = .ok (.goto 4, 3) := by decide +kernel
theorem dL_law_507 : decode cL_law 507 = .ok (.iconst 0, 1) := by decide +kernel
theorem dL_law_508 : decode cL_law 508 = .ok (.invokevirtual 60, 3) := by decide +kernel
theorem dL_law_511 : decode cL_law 511 = .ok (.aload_n 2, 1) := by decide +kernel
theorem dL_law_512 : decode cL_law 512 = .ok (.aload_n 0, 1) := by decide +kernel
theorem dL_law_513 : decode cL_law 513 = .ok (.iload_n 3, 1) := by decide +kernel
theorem dL_law_514 : decode cL_law 514 = .ok (.iconst 1, 1) := by decide +kernel
theorem dL_law_515 : decode cL_law 515 = .ok (.iadd, 1) := by decide +kernel
theorem dL_law_516 : decode cL_law 516 = .ok (.iaload, 1) := by decide +kernel
theorem dL_law_517 : decode cL_law 517 = .ok (.aload_n 0, 1) := by decide +kernel
theorem dL_law_518 : decode cL_law 518 = .ok (.iload_n 3, 1) := by decide +kernel
theorem dL_law_519 : decode cL_law 519 = .ok (.iconst 2, 1) := by decide +kernel
theorem dL_law_520 : decode cL_law 520 = .ok (.iadd, 1) := by decide +kernel
theorem dL_law_521 : decode cL_law 521 = .ok (.iaload, 1) := by decide +kernel
theorem dL_law_522 : decode cL_law 522 = .ok (.aload_n 0, 1) := by decide +kernel
theorem dL_law_523 : decode cL_law 523 = .ok (.iload_n 3, 1) := by decide +kernel
theorem dL_law_524 : decode cL_law 524 = .ok (.iconst 3, 1) := by decide +kernel
theorem dL_law_525 : decode cL_law 525 = .ok (.iadd, 1) := by decide +kernel
theorem dL_law_526 : decode cL_law 526 = .ok (.iaload, 1) := by decide +kernel
theorem dL_law_527 : decode cL_law 527 = .ok (.ifCond .eq 7, 3) := by decide +kernel
theorem dL_law_530 : decode cL_law 530 = .ok (.iconst 1, 1) := by decide +kernel
theorem dL_law_531 : decode cL_law 531 = .ok (.goto 4, 3) := by decide +kernel
theorem dL_law_534 : decode cL_law 534 = .ok (.iconst 0, 1) := by decide +kernel
theorem dL_law_535 : decode cL_law 535 = .ok (.invokevirtual 63, 3) := by decide +kernel
theorem dL_law_538 : decode cL_law 538 = .ok (.if_icmp .eq 140, 3) := by decide +kernel
theorem dL_law_541 : decode cL_law 541 = .ok (.iconst 0, 1) := by decide +kernel
theorem dL_law_542 : decode cL_law 542 = .ok (.ireturn, 1) := by decide +kernel
theorem dL_law_543 : decode cL_law 543 = .ok (.aload_n 1, 1) := by decide +kernel
theorem dL_law_544 : decode cL_law 544 = .ok (.aload_n 0, 1) := by decide +kernel
theorem dL_law_545 : decode cL_law 545 = .ok (.iload_n 3, 1) := by decide +kernel
theorem dL_law_546 : decode cL_law 546 = .ok (.iconst 1, 1) := by decide +kernel
theorem dL_law_547 : decode cL_law 547 = .ok (.iadd, 1) := by decide +kernel
theorem dL_law_548 : decode cL_law 548 = .ok (.iaload, 1) := by decide +kernel
theorem dL_law_549 : decode cL_law 549 = .ok (.aload_n 0, 1) := by decide +kernel
theorem dL_law_550 : decode cL_law 550 = .ok (.iload_n 3, 1) := by decide +kernel
theorem dL_law_551 : decode cL_law 551 = .ok (.iconst 2, 1) := by decide +kernel
theorem dL_law_552 : decode cL_law 552 = .ok (.iadd, 1) := by decide +kernel
theorem dL_law_553 : decode cL_law 553 = .ok (.iaload, 1) := by decide +kernel
theorem dL_law_554 : decode cL_law 554 = .ok (.aload_n 0, 1) := by decide +kernel
theorem dL_law_555 : decode cL_law 555 = .ok (.iload_n 3, 1) := by decide +kernel
theorem dL_law_556 : decode cL_law 556 = .ok (.iconst 3, 1) := by decide +kernel
theorem dL_law_557 : decode cL_law 557 = .ok (.iadd, 1) := by decide +kernel
theorem dL_law_558 : decode cL_law 558 = .ok (.iaload, 1) := by decide +kernel
theorem dL_law_559 : decode cL_law 559 = .ok (.invokevirtual 64, 3) := by decide +kernel
theorem dL_law_562 : decode cL_law 562 = .ok (.aload_n 2, 1) := by decide +kernel
theorem dL_law_563 : decode cL_law 563 = .ok (.aload_n 0, 1) := by decide +kernel
theorem dL_law_564 : decode cL_law 564 = .ok (.iload_n 3, 1) := by decide +kernel
theorem dL_law_565 : decode cL_law 565 = .ok (.iconst 1, 1) := by decide +kernel
theorem dL_law_566 : decode cL_law 566 = .ok (.iadd, 1) := by decide +kernel
theorem dL_law_567 : decode cL_law 567 = .ok (.iaload, 1) := by decide +kernel
theorem dL_law_568 : decode cL_law 568 = .ok (.aload_n 0, 1) := by decide +kernel
theorem dL_law_569 : decode cL_law 569 = .ok (.iload_n 3, 1) := by decide +kernel
theorem dL_law_570 : decode cL_law 570 = .ok (.iconst 2, 1) := by decide +kernel
theorem dL_law_571 : decode cL_law 571 = .ok (.iadd, 1) := by decide +kernel
theorem dL_law_572 : decode cL_law 572 = .ok (.iaload, 1) := by decide +kernel
theorem dL_law_573 : decode cL_law 573 = .ok (.aload_n 0, 1) := by decide +kernel
theorem dL_law_574 : decode cL_law 574 = .ok (.iload_n 3, 1) := by decide +kernel
theorem dL_law_575 : decode cL_law 575 = .ok (.iconst 3, 1) := by decide +kernel
theorem dL_law_576 : decode cL_law 576 = .ok (.iadd, 1) := by decide +kernel
theorem dL_law_577 : decode cL_law 577 = .ok (.iaload, 1) := by decide +kernel
theorem dL_law_578 : decode cL_law 578 = .ok (.invokevirtual 67, 3) := by decide +kernel
theorem dL_law_581 : decode cL_law 581 = .ok (.if_icmp .eq 97, 3) := by decide +kernel
theorem dL_law_584 : decode cL_law 584 = .ok (.iconst 0, 1) := by decide +kernel
theorem dL_law_585 : decode cL_law 585 = .ok (.ireturn, 1) := by decide +kernel
theorem dL_law_586 : decode cL_law 586 = .ok (.aload_n 1, 1) := by decide +kernel
theorem dL_law_587 : decode cL_law 587 = .ok (.aload_n 0, 1) := by decide +kernel
theorem dL_law_588 : decode cL_law 588 = .ok (.iload_n 3, 1) := by decide +kernel
theorem dL_law_589 : decode cL_law 589 = .ok (.iconst 1, 1) := by decide +kernel
theorem dL_law_590 : decode cL_law 590 = .ok (.iadd, 1) := by decide +kernel
theorem dL_law_591 : decode cL_law 591 = .ok (.iaload, 1) := by decide +kernel
theorem dL_law_592 : decode cL_law 592 = .ok (.invokevirtual 68, 3) := by decide +kernel
theorem dL_law_595 : decode cL_law 595 = .ok (.aload_n 2, 1) := by decide +kernel
theorem dL_law_596 : decode cL_law 596 = .ok (.aload_n 0, 1) := by decide +kernel
theorem dL_law_597 : decode cL_law 597 = .ok (.iload_n 3, 1) := by decide +kernel
theorem dL_law_598 : decode cL_law 598 = .ok (.iconst 1, 1) := by decide +kernel
theorem dL_law_599 : decode cL_law 599 = .ok (.iadd, 1) := by decide +kernel
theorem dL_law_600 : decode cL_law 600 = .ok (.iaload, 1) := by decide +kernel
theorem dL_law_601 : decode cL_law 601 = .ok (.invokevirtual 71, 3) := by decide +kernel
theorem dL_law_604 : decode cL_law 604 = .ok (.if_icmp .eq 74, 3) := by decide +kernel
theorem dL_law_607 : decode cL_law 607 = .ok (.iconst 0, 1) := by decide +kernel
theorem dL_law_608 : decode cL_law 608 = .ok (.ireturn, 1) := by decide +kernel
theorem dL_law_609 : decode cL_law 609 = .ok (.aload_n 1, 1) := by decide +kernel
theorem dL_law_610 : decode cL_law 610 = .ok (.aload_n 0, 1) := by decide +kernel
theorem dL_law_611 : decode cL_law 611 = .ok (.iload_n 3, 1) := by decide +kernel
theorem dL_law_612 : decode cL_law 612 = .ok (.iconst 1, 1) := by decide +kernel
theorem dL_law_613 : decode cL_law 613 = .ok (.iadd, 1) := by decide +kernel
theorem dL_law_614 : decode cL_law 614 = .ok (.iaload, 1) := by decide +kernel
theorem dL_law_615 : decode cL_law 615 = .ok (.invokevirtual 72, 3) := by decide +kernel
theorem dL_law_618 : decode cL_law 618 = .ok (.aload_n 2, 1) := by decide +kernel
theorem dL_law_619 : decode cL_law 619 = .ok (.aload_n 0, 1) := by decide +kernel
theorem dL_law_620 : decode cL_law 620 = .ok (.iload_n 3, 1) := by decide +kernel
theorem dL_law_621 : decode cL_law 621 = .ok (.iconst 1, 1) := by decide +kernel
theorem dL_law_622 : decode cL_law 622 = .ok (.iadd, 1) := by decide +kernel
theorem dL_law_623 : decode cL_law 623 = .ok (.iaload, 1) := by decide +kernel
theorem dL_law_624 : decode cL_law 624 = .ok (.invokevirtual 75, 3) := by decide +kernel
theorem dL_law_627 : decode cL_law 627 = .ok (.if_icmp .eq 51, 3) := by decide +kernel
theorem dL_law_630 : decode cL_law 630 = .ok (.iconst 0, 1) := by decide +kernel
theorem dL_law_631 : decode cL_law 631 = .ok (.ireturn, 1) := by decide +kernel
theorem dL_law_632 : decode cL_law 632 = .ok (.aload_n 1, 1) := by decide +kernel
theorem dL_law_633 : decode cL_law 633 = .ok (.invokevirtual 76, 3) := by decide +kernel
theorem dL_law_636 : decode cL_law 636 = .ok (.aload_n 2, 1) := by decide +kernel
theorem dL_law_637 : decode cL_law 637 = .ok (.invokevirtual 79, 3) := by decide +kernel
theorem dL_law_640 : decode cL_law 640 = .ok (.if_icmp .eq 38, 3) := by decide +kernel
theorem dL_law_643 : decode cL_law 643 = .ok (.iconst 0, 1) := by decide +kernel
theorem dL_law_644 : decode cL_law 644 = .ok (.ireturn, 1) := by decide +kernel
theorem dL_law_645 : decode cL_law 645 = .ok (.aload_n 1, 1) := by decide +kernel
theorem dL_law_646 : decode cL_law 646 = .ok (.aload_n 0, 1) := by decide +kernel
theorem dL_law_647 : decode cL_law 647 = .ok (.iload_n 3, 1) := by decide +kernel
theorem dL_law_648 : decode cL_law 648 = .ok (.iconst 1, 1) := by decide +kernel
theorem dL_law_649 : decode cL_law 649 = .ok (.iadd, 1) := by decide +kernel
theorem dL_law_650 : decode cL_law 650 = .ok (.iaload, 1) := by decide +kernel
theorem dL_law_651 : decode cL_law 651 = .ok (.aload_n 0, 1) := by decide +kernel
theorem dL_law_652 : decode cL_law 652 = .ok (.iload_n 3, 1) := by decide +kernel
theorem dL_law_653 : decode cL_law 653 = .ok (.iconst 2, 1) := by decide +kernel
theorem dL_law_654 : decode cL_law 654 = .ok (.iadd, 1) := by decide +kernel
theorem dL_law_655 : decode cL_law 655 = .ok (.iaload, 1) := by decide +kernel
theorem dL_law_656 : decode cL_law 656 = .ok (.invokevirtual 80, 3) := by decide +kernel
theorem dL_law_659 : decode cL_law 659 = .ok (.aload_n 2, 1) := by decide +kernel
theorem dL_law_660 : decode cL_law 660 = .ok (.aload_n 0, 1) := by decide +kernel
theorem dL_law_661 : decode cL_law 661 = .ok (.iload_n 3, 1) := by decide +kernel
theorem dL_law_662 : decode cL_law 662 = .ok (.iconst 1, 1) := by decide +kernel
theorem dL_law_663 : decode cL_law 663 = .ok (.iadd, 1) := by decide +kernel
theorem dL_law_664 : decode cL_law 664 = .ok (.iaload, 1) := by decide +kernel
theorem dL_law_665 : decode cL_law 665 = .ok (.aload_n 0, 1) := by decide +kernel
theorem dL_law_666 : decode cL_law 666 = .ok (.iload_n 3, 1) := by decide +kernel
theorem dL_law_667 : decode cL_law 667 = .ok (.iconst 2, 1) := by decide +kernel
theorem dL_law_668 : decode cL_law 668 = .ok (.iadd, 1) := by decide +kernel
theorem dL_law_669 : decode cL_law 669 = .ok (.iaload, 1) := by decide +kernel
theorem dL_law_670 : decode cL_law 670 = .ok (.invokevirtual 83, 3) := by decide +kernel
theorem dL_law_673 : decode cL_law 673 = .ok (.if_icmp .eq 5, 3) := by decide +kernel
theorem dL_law_676 : decode cL_law 676 = .ok (.iconst 0, 1) := by decide +kernel
theorem dL_law_677 : decode cL_law 677 = .ok (.ireturn, 1) := by decide +kernel
theorem dL_law_678 : decode cL_law 678 = .ok (.iinc 3 5, 3) := by decide +kernel
theorem dL_law_681 : decode cL_law 681 = .ok (.goto (-663), 3) := by decide +kernel
theorem dL_law_684 : decode cL_law 684 = .ok (.iconst 1, 1) := by decide +kernel
theorem dL_law_685 : decode cL_law 685 = .ok (.ireturn, 1) := by decide +kernel
end
section
-- PURE: how many bits of a long are set, as the machine's own bitCount counts them
/-- how many of the first k are true -/
def cj_cnt (f : Nat → Bool) : Nat → Nat
  | 0 => 0
  | k + 1 => cj_cnt f k + (f k).toNat
theorem cj_cnt_congr {f g : Nat → Bool} : ∀ {k : Nat}, (∀ i, i < k → f i = g i) → cj_cnt f k = cj_cnt g k
  | 0, _ => rfl
  | k + 1, h => by
    show cj_cnt f k + (f k).toNat = cj_cnt g k + (g k).toNat
    rw [cj_cnt_congr (fun i hi => h i (Nat.lt_succ_of_lt hi)), h k (Nat.lt_succ_self k)]
theorem cj_cnt_le (f : Nat → Bool) : ∀ k : Nat, cj_cnt f k ≤ k
  | 0 => Nat.le_refl 0
  | k + 1 => by
    have h := cj_cnt_le f k
    have h2 : (f k).toNat ≤ 1 := by cases f k <;> decide
    show cj_cnt f k + (f k).toNat ≤ k + 1
    omega
theorem cj_cnt_add (f : Nat → Bool) (k : Nat) : ∀ j : Nat, cj_cnt f (k + j) = cj_cnt f k + cj_cnt (fun i => f (k + i)) j
  | 0 => rfl
  | j + 1 => by
    show cj_cnt f (k + j) + (f (k + j)).toNat = cj_cnt f k + (cj_cnt (fun i => f (k + i)) j + (f (k + j)).toNat)
    rw [cj_cnt_add f k j]
    omega
theorem cj_cnt_zero {f : Nat → Bool} : ∀ {k : Nat}, (∀ i, i < k → f i = false) → cj_cnt f k = 0
  | 0, _ => rfl
  | k + 1, h => by
    show cj_cnt f k + (f k).toNat = 0
    rw [cj_cnt_zero (fun i hi => h i (Nat.lt_succ_of_lt hi)), h k (Nat.lt_succ_self k)]
    rfl
/-- beyond b nothing is true: the count up to any k past b is that up to b -/
theorem cj_cnt_stop {f : Nat → Bool} {b k : Nat} (hb : b ≤ k) (h : ∀ i, b ≤ i → i < k → f i = false) : cj_cnt f k = cj_cnt f b := by
  obtain ⟨j, rfl⟩ : ∃ j, k = b + j := ⟨k - b, by omega⟩
  rw [cj_cnt_add, cj_cnt_zero (fun i hi => h (b + i) (by omega) (by omega))]
  rfl
def cj_val : List Nat → Nat
  | [] => 0
  | a :: l => a + 256 * cj_val l
def cj_s1 (n m : Nat) : Nat := n - ((n / 2) &&& m)
def cj_s2 (n m : Nat) : Nat := (n &&& m) + ((n / 4) &&& m)
def cj_s3 (n m : Nat) : Nat := (n + n / 16) &&& m
theorem cj_and8 (a y b m : Nat) (ha : a < 256) (hb : b < 256) : (a + 256 * y) &&& (b + 256 * m) = (a &&& b) + 256 * (y &&& m) := by
  have h1 := Nat.and_mod_two_pow (a := a + 256 * y) (b := b + 256 * m) (n := 8)
  have h2 := Nat.and_div_two_pow (a := a + 256 * y) (b := b + 256 * m) (n := 8)
  rw [show (2:Nat) ^ 8 = 256 from rfl] at h1 h2
  rw [show (a + 256 * y) % 256 = a by omega, show (b + 256 * m) % 256 = b by omega] at h1
  rw [show (a + 256 * y) / 256 = y by omega, show (b + 256 * m) / 256 = m by omega] at h2
  have h3 := Nat.div_add_mod ((a + 256 * y) &&& (b + 256 * m)) 256
  omega
theorem cj_b1 : ∀ a, a < 256 → (a / 2 + 128) &&& 0x55 = (a / 2) &&& 0x55 := by decide +kernel
theorem cj_b2 : ∀ a, a < 256 → ∀ r, r < 4 → (a / 4 + 64 * r) &&& 0x33 = (a / 4) &&& 0x33 := by decide +kernel
theorem cj_s1c (a y m : Nat) (ha : a < 256) : cj_s1 (a + 256 * y) (0x55 + 256 * m) = cj_s1 a 0x55 + 256 * cj_s1 y m := by
  unfold cj_s1
  have e : (a + 256 * y) / 2 = (a / 2 + 128 * (y % 2)) + 256 * (y / 2) := by omega
  have hu : a / 2 + 128 * (y % 2) < 256 := by omega
  rw [e, cj_and8 _ _ _ _ hu (by decide)]
  have h1 : (a / 2 + 128 * (y % 2)) &&& 0x55 = (a / 2) &&& 0x55 := by
    rcases (show y % 2 = 0 ∨ y % 2 = 1 by omega) with h | h
    · rw [h]; rfl
    · rw [h]; exact cj_b1 a ha
  rw [h1]
  have l1 : (a / 2) &&& 0x55 ≤ a / 2 := Nat.and_le_left
  have l2 : (y / 2) &&& m ≤ y / 2 := Nat.and_le_left
  omega
theorem cj_s2c (a y m : Nat) (ha : a < 256) : cj_s2 (a + 256 * y) (0x33 + 256 * m) = cj_s2 a 0x33 + 256 * cj_s2 y m := by
  unfold cj_s2
  have e : (a + 256 * y) / 4 = (a / 4 + 64 * (y % 4)) + 256 * (y / 4) := by omega
  have hu : a / 4 + 64 * (y % 4) < 256 := by omega
  rw [e, cj_and8 _ _ _ _ hu (by decide), cj_and8 _ _ _ _ ha (by decide), cj_b2 a ha (y % 4) (by omega)]
  omega
theorem cj_and15 (x : Nat) : x &&& 15 = x % 16 := Nat.and_two_pow_sub_one_eq_mod x 4
theorem cj_s3c (a y m : Nat) (ha : a ≤ 68) (hy : y % 16 ≤ 4) : cj_s3 (a + 256 * y) (0x0f + 256 * m) = cj_s3 a 0x0f + 256 * cj_s3 y m := by
  unfold cj_s3
  have e : a + 256 * y + (a + 256 * y) / 16 = (a + a / 16 + 16 * (y % 16)) + 256 * (y + y / 16) := by omega
  rw [e, cj_and8 _ _ _ _ (by omega) (by decide), cj_and15, cj_and15]
  omega
/-- the count of a byte, by the three steps -/
def cj_p8 (a : Nat) : Nat := cj_s3 (cj_s2 (cj_s1 a 0x55) 0x33) 0x0f
theorem cj_p8_ok : ∀ a, a < 256 → cj_p8 a = cj_cnt a.testBit 8 := by decide +kernel
theorem cj_b12 : ∀ a, a < 256 → cj_s1 a 0x55 < 256 ∧ cj_s2 (cj_s1 a 0x55) 0x33 ≤ 68 ∧ cj_s2 (cj_s1 a 0x55) 0x33 % 16 ≤ 4 := by decide +kernel
def cj_all (n m5 m3 m0 : Nat) : Nat := cj_s3 (cj_s2 (cj_s1 n m5) m3) m0
theorem cj_low (y m5 m3 : Nat) (ya m5a m3a : Nat) (y' : Nat) (hy : y = ya + 256 * y') (ha : ya < 256) (h5 : m5 = 0x55 + 256 * m5a) (h3 : m3 = 0x33 + 256 * m3a) : cj_s2 (cj_s1 y m5) m3 % 16 ≤ 4 := by
  subst hy
  subst h5
  subst h3
  rw [cj_s1c _ _ _ ha, cj_s2c _ _ _ (cj_b12 ya ha).1]
  have := (cj_b12 ya ha).2.2
  omega
theorem cj_allc (a y m5 m3 m0 : Nat) (ha : a < 256) (hy : cj_s2 (cj_s1 y m5) m3 % 16 ≤ 4) : cj_all (a + 256 * y) (0x55 + 256 * m5) (0x33 + 256 * m3) (0x0f + 256 * m0) = cj_p8 a + 256 * cj_all y m5 m3 m0 := by
  unfold cj_all cj_p8
  rw [cj_s1c _ _ _ ha, cj_s2c _ _ _ (cj_b12 a ha).1, cj_s3c _ _ _ (cj_b12 a ha).2.1 hy]
theorem cj_all0 (a : Nat) : cj_all a 0x55 0x33 0x0f = cj_p8 a := rfl
theorem cj_tb8 (a y : Nat) (ha : a < 256) (k : Nat) : cj_cnt (a + 256 * y).testBit (8 + k) = cj_p8 a + cj_cnt y.testBit k := by
  rw [cj_cnt_add, cj_p8_ok a ha]
  have h1 : ∀ i, i < 8 → (a + 256 * y).testBit i = a.testBit i := by
    intro i hi
    have := Nat.testBit_two_pow_mul_add y (i := 8) (b := a) ha i
    rw [if_pos hi] at this
    rw [Nat.add_comm]
    exact this
  have h2 : ∀ i, i < k → (a + 256 * y).testBit (8 + i) = y.testBit i := by
    intro i _
    have := Nat.testBit_two_pow_mul_add y (i := 8) (b := a) ha (8 + i)
    rw [if_neg (by omega), show 8 + i - 8 = i by omega] at this
    rw [Nat.add_comm a]
    exact this
  rw [cj_cnt_congr h1, cj_cnt_congr (g := y.testBit) h2]
/-- the sum of bytes of at most 8 each -/
def cj_fold (v : Nat) : Nat := let t1 := v + v / 256; let t2 := t1 + t1 / 65536; (t2 + t2 / 4294967296) % 128
theorem cj_dv1 (a b : Nat) (h : a < 65536) : (a + 65536 * b) / 65536 = b := by omega
theorem cj_dv2 (a b : Nat) (h : a < 4294967296) : (a + 4294967296 * b) / 4294967296 = b := by omega
theorem cj_dv0 (a b : Nat) (h : a < 256) : (a + 256 * b) / 256 = b := by omega
theorem cj_md (a z : Nat) (h : a < 128) : (a + 256 * z) % 128 = a := by omega
theorem cj_fold_ok (p0 p1 p2 p3 p4 p5 p6 p7 : Nat) (h0 : p0 ≤ 8) (h1 : p1 ≤ 8) (h2 : p2 ≤ 8) (h3 : p3 ≤ 8) (h4 : p4 ≤ 8) (h5 : p5 ≤ 8) (h6 : p6 ≤ 8) (h7 : p7 ≤ 8) :
    cj_fold (p0 + 256 * (p1 + 256 * (p2 + 256 * (p3 + 256 * (p4 + 256 * (p5 + 256 * (p6 + 256 * p7))))))) = p0 + p1 + p2 + p3 + p4 + p5 + p6 + p7 := by
  unfold cj_fold
  dsimp only
  generalize e5 : p6 + 256 * p7 = q5
  generalize e4 : p5 + 256 * q5 = q4
  generalize e3 : p4 + 256 * q4 = q3
  generalize e2 : p3 + 256 * q3 = q2
  generalize e1 : p2 + 256 * q2 = q1
  generalize e0 : p1 + 256 * q1 = q0
  rw [cj_dv0 p0 q0 (by omega)]
  have t1 : p0 + 256 * q0 + q0 = (p0 + p1 + 256 * (p1 + p2)) + 65536 * (q1 + q2) := by
    rw [← e0, ← e1]
    omega
  rw [t1, cj_dv1 _ _ (by omega)]
  have s34 : q3 + q4 = (p4 + p5 + 256 * (p5 + p6)) + 65536 * (q5 + p7) := by
    rw [← e3, ← e4, ← e5]
    omega
  have s12 : q1 + q2 = (p2 + p3 + 256 * (p3 + p4)) + 65536 * (q3 + q4) := by
    rw [← e1, ← e2, ← e3]
    omega
  have t2 : (p0 + p1 + 256 * (p1 + p2)) + 65536 * (q1 + q2) + (q1 + q2) = (p0 + p1 + p2 + p3 + 256 * (p1 + p2 + p3 + p4) + 65536 * (p2 + p3 + p4 + p5 + 256 * (p3 + p4 + p5 + p6))) + 4294967296 * (q3 + q4 + (q5 + p7)) := by
    generalize q1 + q2 = a at s12 ⊢
    generalize q3 + q4 = b at s12 s34 ⊢
    generalize q5 + p7 = d at s34 ⊢
    omega
  rw [t2, cj_dv2 _ _ (by omega)]
  have t3 : (p0 + p1 + p2 + p3 + 256 * (p1 + p2 + p3 + p4) + 65536 * (p2 + p3 + p4 + p5 + 256 * (p3 + p4 + p5 + p6))) + 4294967296 * (q3 + q4 + (q5 + p7)) + (q3 + q4 + (q5 + p7)) = (p0 + p1 + p2 + p3 + p4 + p5 + p6 + p7) + 256 * ((p1 + p2 + p3 + p4) + 256 * (p2 + p3 + p4 + p5 + 256 * (p3 + p4 + p5 + p6)) + 16777216 * (q3 + q4 + (q5 + p7)) + (p5 + p6) + 256 * (q5 + p7) + p7) := by
    rw [s34, ← e5]
    omega
  rw [t3, cj_md _ _ (by omega)]
theorem cj_p8_le (a : Nat) (ha : a < 256) : cj_p8 a ≤ 8 := by rw [cj_p8_ok a ha]; exact cj_cnt_le _ _
/-- the machine's count of a number below 2^64 is the number of its bits -/
theorem cj_swar (n : Nat) (h : n < 2 ^ 64) : cj_fold (cj_all n 0x5555555555555555 0x3333333333333333 0x0f0f0f0f0f0f0f0f) = cj_cnt n.testBit 64 ∧ cj_all n 0x5555555555555555 0x3333333333333333 0x0f0f0f0f0f0f0f0f < 2 ^ 60 := by
  obtain ⟨a0, y0, e0, h0, i0⟩ : ∃ a y, n = a + 256 * y ∧ a < 256 ∧ y < 2 ^ 56 := ⟨n % 256, n / 256, by omega, by omega, by omega⟩
  obtain ⟨a1, y1, e1, h1, i1⟩ : ∃ a y, y0 = a + 256 * y ∧ a < 256 ∧ y < 2 ^ 48 := ⟨y0 % 256, y0 / 256, by omega, by omega, by omega⟩
  obtain ⟨a2, y2, e2, h2, i2⟩ : ∃ a y, y1 = a + 256 * y ∧ a < 256 ∧ y < 2 ^ 40 := ⟨y1 % 256, y1 / 256, by omega, by omega, by omega⟩
  obtain ⟨a3, y3, e3, h3, i3⟩ : ∃ a y, y2 = a + 256 * y ∧ a < 256 ∧ y < 2 ^ 32 := ⟨y2 % 256, y2 / 256, by omega, by omega, by omega⟩
  obtain ⟨a4, y4, e4, h4, i4⟩ : ∃ a y, y3 = a + 256 * y ∧ a < 256 ∧ y < 2 ^ 24 := ⟨y3 % 256, y3 / 256, by omega, by omega, by omega⟩
  obtain ⟨a5, y5, e5, h5, i5⟩ : ∃ a y, y4 = a + 256 * y ∧ a < 256 ∧ y < 2 ^ 16 := ⟨y4 % 256, y4 / 256, by omega, by omega, by omega⟩
  obtain ⟨a6, y6, e6, h6, i6⟩ : ∃ a y, y5 = a + 256 * y ∧ a < 256 ∧ y < 256 := ⟨y5 % 256, y5 / 256, by omega, by omega, by omega⟩
  have z6 : cj_all y5 (0x55 + 256 * 0x55) (0x33 + 256 * 0x33) (0x0f + 256 * 0x0f) = cj_p8 a6 + 256 * cj_p8 y6 := by
    rw [e6, cj_allc _ _ _ _ _ h6 (by have := (cj_b12 y6 i6).2.2; omega)]
    rfl
  have z5 : cj_all y4 (0x55 + 256 * 0x5555) (0x33 + 256 * 0x3333) (0x0f + 256 * 0x0f0f) = cj_p8 a5 + 256 * cj_all y5 0x5555 0x3333 0x0f0f := by
    rw [e5, cj_allc _ _ _ _ _ h5 (cj_low _ _ _ a6 0x55 0x33 y6 e6 h6 rfl rfl)]
  have z4 : cj_all y3 (0x55 + 256 * 0x555555) (0x33 + 256 * 0x333333) (0x0f + 256 * 0x0f0f0f) = cj_p8 a4 + 256 * cj_all y4 0x555555 0x333333 0x0f0f0f := by
    rw [e4, cj_allc _ _ _ _ _ h4 (cj_low _ _ _ a5 0x5555 0x3333 y5 e5 h5 rfl rfl)]
  have z3 : cj_all y2 (0x55 + 256 * 0x55555555) (0x33 + 256 * 0x33333333) (0x0f + 256 * 0x0f0f0f0f) = cj_p8 a3 + 256 * cj_all y3 0x55555555 0x33333333 0x0f0f0f0f := by
    rw [e3, cj_allc _ _ _ _ _ h3 (cj_low _ _ _ a4 0x555555 0x333333 y4 e4 h4 rfl rfl)]
  have z2 : cj_all y1 (0x55 + 256 * 0x5555555555) (0x33 + 256 * 0x3333333333) (0x0f + 256 * 0x0f0f0f0f0f) = cj_p8 a2 + 256 * cj_all y2 0x5555555555 0x3333333333 0x0f0f0f0f0f := by
    rw [e2, cj_allc _ _ _ _ _ h2 (cj_low _ _ _ a3 0x55555555 0x33333333 y3 e3 h3 rfl rfl)]
  have z1 : cj_all y0 (0x55 + 256 * 0x555555555555) (0x33 + 256 * 0x333333333333) (0x0f + 256 * 0x0f0f0f0f0f0f) = cj_p8 a1 + 256 * cj_all y1 0x555555555555 0x333333333333 0x0f0f0f0f0f0f := by
    rw [e1, cj_allc _ _ _ _ _ h1 (cj_low _ _ _ a2 0x5555555555 0x3333333333 y2 e2 h2 rfl rfl)]
  have z0 : cj_all n (0x55 + 256 * 0x55555555555555) (0x33 + 256 * 0x33333333333333) (0x0f + 256 * 0x0f0f0f0f0f0f0f) = cj_p8 a0 + 256 * cj_all y0 0x55555555555555 0x33333333333333 0x0f0f0f0f0f0f0f := by
    rw [e0, cj_allc _ _ _ _ _ h0 (cj_low _ _ _ a1 0x555555555555 0x333333333333 y1 e1 h1 rfl rfl)]
  have z : cj_all n 0x5555555555555555 0x3333333333333333 0x0f0f0f0f0f0f0f0f = cj_p8 a0 + 256 * (cj_p8 a1 + 256 * (cj_p8 a2 + 256 * (cj_p8 a3 + 256 * (cj_p8 a4 + 256 * (cj_p8 a5 + 256 * (cj_p8 a6 + 256 * cj_p8 y6)))))) :=
    z0.trans (by rw [show cj_all y0 0x55555555555555 0x33333333333333 0x0f0f0f0f0f0f0f = _ from z1, show cj_all y1 0x555555555555 0x333333333333 0x0f0f0f0f0f0f = _ from z2, show cj_all y2 0x5555555555 0x3333333333 0x0f0f0f0f0f = _ from z3, show cj_all y3 0x55555555 0x33333333 0x0f0f0f0f = _ from z4, show cj_all y4 0x555555 0x333333 0x0f0f0f = _ from z5, show cj_all y5 0x5555 0x3333 0x0f0f = _ from z6])
  have l0 := cj_p8_le a0 h0
  have l1 := cj_p8_le a1 h1
  have l2 := cj_p8_le a2 h2
  have l3 := cj_p8_le a3 h3
  have l4 := cj_p8_le a4 h4
  have l5 := cj_p8_le a5 h5
  have l6 := cj_p8_le a6 h6
  have l7 := cj_p8_le y6 i6
  refine ⟨?_, by rw [z]; omega⟩
  rw [z, cj_fold_ok _ _ _ _ _ _ _ _ l0 l1 l2 l3 l4 l5 l6 l7]
  have c : cj_cnt n.testBit 64 = cj_p8 a0 + (cj_p8 a1 + (cj_p8 a2 + (cj_p8 a3 + (cj_p8 a4 + (cj_p8 a5 + (cj_p8 a6 + cj_p8 y6)))))) := by
    have q6 : cj_cnt y6.testBit 8 = cj_p8 y6 := (cj_p8_ok y6 i6).symm
    rw [e0, show (64 : Nat) = 8 + 56 from rfl, cj_tb8 _ _ h0, e1, show (56 : Nat) = 8 + 48 from rfl, cj_tb8 _ _ h1, e2, show (48 : Nat) = 8 + 40 from rfl, cj_tb8 _ _ h2, e3, show (40 : Nat) = 8 + 32 from rfl, cj_tb8 _ _ h3, e4, show (32 : Nat) = 8 + 24 from rfl, cj_tb8 _ _ h4, e5, show (24 : Nat) = 8 + 16 from rfl, cj_tb8 _ _ h5, e6, show (16 : Nat) = 8 + 8 from rfl, cj_tb8 _ _ h6, q6]
  rw [c]
  omega
end
section
-- THE FRAME: worlds, rooms, contracts, and the rows that every walk here uses
abbrev cj_cl : List vw_C := [(RD, TD, 4), (RC, TC, 13), (RM, TM, 13)]
def cj_tys (kd : Nat → ClassId) : List (ClassId × FieldType) := [(kd 0, .int), (kd 1, .boolean), (kd 2, .long), (kd 3, .array .int), (kd 4, .array .long)]
/-- room for k calls one in the other -/
def cj_rm (k : Nat) : Room := { frames := k, cells := 0, slots := 0, locals := 40 * k }
def bI (b : Bool) : Int32 := if b then 1 else 0
/-- the context of a walk: the code, the words, the tables -/
def cj_X (p : Program) (s : State) (m : MethodId) (args : Array Value) (c : Code) (meth : Method) (cc : ByteArray) (nL : Nat) (own : String) (D : va_G) (kd : Nat → ClassId) : Prop :=
  CallFix p m c cc nL s args cw_T own ∧ va_K D cj_cl (cj_tys kd) s ∧ meth.locks = false
/-- the world of a walk -/
def cj_V (D : va_G) (A : Nat → Prop) (H0 : Heap) (w : va_W) (H : Heap) (locs : List Loc) : Prop := va_P D cj_cl w H ∧ va_D A w ∧ va_S A H0 H locs ∧ ∀ q, H0.size ≤ q → A q
def cj_pre (D : va_G) (kd : Nat → ClassId) (w : va_W) (sz : Nat) : State → Prop := fun U => U.heap.size = sz ∧ va_P D cj_cl w U.heap ∧ va_K D cj_cl (cj_tys kd) U ∧ va_D (fun _ => True) w
def cj_post {S : Type} (D : va_G) (kd : Nat → ClassId) (A : Nat → Prop) (w : S → va_W) : S → State → Prop := fun u t => va_P D cj_cl (w u) t.heap ∧ va_K D cj_cl (cj_tys kd) t ∧ va_D A (w u)
/-- contracts: an int (or a boolean), a long, nothing -/
def cj_Mi {S : Type} (l : Launch) (y : MethodName) (cc : ByteArray) (mx : Nat) (rt : Option FieldType) (k : Nat) (D : va_G) (kd : Nat → ClassId) (av : List Value) (w0 : va_W) (post : Int32 → S → Prop) (w : S → va_W) : Prop :=
  ∀ sz : Nat, Met l y (.code y cc mx rt :: cw_T) (cj_rm k) (va_Pc av (cj_pre D kd w0 sz)) (va_Qi post (cj_post D kd (va_A w0 sz) w) (va_A w0 sz)) 0 0 (va_A w0 sz)
def cj_Ml {S : Type} (l : Launch) (y : MethodName) (cc : ByteArray) (mx : Nat) (rt : Option FieldType) (k : Nat) (D : va_G) (kd : Nat → ClassId) (av : List Value) (w0 : va_W) (post : Int64 → S → Prop) (w : S → va_W) : Prop :=
  ∀ sz : Nat, Met l y (.code y cc mx rt :: cw_T) (cj_rm k) (va_Pc av (cj_pre D kd w0 sz)) (va_Ql post (cj_post D kd (va_A w0 sz) w) (va_A w0 sz)) 0 0 (va_A w0 sz)
def cj_Mv {S : Type} (l : Launch) (y : MethodName) (cc : ByteArray) (mx : Nat) (rt : Option FieldType) (k : Nat) (D : va_G) (kd : Nat → ClassId) (av : List Value) (w0 : va_W) (post : S → Prop) (w : S → va_W) : Prop :=
  ∀ sz : Nat, Met l y (.code y cc mx rt :: cw_T) (cj_rm k) (va_Pc av (cj_pre D kd w0 sz)) (va_Qv post (cj_post D kd (va_A w0 sz) w) (va_A w0 sz)) 0 0 (va_A w0 sz)
/-- the frame rule: what the callee has not, stays -/
theorem cj_fr {D : va_G} {cl : List vw_C} {A : Nat → Prop} {w0 wr w1 : va_W} {H H1 : Heap} (hP : va_P D cl (w0 ++ wr) H) (hD : va_D A (w0 ++ wr)) (hk : ∀ q : Nat, q < H.size → ¬ va_A w0 H.size q → H1[q]? = H[q]?) (hF : ∀ q, va_A w0 H.size q → A q) (hP1 : va_P D cl w1 H1) (hD1 : va_D (va_A w0 H.size) w1) : va_P D cl (w1 ++ wr) H1 ∧ va_D A (w1 ++ wr) := by
  have at' : ∀ (k : Nat) (q : Nat × va_E), wr[k]? = some q → (w0 ++ wr)[w0.length + k]? = some q := fun k q h => by
    rw [List.getElem?_append_right (Nat.le_add_right _ _), Nat.add_sub_cancel_left]
    exact h
  have apart : ∀ (k : Nat) (q : Nat × va_E), wr[k]? = some q → q.1 < H.size ∧ ¬ va_A w0 H.size q.1 := by
    intro k q hq
    have hl := (hP _ q (at' k q hq)).lt
    refine ⟨hl, fun h => ?_⟩
    rcases h with ⟨k2, e, h⟩ | h
    · have h3 : k2 < w0.length := (List.getElem?_eq_some_iff.mp h).1
      have h4 : (w0 ++ wr)[k2]? = some (q.1, e) := by rw [List.getElem?_append_left h3]; exact h
      have := hD.1 _ _ q (q.1, e) (at' k q hq) h4 rfl
      omega
    · omega
  refine ⟨va_P.app hP1 (fun k q hq => ?_), va_D.app (hD1.weaken (fun _ q _ h => hF q.1 h)) ⟨fun i j x y hx hy hxy => ?_, fun k q hq => hD.2 _ q (at' k q hq)⟩ (fun i j x y hx hy hxy => ?_)⟩
  · obtain ⟨g1, g2⟩ := apart k q hq
    exact (hP _ q (at' k q hq)).kept (hk q.1 g1 g2)
  · have := hD.1 _ _ x y (at' i x hx) (at' j y hy) hxy
    omega
  · exact (apart j y hy).2 (by rw [← hxy]; exact hD1.2 i x hx)
theorem cj_goodV {own C : String} {idx : Nat} {y : MethodName} {b : ByteArray} {mx : Nat} {rt : Option FieldType} (hl : Cond.methodLink own idx y ∈ cw_T) (hi : Cond.instanceMethod y ∈ cw_T) (hs : Cond.selects C y y ∈ cw_T) (hn : Cond.initialized C ∈ cw_T) (hc : Cond.code y b mx rt ∈ cw_T) : GoodIn cw_T (wsV own idx C y (.code y b mx rt :: cw_T)) := by
  intro w hw
  have hm : w ∈ cw_T := by
    unfold wsV at hw
    rcases List.mem_append.mp hw with h | h
    · simp only [List.mem_cons, List.not_mem_nil, or_false] at h
      rcases h with rfl | rfl | rfl | rfl <;> assumption
    · rcases List.mem_cons.mp h with rfl | h
      · exact hc
      · exact h
  exact ⟨hm, cw_good hm⟩
theorem cj_goodS {own : String} {idx : Nat} {y : MethodName} {b : ByteArray} {mx : Nat} {rt : Option FieldType} (hl : Cond.methodLink own idx y ∈ cw_T) (hs : Cond.static y ∈ cw_T) (hn : Cond.initialized y.cls ∈ cw_T) (hc : Cond.code y b mx rt ∈ cw_T) : GoodIn cw_T (va_wsS own idx y (.code y b mx rt :: cw_T)) := by
  intro w hw
  have hm : w ∈ cw_T := by
    unfold va_wsS at hw
    rcases List.mem_append.mp hw with h | h
    · simp only [List.mem_cons, List.not_mem_nil, or_false] at h
      rcases h with rfl | rfl | rfl <;> assumption
    · rcases List.mem_cons.mp h with rfl | h
      · exact hc
      · exact h
  exact ⟨hm, cw_good hm⟩
theorem cj_blind {av : List Value} {D : va_G} {kd : Nat → ClassId} {w : va_W} {sz : Nat} : FrameBlind (va_Pc av (cj_pre D kd w sz)) := fun a U g mk q => by
  obtain ⟨q0, q1, qP, qK, qD⟩ := q
  exact ⟨q0, q1, qP, va_K.moved (u := U) (U := U.calling g mk a) (Vm.Alike.refl U.vm) qK, qD⟩
section CJ1
variable {p : Program} {l : Launch} {e : Env} {R : Room} {s : State} {m : MethodId} {args : Array Value} {below : List Frame} {meth : Method} {c : Code} {H : Heap} {locs : List Loc} {cells slots : Nat} {Q : State → Prop}
variable {cc : ByteArray} {pc nL : Nat} {own : String} {ls : Array Slot} {rest st0 : List Value} {D : va_G} {kd : Nat → ClassId} {A : Nat → Prop} {H0 : Heap} {w0 wr : va_W}
variable {y : MethodName} {bytes : ByteArray} {mx k index : Nat} {rt : Option FieldType} {S : Type} {w : S → va_W}
theorem cj_pv (X : cj_X p s m args c meth cc nL own D kd) (V : cj_V D A H0 (w0 ++ wr) H locs) {av : List Value} : ∀ U : State, U.heap = H → s.WarmedH U.vm → va_Pc av (cj_pre D kd w0 H.size) av.toArray U := fun U hU hW => by
  obtain ⟨-, hK, -⟩ := X
  obtain ⟨hP, hD, -, -⟩ := V
  refine ⟨rfl, by rw [hU], ?_, va_K.moved hW.alike hK, ?_⟩
  · rw [hU]
    intro k q hq
    exact hP k q (by rw [List.getElem?_append_left (List.getElem?_eq_some_iff.mp hq).1]; exact hq)
  · exact ⟨fun i j x y hx hy hxy => hD.1 i j x y (by rw [List.getElem?_append_left (List.getElem?_eq_some_iff.mp hx).1]; exact hx) (by rw [List.getElem?_append_left (List.getElem?_eq_some_iff.mp hy).1]; exact hy) hxy, fun _ _ _ => trivial⟩
theorem cj_fA (V : cj_V D A H0 (w0 ++ wr) H locs) : ∀ q, va_A w0 H.size q → A q := by
  obtain ⟨-, hD, hS, hA⟩ := V
  intro q h
  rcases h with ⟨k, e, h⟩ | h
  · exact hD.2 k (q, e) (by rw [List.getElem?_append_left (List.getElem?_eq_some_iff.mp h).1]; exact h)
  · exact hA q (Nat.le_trans hS.1 h)
theorem cj_runV (X : cj_X p s m args c meth cc nL own D kd) (V : cj_V D A H0 (w0 ++ wr) H locs) {b : Nat} {As : List Value} {Qc : Array Value → State → Outcome → State → Prop} {free : Addr → Prop} {C : String}
    (hM : Met l y (.code y bytes mx rt :: cw_T) (cj_rm k) (va_Pc (.ref b :: As) (cj_pre D kd w0 H.size)) Qc 0 0 free)
    (q0 ci : Nat) {fs : List Value} {r : vw_C} (hrecv : w0[q0]? = some (b, .inr (ci, fs))) (hci : cj_cl[ci]? = some r) (hrC : r.1 = C)
    (hl : Cond.methodLink own index y ∈ cw_T) (hi : Cond.instanceMethod y ∈ cw_T) (hs : Cond.selects C y y ∈ cw_T) (hn : Cond.initialized C ∈ cw_T) (hc : Cond.code y bytes mx rt ∈ cw_T)
    (hd : y.cls = C ∧ y.cls ≠ "java/lang/invoke/MethodHandle" ∧ y.cls ≠ "java/lang/invoke/VarHandle" ∧ (parseMethodDescriptor y.desc).map (fun d => d.parameters.length) = some As.length) (hR : k + 1 ≤ R.frames ∧ 8 + (mx + 11) + 40 * k ≤ R.locals) (hRc : cells ≤ R.cells ∧ slots ≤ R.slots)
    (hsize : ls.size = nL) (hst : st0 = As.reverse ++ .ref b :: rest) (hW : (rest.map fun v => v.category).sum ≤ 8) (hdg : decode cc pc = .ok (.invokevirtual index, 3)) :
    va_Run p l e R s m args below meth c H locs cells slots 0 0 (F0 m pc ls st0) rest (Qc (Value.ref b :: As).toArray) free := by
  subst hrC
  have hb := cj_pv (av := .ref b :: As) X V
  obtain ⟨F, hK, -⟩ := X
  have hP0 : va_P D cj_cl w0 H := fun k q hq => V.1 k q (by rw [List.getElem?_append_left (List.getElem?_eq_some_iff.mp hq).1]; exact hq)
  exact va_runV (As := As) (rest := rest) (C := r.1) F hM (cwV As.length F.2.2.2.2 (cj_goodV hl hi hs hn hc) rfl rfl rfl hd hR) ⟨cj_blind, va_recv hK hP0 hci hrecv, hb⟩ rfl rfl hsize hst (lv_room hW) hdg ⟨hRc.1, hRc.2⟩
theorem cj_runS (X : cj_X p s m args c meth cc nL own D kd) (V : cj_V D A H0 (w0 ++ wr) H locs) {As : List Value} {Qc : Array Value → State → Outcome → State → Prop} {free : Addr → Prop}
    (hM : Met l y (.code y bytes mx rt :: cw_T) (cj_rm k) (va_Pc As (cj_pre D kd w0 H.size)) Qc 0 0 free)
    (hl : Cond.methodLink own index y ∈ cw_T) (hs : Cond.static y ∈ cw_T) (hn : Cond.initialized y.cls ∈ cw_T) (hc : Cond.code y bytes mx rt ∈ cw_T)
    (hd : y.cls ≠ "java/lang/invoke/MethodHandle" ∧ y.cls ≠ "java/lang/invoke/VarHandle" ∧ (parseMethodDescriptor y.desc).map (fun d => d.parameters.length) = some As.length) (hR : k + 1 ≤ R.frames ∧ 8 + (mx + 11) + 40 * k ≤ R.locals) (hRc : cells ≤ R.cells ∧ slots ≤ R.slots)
    (hsize : ls.size = nL) (hst : st0 = As.reverse ++ rest) (hW : (rest.map fun v => v.category).sum ≤ 8) (hdg : decode cc pc = .ok (.invokestatic index, 3)) :
    va_Run p l e R s m args below meth c H locs cells slots 0 0 (F0 m pc ls st0) rest (Qc As.toArray) free := by
  have hb := cj_pv (av := As) X V
  obtain ⟨F, hK, -⟩ := X
  exact va_runS (As := As) (rest := rest) F hM (va_cwS As.length F.2.2.2.2 (cj_goodS hl hs hn hc) rfl rfl rfl hd hR) ⟨cj_blind, hb⟩ rfl rfl hsize hst (lv_room hW) hdg ⟨hRc.1, hRc.2⟩
theorem cj_afteri {post : Int32 → S → Prop} {a : Array Value} (V : cj_V D A H0 (w0 ++ wr) H locs) (hr : va_Run p l e R s m args below meth c H locs cells slots 0 0 (F0 m pc ls st0) rest (va_Qi post (cj_post D kd (va_A w0 H.size) w) (va_A w0 H.size) a) (va_A w0 H.size))
    (kk : ∀ (r : Int32) (u : S) (H1 : Heap) (locs1 : List Loc), post r u → cj_V D A H0 (w u ++ wr) H1 locs1 → W p l e R s m args below meth c H1 locs1 cells slots Q (F0 m (pc + 3) ls (.int r :: rest))) : W p l e R s m args below meth c H locs cells slots Q (F0 m pc ls st0) := by
  have hF := cj_fA V
  obtain ⟨hP, hD, hS, hA⟩ := V
  refine va_calli hr hS (fun q _ h => hF q h) hF (fun r u t H1 locs1 ht hvm hw hB hz hk hS1 => ?_)
  obtain ⟨hP1, -, hD1⟩ := hB
  rw [ht] at hP1
  obtain ⟨h1, h2⟩ := cj_fr hP hD hk hF hP1 hD1
  exact kk r u H1 locs1 hw ⟨h1, h2, hS1, hA⟩
theorem cj_afterl {post : Int64 → S → Prop} {a : Array Value} (V : cj_V D A H0 (w0 ++ wr) H locs) (hr : va_Run p l e R s m args below meth c H locs cells slots 0 0 (F0 m pc ls st0) rest (va_Ql post (cj_post D kd (va_A w0 H.size) w) (va_A w0 H.size) a) (va_A w0 H.size))
    (kk : ∀ (r : Int64) (u : S) (H1 : Heap) (locs1 : List Loc), post r u → cj_V D A H0 (w u ++ wr) H1 locs1 → W p l e R s m args below meth c H1 locs1 cells slots Q (F0 m (pc + 3) ls (.long r :: rest))) : W p l e R s m args below meth c H locs cells slots Q (F0 m pc ls st0) := by
  have hF := cj_fA V
  obtain ⟨hP, hD, hS, hA⟩ := V
  refine va_calll hr hS (fun q _ h => hF q h) hF (fun r u t H1 locs1 ht hvm hw hB hz hk hS1 => ?_)
  obtain ⟨hP1, -, hD1⟩ := hB
  rw [ht] at hP1
  obtain ⟨h1, h2⟩ := cj_fr hP hD hk hF hP1 hD1
  exact kk r u H1 locs1 hw ⟨h1, h2, hS1, hA⟩
theorem cj_afterv {post : S → Prop} {a : Array Value} (V : cj_V D A H0 (w0 ++ wr) H locs) (hr : va_Run p l e R s m args below meth c H locs cells slots 0 0 (F0 m pc ls st0) rest (va_Qv post (cj_post D kd (va_A w0 H.size) w) (va_A w0 H.size) a) (va_A w0 H.size))
    (kk : ∀ (u : S) (H1 : Heap) (locs1 : List Loc), post u → cj_V D A H0 (w u ++ wr) H1 locs1 → W p l e R s m args below meth c H1 locs1 cells slots Q (F0 m (pc + 3) ls rest)) : W p l e R s m args below meth c H locs cells slots Q (F0 m pc ls st0) := by
  have hF := cj_fA V
  obtain ⟨hP, hD, hS, hA⟩ := V
  refine va_callv hr hS (fun q _ h => hF q h) hF (fun u t H1 locs1 ht hvm hw hB hz hk hS1 => ?_)
  obtain ⟨hP1, -, hD1⟩ := hB
  rw [ht] at hP1
  obtain ⟨h1, h2⟩ := cj_fr hP hD hk hF hP1 hD1
  exact kk u H1 locs1 hw ⟨h1, h2, hS1, hA⟩
end CJ1
end
section
/-- cells in a row -/
def cj_seg (N : Nat) (a : Nat → Nat) (e : Nat → va_E) : va_W := (List.range N).map (fun i => (a i, e i))
theorem cj_seg_get {N : Nat} {a : Nat → Nat} {e : Nat → va_E} {k : Nat} (h : k < N) : (cj_seg N a e)[k]? = some (a k, e k) := by
  unfold cj_seg
  rw [List.getElem?_map, List.getElem?_range h]
  rfl
theorem cj_seg_len {N : Nat} {a : Nat → Nat} {e : Nat → va_E} : (cj_seg N a e).length = N := by
  unfold cj_seg
  rw [List.length_map, List.length_range]
theorem cj_seg_set {N : Nat} {a : Nat → Nat} {e : Nat → va_E} {k : Nat} {v : va_E} : (cj_seg N a e).set k (a k, v) = cj_seg N a (va_up e k v) := by
  apply List.ext_getElem?
  intro i
  rw [List.getElem?_set]
  by_cases hi : i < N
  · rw [cj_seg_get hi, cj_seg_len]
    by_cases e : k = i
    · subst e
      rw [if_pos rfl, if_pos hi, cj_seg_get hi, va_up_self]
    · rw [if_neg e, cj_seg_get hi, va_up_ne _ _ (fun h => e h.symm)]
  · have h1 : (cj_seg N a e)[i]? = none := List.getElem?_eq_none (by rw [cj_seg_len]; omega)
    have h2 : (cj_seg N a (va_up e k v))[i]? = none := List.getElem?_eq_none (by rw [cj_seg_len]; omega)
    rw [h1, h2, cj_seg_len]
    split
    · rw [if_neg (by omega)]
    · rfl
theorem cj_get1 {x y : va_W} {k j : Nat} {q : Nat × va_E} (h : x.length = k) (hq : y[j]? = some q) : (x ++ y)[k + j]? = some q := by
  subst h
  rw [List.getElem?_append_right (Nat.le_add_right _ _), Nat.add_sub_cancel_left]
  exact hq
theorem cj_get0 {x y : va_W} {j : Nat} {q : Nat × va_E} (hq : x[j]? = some q) : (x ++ y)[j]? = some q := by
  rw [List.getElem?_append_left (List.getElem?_eq_some_iff.mp hq).1]
  exact hq
theorem cj_set1 {x y : va_W} {k j : Nat} {q : Nat × va_E} (h : x.length = k) : (x ++ y).set (k + j) q = x ++ y.set j q := by
  subst h
  rw [List.set_append, if_neg (by omega), Nat.add_sub_cancel_left]
theorem cj_set0 {x y : va_W} {j : Nat} {q : Nat × va_E} (h : j < x.length) : (x ++ y).set j q = x.set j q ++ y := by rw [List.set_append, if_pos h]
theorem cj_upN (f : Nat → Nat) (k v : Nat) : upd (fun i => nI (f i)) k (nI v) = fun i => nI (va_up f k v i) := by
  funext i
  unfold upd va_up
  split <;> rfl
theorem cj_upB (f : Nat → Bool) (k : Nat) (v : Bool) : upd (fun i => bI (f i)) k (bI v) = fun i => bI (va_up f k v i) := by
  funext i
  unfold upd va_up
  split <;> rfl
theorem cj_upI (f : Nat → Int32) (k : Nat) (v : Int32) : upd f k v = va_up f k v := rfl
theorem cj_upL (f : Nat → Int64) (k : Nat) (v : Int64) : vp_updL f k v = va_up f k v := rfl
theorem cj_narB (b : Bool) : vp_nar .boolean (bI b) = bI b := by cases b <;> decide
def wC_f (kd : Nat → ClassId) (ad : Nat → Nat) (E : Nat) (n : Nat → Nat) (cl : Nat → Bool) (con : Nat → Nat → Int32) (ow : Nat → Nat → Int64) (rn : Nat) (ed : Nat → Nat) (co : Nat → Nat) (hz : Nat → Int64) (mp : Nat → Nat → Nat) (pr : Nat → Int32) (cn : Nat) (hs : Nat → Int64) (wg : Nat → Int64) (rs : Nat → Int64) (ch : Int32) : va_W := [(ad 0, .inr (1, [.int (nI E), .ref (ad 1), .ref (ad 2), .ref (ad 3), .ref (ad 4), .int (nI rn), .ref (ad 5), .ref (ad 6), .ref (ad 7), .ref (ad 8), .ref (ad 9), .ref (ad 10), .int ch])), (ad 1, .inl (kd 0, 8, .inl (fun i => nI (n i)))), (ad 2, .inl (kd 1, 8, .inl (fun i => bI (cl i)))), (ad 3, .inl (kd 3, 8, .inr (.inr (.inr (.inr (fun i => some (ad (14 + i)))))))), (ad 4, .inl (kd 4, 8, .inr (.inr (.inr (.inr (fun i => some (ad (22 + i)))))))), (ad 5, .inl (kd 0, 14, .inl (fun i => nI (ed i)))), (ad 6, .inl (kd 0, 14, .inl (fun i => nI (co i)))), (ad 7, .inl (kd 2, 14, .inr (.inl hz))), (ad 8, .inl (kd 3, 41, .inr (.inr (.inr (.inr (fun i => some (ad (30 + i)))))))), (ad 9, .inl (kd 0, 40, .inl pr)), (ad 10, .inr (0, [.int (nI cn), .ref (ad 11), .ref (ad 12), .ref (ad 13)])), (ad 11, .inl (kd 2, 14, .inr (.inl hs))), (ad 12, .inl (kd 2, 14, .inr (.inl wg))), (ad 13, .inl (kd 2, 15, .inr (.inl rs)))]
abbrev sg1 (kd : Nat → ClassId) (ad : Nat → Nat) (con : Nat → Nat → Int32) : va_W := cj_seg 8 (fun i => ad (14 + i)) (fun i => .inl (kd 0, 40, .inl (con i)))
abbrev sg2 (kd : Nat → ClassId) (ad : Nat → Nat) (ow : Nat → Nat → Int64) : va_W := cj_seg 8 (fun i => ad (22 + i)) (fun i => .inl (kd 2, 4, .inr (.inl (ow i))))
abbrev sg3 (kd : Nat → ClassId) (ad : Nat → Nat) (mp : Nat → Nat → Nat) : va_W := cj_seg 41 (fun i => ad (30 + i)) (fun i => .inl (kd 0, 41, .inl (fun j => nI (mp i j))))
def wC (kd : Nat → ClassId) (ad : Nat → Nat) (E : Nat) (n : Nat → Nat) (cl : Nat → Bool) (con : Nat → Nat → Int32) (ow : Nat → Nat → Int64) (rn : Nat) (ed : Nat → Nat) (co : Nat → Nat) (hz : Nat → Int64) (mp : Nat → Nat → Nat) (pr : Nat → Int32) (cn : Nat) (hs : Nat → Int64) (wg : Nat → Int64) (rs : Nat → Int64) (ch : Int32) : va_W := wC_f kd ad E n cl con ow rn ed co hz mp pr cn hs wg rs ch ++ (sg1 kd ad con ++ (sg2 kd ad ow ++ sg3 kd ad mp))
def wM (kd : Nat → ClassId) (ad : Nat → Nat) (E : Nat) (rn : Nat) (ch : Int32) (n : Nat → Nat) (con : Nat → Int32) (ow : Nat → Nat) (ge : Nat → Bool) (cl : Nat → Bool) (ed : Nat → Nat) (co : Nat → Nat) (hz : Nat → Int64) (lo : Nat → Nat) (pr : Nat → Int32) : va_W := [(ad 0, .inr (2, [.int (nI E), .int (nI rn), .int ch, .ref (ad 1), .ref (ad 2), .ref (ad 3), .ref (ad 4), .ref (ad 5), .ref (ad 6), .ref (ad 7), .ref (ad 8), .ref (ad 9), .ref (ad 10)])), (ad 1, .inl (kd 0, 8, .inl (fun i => nI (n i)))), (ad 2, .inl (kd 0, 320, .inl con)), (ad 3, .inl (kd 0, 320, .inl (fun i => nI (ow i)))), (ad 4, .inl (kd 1, 320, .inl (fun i => bI (ge i)))), (ad 5, .inl (kd 1, 8, .inl (fun i => bI (cl i)))), (ad 6, .inl (kd 0, 14, .inl (fun i => nI (ed i)))), (ad 7, .inl (kd 0, 14, .inl (fun i => nI (co i)))), (ad 8, .inl (kd 2, 14, .inr (.inl hz))), (ad 9, .inl (kd 0, 1681, .inl (fun i => nI (lo i)))), (ad 10, .inl (kd 0, 40, .inl pr))]
section CJ2
variable {p : Program} {l : Launch} {e : Env} {R : Room} {s : State} {m : MethodId} {args : Array Value} {below : List Frame} {meth : Method} {c : Code} {H : Heap} {locs : List Loc} {cells slots : Nat} {Q : State → Prop}
variable {cc : ByteArray} {pc nL : Nat} {own : String} {ls : Array Slot} {rest : List Value} {D : va_G} {kd : Nat → ClassId} {A : Nat → Prop} {H0 : Heap} {a : Nat} {ws : va_W} {index : Nat}
theorem cj_getf (X : cj_X p s m args c meth cc nL own D kd) (V : cj_V D A H0 ws H locs) (q0 ci : Nat) {fs : List Value} {C ref : String} {T : u_T} {N : Nat} (he : ws[q0]? = some (a, .inr (ci, fs))) (hc : cj_cl[ci]? = some (C, T, N)) (hin : ∀ w ∈ u_ws C T N, w ∈ cw_T) (k : Nat) (hk : k < N) (hlink : Cond.fieldLink own index ref (T k).2.1 (T k).2.2.1 ∈ cw_T) (href : ref = (T k).1) {v : Value} (hv : fs[k]? = some v) (hdg : decode cc pc = .ok (.getfield index, 3)) (kk : W p l e R s m args below meth c H locs cells slots Q (F0 m (pc + 3) ls (v :: rest))) : W p l e R s m args below meth c H locs cells slots Q (F0 m pc ls (.ref a :: rest)) := by
  subst href
  obtain ⟨⟨hx, hb, -, hown, hts⟩, hK, -⟩ := X
  exact va_get hx hb hts hin hown hK V.1 q0 he hc k hk (hts _ hlink) (fun _ h => h) hv hdg kk
theorem cj_putf (X : cj_X p s m args c meth cc nL own D kd) (V : cj_V D A H0 ws H locs) (q0 ci : Nat) {fs : List Value} {C ref : String} {T : u_T} {N : Nat} (he : ws[q0]? = some (a, .inr (ci, fs))) (hc : cj_cl[ci]? = some (C, T, N)) (hin : ∀ w ∈ u_ws C T N, w ∈ cw_T) (ty0 : Nat → FieldType) (hty : ∀ k, k < N → parseFieldDescriptor (T k).2.2.1 = some (ty0 k)) (hnm : ∀ a, a < N → ∀ b, b < N → a ≠ b → (T a).2.1 ≠ (T b).2.1) (k : Nat) (hk : k < N) (hlink : Cond.fieldLink own index ref (T k).2.1 (T k).2.2.1 ∈ cw_T) (href : ref = (T k).1) (hfin : (T k).2.2.2 = false) {x : Int32} (hi : ty0 k = .int) (hl : k < fs.length) (hdg : decode cc pc = .ok (.putfield index, 3)) (kk : ∀ (H1 : Heap) (locs1 : List Loc), cj_V D A H0 (ws.set q0 (a, .inr (ci, fs.set k (.int x)))) H1 locs1 → W p l e R s m args below meth c H1 locs1 cells slots Q (F0 m (pc + 3) ls rest)) : W p l e R s m args below meth c H locs cells slots Q (F0 m pc ls (.int x :: .ref a :: rest)) := by
  subst href
  obtain ⟨⟨hx, hb, -, hown, hts⟩, hK, -⟩ := X
  obtain ⟨hP, hD, hS, hA⟩ := V
  exact va_put (ty := .int) hx hb hts hin ty0 hty hnm hown hK hP hD hS q0 he hc k hk (hts _ hlink) (fun _ h => h) hfin (by rw [hty k hk, hi]) rfl rfl hl hdg (fun H1 locs1 h1 h2 h3 => kk H1 locs1 ⟨h1, h2, h3, hA⟩)
theorem cj_iald (X : cj_X p s m args c meth cc nL own D kd) (V : cj_V D A H0 ws H locs) (q0 t0 : Nat) {cA : ClassId} {n k : Nat} {f : Nat → Int32} (ha : ws[q0]? = some (a, .inl (cA, n, .inl f))) (ht : (cj_tys kd)[t0]? = some (cA, .int)) (hk : k < n) (hn : n < 2 ^ 31) (hdg : decode cc pc = .ok (.iaload, 1)) (kk : W p l e R s m args below meth c H locs cells slots Q (F0 m (pc + 1) ls (.int (f k) :: rest))) : W p l e R s m args below meth c H locs cells slots Q (F0 m pc ls (.int (nI k) :: .ref a :: rest)) := by
  obtain ⟨⟨hx, hb, -, hown, hts⟩, hK, -⟩ := X
  refine va_iald hx hb hK V.1 q0 t0 ha ht (vp_in_nI hk hn) hdg ?_
  rw [nI_clamp (Nat.lt_trans hk hn)]
  exact kk
theorem cj_zald (X : cj_X p s m args c meth cc nL own D kd) (V : cj_V D A H0 ws H locs) (q0 t0 : Nat) {cA : ClassId} {n k : Nat} {f : Nat → Int32} (ha : ws[q0]? = some (a, .inl (cA, n, .inl f))) (ht : (cj_tys kd)[t0]? = some (cA, .boolean)) (hk : k < n) (hn : n < 2 ^ 31) (hdg : decode cc pc = .ok (.baload, 1)) (kk : W p l e R s m args below meth c H locs cells slots Q (F0 m (pc + 1) ls (.int (f k) :: rest))) : W p l e R s m args below meth c H locs cells slots Q (F0 m pc ls (.int (nI k) :: .ref a :: rest)) := by
  obtain ⟨⟨hx, hb, -, hown, hts⟩, hK, -⟩ := X
  refine va_zald hx hb hK V.1 q0 t0 ha ht (vp_in_nI hk hn) hdg ?_
  rw [nI_clamp (Nat.lt_trans hk hn)]
  exact kk
theorem cj_lald (X : cj_X p s m args c meth cc nL own D kd) (V : cj_V D A H0 ws H locs) (q0 t0 : Nat) {cA : ClassId} {n k : Nat} {f : Nat → Int64} (ha : ws[q0]? = some (a, .inl (cA, n, .inr (.inl f)))) (ht : (cj_tys kd)[t0]? = some (cA, .long)) (hk : k < n) (hn : n < 2 ^ 31) (hdg : decode cc pc = .ok (.laload, 1)) (kk : W p l e R s m args below meth c H locs cells slots Q (F0 m (pc + 1) ls (.long (f k) :: rest))) : W p l e R s m args below meth c H locs cells slots Q (F0 m pc ls (.int (nI k) :: .ref a :: rest)) := by
  obtain ⟨⟨hx, hb, -, hown, hts⟩, hK, -⟩ := X
  refine va_lald hx hb hK V.1 q0 t0 ha ht (vp_in_nI hk hn) hdg ?_
  rw [nI_clamp (Nat.lt_trans hk hn)]
  exact kk
theorem cj_iast (X : cj_X p s m args c meth cc nL own D kd) (V : cj_V D A H0 ws H locs) (q0 t0 : Nat) {cA : ClassId} {n k : Nat} {f : Nat → Int32} {x : Int32} (ha : ws[q0]? = some (a, .inl (cA, n, .inl (f)))) (ht : (cj_tys kd)[t0]? = some (cA, .int)) (hk : k < n) (hn : n < 2 ^ 31) (hdg : decode cc pc = .ok (.iastore, 1)) (kk : ∀ (H1 : Heap) (locs1 : List Loc), cj_V D A H0 (ws.set q0 (a, .inl (cA, n, .inl (upd f k x)))) H1 locs1 → W p l e R s m args below meth c H1 locs1 cells slots Q (F0 m (pc + 1) ls rest)) : W p l e R s m args below meth c H locs cells slots Q (F0 m pc ls (.int x :: .int (nI k) :: .ref a :: rest)) := by
  obtain ⟨⟨hx, hb, -, hown, hts⟩, hK, -⟩ := X
  obtain ⟨hP, hD, hS, hA⟩ := V
  refine va_iast hx hb hK hP hD hS q0 t0 ha ht (vp_in_nI hk hn) hdg (fun H1 locs1 h1 h2 h3 => ?_)
  rw [nI_clamp (Nat.lt_trans hk hn)] at h1 h2
  exact kk H1 locs1 ⟨h1, h2, h3, hA⟩
theorem cj_zast (X : cj_X p s m args c meth cc nL own D kd) (V : cj_V D A H0 ws H locs) (q0 t0 : Nat) {cA : ClassId} {n k : Nat} {f : Nat → Int32} {x : Int32} (ha : ws[q0]? = some (a, .inl (cA, n, .inl (f)))) (ht : (cj_tys kd)[t0]? = some (cA, .boolean)) (hk : k < n) (hn : n < 2 ^ 31) (hdg : decode cc pc = .ok (.bastore, 1)) (kk : ∀ (H1 : Heap) (locs1 : List Loc), cj_V D A H0 (ws.set q0 (a, .inl (cA, n, .inl (upd f k (vp_nar .boolean x))))) H1 locs1 → W p l e R s m args below meth c H1 locs1 cells slots Q (F0 m (pc + 1) ls rest)) : W p l e R s m args below meth c H locs cells slots Q (F0 m pc ls (.int x :: .int (nI k) :: .ref a :: rest)) := by
  obtain ⟨⟨hx, hb, -, hown, hts⟩, hK, -⟩ := X
  obtain ⟨hP, hD, hS, hA⟩ := V
  refine va_zast hx hb hK hP hD hS q0 t0 ha ht (vp_in_nI hk hn) hdg (fun H1 locs1 h1 h2 h3 => ?_)
  rw [nI_clamp (Nat.lt_trans hk hn)] at h1 h2
  exact kk H1 locs1 ⟨h1, h2, h3, hA⟩
theorem cj_last (X : cj_X p s m args c meth cc nL own D kd) (V : cj_V D A H0 ws H locs) (q0 t0 : Nat) {cA : ClassId} {n k : Nat} {f : Nat → Int64} {x : Int64} (ha : ws[q0]? = some (a, .inl (cA, n, .inr (.inl (f))))) (ht : (cj_tys kd)[t0]? = some (cA, .long)) (hk : k < n) (hn : n < 2 ^ 31) (hdg : decode cc pc = .ok (.lastore, 1)) (kk : ∀ (H1 : Heap) (locs1 : List Loc), cj_V D A H0 (ws.set q0 (a, .inl (cA, n, .inr (.inl (vp_updL f k x))))) H1 locs1 → W p l e R s m args below meth c H1 locs1 cells slots Q (F0 m (pc + 1) ls rest)) : W p l e R s m args below meth c H locs cells slots Q (F0 m pc ls (.long x :: .int (nI k) :: .ref a :: rest)) := by
  obtain ⟨⟨hx, hb, -, hown, hts⟩, hK, -⟩ := X
  obtain ⟨hP, hD, hS, hA⟩ := V
  refine va_last hx hb hK hP hD hS q0 t0 ha ht (vp_in_nI hk hn) hdg (fun H1 locs1 h1 h2 h3 => ?_)
  rw [nI_clamp (Nat.lt_trans hk hn)] at h1 h2
  exact kk H1 locs1 ⟨h1, h2, h3, hA⟩
theorem cj_aald (X : cj_X p s m args c meth cc nL own D kd) (V : cj_V D A H0 ws H locs) (q0 t0 : Nat) {cA : ClassId} {n k b : Nat} {ty : FieldType} {f : Nat → Option Nat} (ha : ws[q0]? = some (a, .inl (cA, n, .inr (.inr (.inr (.inr (f))))))) (ht : (cj_tys kd)[t0]? = some (cA, .array ty)) (hk : k < n) (hn : n < 2 ^ 31) (hf : f k = some b) (hdg : decode cc pc = .ok (.aaload, 1)) (kk : W p l e R s m args below meth c H locs cells slots Q (F0 m (pc + 1) ls (.ref b :: rest))) : W p l e R s m args below meth c H locs cells slots Q (F0 m pc ls (.int (nI k) :: .ref a :: rest)) := by
  obtain ⟨⟨hx, hb, -, hown, hts⟩, hK, -⟩ := X
  have hc : (nI k).toNatClampNeg = k := nI_clamp (Nat.lt_trans hk hn)
  exact W.aald (v := .ref b) (ty := .array ty) hx hb (V.1 q0 _ ha) ((hK.2 t0 _ ht).1 n (fun j => va_rf (f j))) rfl (fun q => by cases q) (by show ¬ (nI k < 0 ∨ (arrV _ _ _).slots.size ≤ _); rw [arrV_size]; exact vp_in_nI hk hn) (by show (arrV _ _ _).slots[_]? = _; rw [hc, arrV_read _ _ hk, hf]; rfl) rfl rfl hdg kk
end CJ2
theorem wC_f_len {kd : Nat → ClassId} {ad : Nat → Nat} {E : Nat} {n : Nat → Nat} {cl : Nat → Bool} {con : Nat → Nat → Int32} {ow : Nat → Nat → Int64} {rn : Nat} {ed : Nat → Nat} {co : Nat → Nat} {hz : Nat → Int64} {mp : Nat → Nat → Nat} {pr : Nat → Int32} {cn : Nat} {hs : Nat → Int64} {wg : Nat → Int64} {rs : Nat → Int64} {ch : Int32} : (wC_f kd ad E n cl con ow rn ed co hz mp pr cn hs wg rs ch).length = 14 := rfl
section CJ3
variable {p : Program} {l : Launch} {e : Env} {R : Room} {s : State} {m : MethodId} {args : Array Value} {below : List Frame} {meth : Method} {c : Code} {H : Heap} {locs : List Loc} {cells slots : Nat} {Q : State → Prop}
variable {cc : ByteArray} {pc nL : Nat} {own : String} {ls : Array Slot} {rest : List Value} {D : va_G} {kd : Nat → ClassId} {A : Nat → Prop} {H0 : Heap} {index : Nat}
variable {ad : Nat → Nat} {E : Nat} {n : Nat → Nat} {cl : Nat → Bool} {con : Nat → Nat → Int32} {ow : Nat → Nat → Int64} {rn : Nat} {ed : Nat → Nat} {co : Nat → Nat} {hz : Nat → Int64} {mp : Nat → Nat → Nat} {pr : Nat → Int32} {cn : Nat} {hs : Nat → Int64} {wg : Nat → Int64} {rs : Nat → Int64} {ch : Int32}
theorem gC (k : Nat) {v : Value} (X : cj_X p s m args c meth cc nL own D kd) (V : cj_V D A H0 (wC kd ad E n cl con ow rn ed co hz mp pr cn hs wg rs ch) H locs) (hlink : Cond.fieldLink own index (TC k).1 (TC k).2.1 (TC k).2.2.1 ∈ cw_T) (hk : k < 13) (hv : ([.int (nI E), .ref (ad 1), .ref (ad 2), .ref (ad 3), .ref (ad 4), .int (nI rn), .ref (ad 5), .ref (ad 6), .ref (ad 7), .ref (ad 8), .ref (ad 9), .ref (ad 10), .int ch] : List Value)[k]? = some v) (hdg : decode cc pc = .ok (.getfield index, 3)) (kk : W p l e R s m args below meth c H locs cells slots Q (F0 m (pc + 3) ls (v :: rest))) : W p l e R s m args below meth c H locs cells slots Q (F0 m pc ls (.ref (ad 0) :: rest)) := cj_getf X V 0 1 rfl rfl wsC k hk hlink rfl hv hdg kk
theorem gD (k : Nat) {v : Value} (X : cj_X p s m args c meth cc nL own D kd) (V : cj_V D A H0 (wC kd ad E n cl con ow rn ed co hz mp pr cn hs wg rs ch) H locs) (hlink : Cond.fieldLink own index (TD k).1 (TD k).2.1 (TD k).2.2.1 ∈ cw_T) (hk : k < 4) (hv : ([.int (nI cn), .ref (ad 11), .ref (ad 12), .ref (ad 13)] : List Value)[k]? = some v) (hdg : decode cc pc = .ok (.getfield index, 3)) (kk : W p l e R s m args below meth c H locs cells slots Q (F0 m (pc + 3) ls (v :: rest))) : W p l e R s m args below meth c H locs cells slots Q (F0 m pc ls (.ref (ad 10) :: rest)) := cj_getf X V 10 0 rfl rfl wsD k hk hlink rfl hv hdg kk
theorem pC_E (X : cj_X p s m args c meth cc nL own D kd) (V : cj_V D A H0 (wC kd ad E n cl con ow rn ed co hz mp pr cn hs wg rs ch) H locs) {x : Nat} (hlink : Cond.fieldLink own index (TC 0).1 (TC 0).2.1 (TC 0).2.2.1 ∈ cw_T) (hdg : decode cc pc = .ok (.putfield index, 3)) (kk : ∀ (H1 : Heap) (locs1 : List Loc), cj_V D A H0 (wC kd ad x n cl con ow rn ed co hz mp pr cn hs wg rs ch) H1 locs1 → W p l e R s m args below meth c H1 locs1 cells slots Q (F0 m (pc + 3) ls rest)) : W p l e R s m args below meth c H locs cells slots Q (F0 m pc ls (.int (nI x) :: .ref (ad 0) :: rest)) := cj_putf X V 0 1 rfl rfl wsC tyC tyC_ok nmC 0 (by decide) hlink rfl rfl rfl (Nat.le_of_ble_eq_true rfl) hdg kk
theorem pC_rn (X : cj_X p s m args c meth cc nL own D kd) (V : cj_V D A H0 (wC kd ad E n cl con ow rn ed co hz mp pr cn hs wg rs ch) H locs) {x : Nat} (hlink : Cond.fieldLink own index (TC 5).1 (TC 5).2.1 (TC 5).2.2.1 ∈ cw_T) (hdg : decode cc pc = .ok (.putfield index, 3)) (kk : ∀ (H1 : Heap) (locs1 : List Loc), cj_V D A H0 (wC kd ad E n cl con ow x ed co hz mp pr cn hs wg rs ch) H1 locs1 → W p l e R s m args below meth c H1 locs1 cells slots Q (F0 m (pc + 3) ls rest)) : W p l e R s m args below meth c H locs cells slots Q (F0 m pc ls (.int (nI x) :: .ref (ad 0) :: rest)) := cj_putf X V 0 1 rfl rfl wsC tyC tyC_ok nmC 5 (by decide) hlink rfl rfl rfl (Nat.le_of_ble_eq_true rfl) hdg kk
theorem pC_ch (X : cj_X p s m args c meth cc nL own D kd) (V : cj_V D A H0 (wC kd ad E n cl con ow rn ed co hz mp pr cn hs wg rs ch) H locs) {x : Int32} (hlink : Cond.fieldLink own index (TC 12).1 (TC 12).2.1 (TC 12).2.2.1 ∈ cw_T) (hdg : decode cc pc = .ok (.putfield index, 3)) (kk : ∀ (H1 : Heap) (locs1 : List Loc), cj_V D A H0 (wC kd ad E n cl con ow rn ed co hz mp pr cn hs wg rs x) H1 locs1 → W p l e R s m args below meth c H1 locs1 cells slots Q (F0 m (pc + 3) ls rest)) : W p l e R s m args below meth c H locs cells slots Q (F0 m pc ls (.int x :: .ref (ad 0) :: rest)) := cj_putf X V 0 1 rfl rfl wsC tyC tyC_ok nmC 12 (by decide) hlink rfl rfl rfl (Nat.le_of_ble_eq_true rfl) hdg kk
theorem pD_cn (X : cj_X p s m args c meth cc nL own D kd) (V : cj_V D A H0 (wC kd ad E n cl con ow rn ed co hz mp pr cn hs wg rs ch) H locs) {x : Nat} (hlink : Cond.fieldLink own index (TD 0).1 (TD 0).2.1 (TD 0).2.2.1 ∈ cw_T) (hdg : decode cc pc = .ok (.putfield index, 3)) (kk : ∀ (H1 : Heap) (locs1 : List Loc), cj_V D A H0 (wC kd ad E n cl con ow rn ed co hz mp pr x hs wg rs ch) H1 locs1 → W p l e R s m args below meth c H1 locs1 cells slots Q (F0 m (pc + 3) ls rest)) : W p l e R s m args below meth c H locs cells slots Q (F0 m pc ls (.int (nI x) :: .ref (ad 10) :: rest)) := cj_putf X V 10 0 rfl rfl wsD tyD tyD_ok nmD 0 (by decide) hlink rfl rfl rfl (Nat.le_of_ble_eq_true rfl) hdg kk
theorem rC_n {k : Nat} (X : cj_X p s m args c meth cc nL own D kd) (V : cj_V D A H0 (wC kd ad E n cl con ow rn ed co hz mp pr cn hs wg rs ch) H locs) (hk : k < 8) (hdg : decode cc pc = .ok (.iaload, 1)) (kk : W p l e R s m args below meth c H locs cells slots Q (F0 m (pc + 1) ls (.int (nI (n k)) :: rest))) : W p l e R s m args below meth c H locs cells slots Q (F0 m pc ls (.int (nI k) :: .ref (ad 1) :: rest)) := cj_iald X V 1 0 rfl rfl hk (by decide) hdg kk
theorem rC_cl {k : Nat} (X : cj_X p s m args c meth cc nL own D kd) (V : cj_V D A H0 (wC kd ad E n cl con ow rn ed co hz mp pr cn hs wg rs ch) H locs) (hk : k < 8) (hdg : decode cc pc = .ok (.baload, 1)) (kk : W p l e R s m args below meth c H locs cells slots Q (F0 m (pc + 1) ls (.int (bI (cl k)) :: rest))) : W p l e R s m args below meth c H locs cells slots Q (F0 m pc ls (.int (nI k) :: .ref (ad 2) :: rest)) := cj_zald X V 2 1 rfl rfl hk (by decide) hdg kk
theorem rC_ed {k : Nat} (X : cj_X p s m args c meth cc nL own D kd) (V : cj_V D A H0 (wC kd ad E n cl con ow rn ed co hz mp pr cn hs wg rs ch) H locs) (hk : k < 14) (hdg : decode cc pc = .ok (.iaload, 1)) (kk : W p l e R s m args below meth c H locs cells slots Q (F0 m (pc + 1) ls (.int (nI (ed k)) :: rest))) : W p l e R s m args below meth c H locs cells slots Q (F0 m pc ls (.int (nI k) :: .ref (ad 5) :: rest)) := cj_iald X V 5 0 rfl rfl hk (by decide) hdg kk
theorem rC_co {k : Nat} (X : cj_X p s m args c meth cc nL own D kd) (V : cj_V D A H0 (wC kd ad E n cl con ow rn ed co hz mp pr cn hs wg rs ch) H locs) (hk : k < 14) (hdg : decode cc pc = .ok (.iaload, 1)) (kk : W p l e R s m args below meth c H locs cells slots Q (F0 m (pc + 1) ls (.int (nI (co k)) :: rest))) : W p l e R s m args below meth c H locs cells slots Q (F0 m pc ls (.int (nI k) :: .ref (ad 6) :: rest)) := cj_iald X V 6 0 rfl rfl hk (by decide) hdg kk
theorem rC_hi {k : Nat} (X : cj_X p s m args c meth cc nL own D kd) (V : cj_V D A H0 (wC kd ad E n cl con ow rn ed co hz mp pr cn hs wg rs ch) H locs) (hk : k < 14) (hdg : decode cc pc = .ok (.laload, 1)) (kk : W p l e R s m args below meth c H locs cells slots Q (F0 m (pc + 1) ls (.long (hz k) :: rest))) : W p l e R s m args below meth c H locs cells slots Q (F0 m pc ls (.int (nI k) :: .ref (ad 7) :: rest)) := cj_lald X V 7 2 rfl rfl hk (by decide) hdg kk
theorem rC_pr {k : Nat} (X : cj_X p s m args c meth cc nL own D kd) (V : cj_V D A H0 (wC kd ad E n cl con ow rn ed co hz mp pr cn hs wg rs ch) H locs) (hk : k < 40) (hdg : decode cc pc = .ok (.iaload, 1)) (kk : W p l e R s m args below meth c H locs cells slots Q (F0 m (pc + 1) ls (.int (pr k) :: rest))) : W p l e R s m args below meth c H locs cells slots Q (F0 m pc ls (.int (nI k) :: .ref (ad 9) :: rest)) := cj_iald X V 9 0 rfl rfl hk (by decide) hdg kk
theorem rC_hs {k : Nat} (X : cj_X p s m args c meth cc nL own D kd) (V : cj_V D A H0 (wC kd ad E n cl con ow rn ed co hz mp pr cn hs wg rs ch) H locs) (hk : k < 14) (hdg : decode cc pc = .ok (.laload, 1)) (kk : W p l e R s m args below meth c H locs cells slots Q (F0 m (pc + 1) ls (.long (hs k) :: rest))) : W p l e R s m args below meth c H locs cells slots Q (F0 m pc ls (.int (nI k) :: .ref (ad 11) :: rest)) := cj_lald X V 11 2 rfl rfl hk (by decide) hdg kk
theorem rC_wg {k : Nat} (X : cj_X p s m args c meth cc nL own D kd) (V : cj_V D A H0 (wC kd ad E n cl con ow rn ed co hz mp pr cn hs wg rs ch) H locs) (hk : k < 14) (hdg : decode cc pc = .ok (.laload, 1)) (kk : W p l e R s m args below meth c H locs cells slots Q (F0 m (pc + 1) ls (.long (wg k) :: rest))) : W p l e R s m args below meth c H locs cells slots Q (F0 m pc ls (.int (nI k) :: .ref (ad 12) :: rest)) := cj_lald X V 12 2 rfl rfl hk (by decide) hdg kk
theorem rC_rs {k : Nat} (X : cj_X p s m args c meth cc nL own D kd) (V : cj_V D A H0 (wC kd ad E n cl con ow rn ed co hz mp pr cn hs wg rs ch) H locs) (hk : k < 15) (hdg : decode cc pc = .ok (.laload, 1)) (kk : W p l e R s m args below meth c H locs cells slots Q (F0 m (pc + 1) ls (.long (rs k) :: rest))) : W p l e R s m args below meth c H locs cells slots Q (F0 m pc ls (.int (nI k) :: .ref (ad 13) :: rest)) := cj_lald X V 13 2 rfl rfl hk (by decide) hdg kk
theorem rC_conO {k : Nat} (X : cj_X p s m args c meth cc nL own D kd) (V : cj_V D A H0 (wC kd ad E n cl con ow rn ed co hz mp pr cn hs wg rs ch) H locs) (hk : k < 8) (hdg : decode cc pc = .ok (.aaload, 1)) (kk : W p l e R s m args below meth c H locs cells slots Q (F0 m (pc + 1) ls (.ref (ad (14 + k)) :: rest))) : W p l e R s m args below meth c H locs cells slots Q (F0 m pc ls (.int (nI k) :: .ref (ad 3) :: rest)) := cj_aald X V 3 3 rfl rfl hk (by decide) rfl hdg kk
theorem rC_owO {k : Nat} (X : cj_X p s m args c meth cc nL own D kd) (V : cj_V D A H0 (wC kd ad E n cl con ow rn ed co hz mp pr cn hs wg rs ch) H locs) (hk : k < 8) (hdg : decode cc pc = .ok (.aaload, 1)) (kk : W p l e R s m args below meth c H locs cells slots Q (F0 m (pc + 1) ls (.ref (ad (22 + k)) :: rest))) : W p l e R s m args below meth c H locs cells slots Q (F0 m pc ls (.int (nI k) :: .ref (ad 4) :: rest)) := cj_aald X V 4 4 rfl rfl hk (by decide) rfl hdg kk
theorem rC_mpO {k : Nat} (X : cj_X p s m args c meth cc nL own D kd) (V : cj_V D A H0 (wC kd ad E n cl con ow rn ed co hz mp pr cn hs wg rs ch) H locs) (hk : k < 41) (hdg : decode cc pc = .ok (.aaload, 1)) (kk : W p l e R s m args below meth c H locs cells slots Q (F0 m (pc + 1) ls (.ref (ad (30 + k)) :: rest))) : W p l e R s m args below meth c H locs cells slots Q (F0 m pc ls (.int (nI k) :: .ref (ad 8) :: rest)) := cj_aald X V 8 3 rfl rfl hk (by decide) rfl hdg kk
theorem wC_con {i : Nat} (hi : i < 8) : (wC kd ad E n cl con ow rn ed co hz mp pr cn hs wg rs ch)[14 + i]? = some (ad (14 + i), .inl (kd 0, 40, .inl (con i))) := cj_get1 (k := 14) wC_f_len (cj_get0 (cj_seg_get (N := 8) hi))
theorem wC_ow {i : Nat} (hi : i < 8) : (wC kd ad E n cl con ow rn ed co hz mp pr cn hs wg rs ch)[14 + (8 + i)]? = some (ad (22 + i), .inl (kd 2, 4, .inr (.inl (ow i)))) := cj_get1 (k := 14) wC_f_len (cj_get1 (k := 8) cj_seg_len (cj_get0 (cj_seg_get (N := 8) (a := fun i => ad (22 + i)) hi)))
theorem wC_mp {i : Nat} (hi : i < 41) : (wC kd ad E n cl con ow rn ed co hz mp pr cn hs wg rs ch)[14 + (8 + (8 + i))]? = some (ad (30 + i), .inl (kd 0, 41, .inl (fun j => nI (mp i j)))) := cj_get1 (k := 14) wC_f_len (cj_get1 (k := 8) cj_seg_len (cj_get1 (k := 8) cj_seg_len (cj_seg_get (N := 41) (a := fun i => ad (30 + i)) hi)))
theorem wC_con_set {i : Nat} {g : Nat → Int32} (h : i < 8) : (wC kd ad E n cl con ow rn ed co hz mp pr cn hs wg rs ch).set (14 + i) (ad (14 + i), .inl (kd 0, 40, .inl g)) = wC kd ad E n cl (va_up con i g) ow rn ed co hz mp pr cn hs wg rs ch := by
  have e : va_up (fun i => (Sum.inl (kd 0, 40, .inl (con i)) : va_E)) i (.inl (kd 0, 40, .inl g)) = fun j => .inl (kd 0, 40, .inl (va_up con i g j)) := by
    funext j
    unfold va_up
    split <;> rfl
  unfold wC
  rw [cj_set1 (k := 14) wC_f_len, cj_set0 (by rw [cj_seg_len]; exact h), cj_seg_set (a := fun i => ad (14 + i)) (k := i), e]
  rfl
theorem wC_ow_set {i : Nat} {g : Nat → Int64} (h : i < 8) : (wC kd ad E n cl con ow rn ed co hz mp pr cn hs wg rs ch).set (14 + (8 + i)) (ad (22 + i), .inl (kd 2, 4, .inr (.inl g))) = wC kd ad E n cl con (va_up ow i g) rn ed co hz mp pr cn hs wg rs ch := by
  have e : va_up (fun i => (Sum.inl (kd 2, 4, .inr (.inl (ow i))) : va_E)) i (.inl (kd 2, 4, .inr (.inl g))) = fun j => .inl (kd 2, 4, .inr (.inl (va_up ow i g j))) := by
    funext j
    unfold va_up
    split <;> rfl
  unfold wC
  rw [cj_set1 (k := 14) wC_f_len, cj_set1 (k := 8) cj_seg_len, cj_set0 (by rw [cj_seg_len]; exact h), cj_seg_set (a := fun i => ad (22 + i)) (k := i), e]
  rfl
theorem wC_mp_set {i : Nat} {g : Nat → Nat} (h : i < 41) : (wC kd ad E n cl con ow rn ed co hz mp pr cn hs wg rs ch).set (14 + (8 + (8 + i))) (ad (30 + i), .inl (kd 0, 41, .inl (fun j => nI (g j)))) = wC kd ad E n cl con ow rn ed co hz (va_up mp i g) pr cn hs wg rs ch := by
  have e : va_up (fun i => (Sum.inl (kd 0, 41, .inl (fun j => nI (mp i j))) : va_E)) i (.inl (kd 0, 41, .inl (fun j => nI (g j)))) = fun j => .inl (kd 0, 41, .inl (fun x => nI (va_up mp i g j x))) := by
    funext j
    unfold va_up
    split <;> rfl
  unfold wC
  rw [cj_set1 (k := 14) wC_f_len, cj_set1 (k := 8) cj_seg_len, cj_set1 (k := 8) cj_seg_len, cj_seg_set (a := fun i => ad (30 + i)) (k := i), e]
  rfl
theorem rC_conR {i k : Nat} (X : cj_X p s m args c meth cc nL own D kd) (V : cj_V D A H0 (wC kd ad E n cl con ow rn ed co hz mp pr cn hs wg rs ch) H locs) (hi : i < 8) (hk : k < 40) (hdg : decode cc pc = .ok (.iaload, 1)) (kk : W p l e R s m args below meth c H locs cells slots Q (F0 m (pc + 1) ls (.int (con i k) :: rest))) : W p l e R s m args below meth c H locs cells slots Q (F0 m pc ls (.int (nI k) :: .ref (ad (14 + i)) :: rest)) := cj_iald X V (14 + i) 0 (wC_con hi) rfl hk (by decide) hdg kk
theorem rC_owR {i k : Nat} (X : cj_X p s m args c meth cc nL own D kd) (V : cj_V D A H0 (wC kd ad E n cl con ow rn ed co hz mp pr cn hs wg rs ch) H locs) (hi : i < 8) (hk : k < 4) (hdg : decode cc pc = .ok (.laload, 1)) (kk : W p l e R s m args below meth c H locs cells slots Q (F0 m (pc + 1) ls (.long (ow i k) :: rest))) : W p l e R s m args below meth c H locs cells slots Q (F0 m pc ls (.int (nI k) :: .ref (ad (22 + i)) :: rest)) := cj_lald X V (14 + (8 + i)) 2 (wC_ow hi) rfl hk (by decide) hdg kk
theorem rC_mpR {i k : Nat} (X : cj_X p s m args c meth cc nL own D kd) (V : cj_V D A H0 (wC kd ad E n cl con ow rn ed co hz mp pr cn hs wg rs ch) H locs) (hi : i < 41) (hk : k < 41) (hdg : decode cc pc = .ok (.iaload, 1)) (kk : W p l e R s m args below meth c H locs cells slots Q (F0 m (pc + 1) ls (.int (nI (mp i k)) :: rest))) : W p l e R s m args below meth c H locs cells slots Q (F0 m pc ls (.int (nI k) :: .ref (ad (30 + i)) :: rest)) := cj_iald X V (14 + (8 + (8 + i))) 0 (wC_mp hi) rfl hk (by decide) hdg kk
theorem sC_n {k : Nat} {x : Nat} (X : cj_X p s m args c meth cc nL own D kd) (V : cj_V D A H0 (wC kd ad E n cl con ow rn ed co hz mp pr cn hs wg rs ch) H locs) (hk : k < 8) (hdg : decode cc pc = .ok (.iastore, 1)) (kk : ∀ (H1 : Heap) (locs1 : List Loc), cj_V D A H0 (wC kd ad E (va_up n k x) cl con ow rn ed co hz mp pr cn hs wg rs ch) H1 locs1 → W p l e R s m args below meth c H1 locs1 cells slots Q (F0 m (pc + 1) ls rest)) : W p l e R s m args below meth c H locs cells slots Q (F0 m pc ls (.int (nI x) :: .int (nI k) :: .ref (ad 1) :: rest)) := cj_iast X V 1 0 rfl rfl hk (by decide) hdg (fun H1 locs1 h => kk H1 locs1 (by rw [cj_upN] at h; exact h))
theorem sC_cl {k : Nat} {x : Bool} (X : cj_X p s m args c meth cc nL own D kd) (V : cj_V D A H0 (wC kd ad E n cl con ow rn ed co hz mp pr cn hs wg rs ch) H locs) (hk : k < 8) (hdg : decode cc pc = .ok (.bastore, 1)) (kk : ∀ (H1 : Heap) (locs1 : List Loc), cj_V D A H0 (wC kd ad E n (va_up cl k x) con ow rn ed co hz mp pr cn hs wg rs ch) H1 locs1 → W p l e R s m args below meth c H1 locs1 cells slots Q (F0 m (pc + 1) ls rest)) : W p l e R s m args below meth c H locs cells slots Q (F0 m pc ls (.int (bI x) :: .int (nI k) :: .ref (ad 2) :: rest)) := cj_zast X V 2 1 rfl rfl hk (by decide) hdg (fun H1 locs1 h => kk H1 locs1 (by rw [cj_narB, cj_upB] at h; exact h))
theorem sC_ed {k : Nat} {x : Nat} (X : cj_X p s m args c meth cc nL own D kd) (V : cj_V D A H0 (wC kd ad E n cl con ow rn ed co hz mp pr cn hs wg rs ch) H locs) (hk : k < 14) (hdg : decode cc pc = .ok (.iastore, 1)) (kk : ∀ (H1 : Heap) (locs1 : List Loc), cj_V D A H0 (wC kd ad E n cl con ow rn (va_up ed k x) co hz mp pr cn hs wg rs ch) H1 locs1 → W p l e R s m args below meth c H1 locs1 cells slots Q (F0 m (pc + 1) ls rest)) : W p l e R s m args below meth c H locs cells slots Q (F0 m pc ls (.int (nI x) :: .int (nI k) :: .ref (ad 5) :: rest)) := cj_iast X V 5 0 rfl rfl hk (by decide) hdg (fun H1 locs1 h => kk H1 locs1 (by rw [cj_upN] at h; exact h))
theorem sC_co {k : Nat} {x : Nat} (X : cj_X p s m args c meth cc nL own D kd) (V : cj_V D A H0 (wC kd ad E n cl con ow rn ed co hz mp pr cn hs wg rs ch) H locs) (hk : k < 14) (hdg : decode cc pc = .ok (.iastore, 1)) (kk : ∀ (H1 : Heap) (locs1 : List Loc), cj_V D A H0 (wC kd ad E n cl con ow rn ed (va_up co k x) hz mp pr cn hs wg rs ch) H1 locs1 → W p l e R s m args below meth c H1 locs1 cells slots Q (F0 m (pc + 1) ls rest)) : W p l e R s m args below meth c H locs cells slots Q (F0 m pc ls (.int (nI x) :: .int (nI k) :: .ref (ad 6) :: rest)) := cj_iast X V 6 0 rfl rfl hk (by decide) hdg (fun H1 locs1 h => kk H1 locs1 (by rw [cj_upN] at h; exact h))
theorem sC_hi {k : Nat} {x : Int64} (X : cj_X p s m args c meth cc nL own D kd) (V : cj_V D A H0 (wC kd ad E n cl con ow rn ed co hz mp pr cn hs wg rs ch) H locs) (hk : k < 14) (hdg : decode cc pc = .ok (.lastore, 1)) (kk : ∀ (H1 : Heap) (locs1 : List Loc), cj_V D A H0 (wC kd ad E n cl con ow rn ed co (va_up hz k x) mp pr cn hs wg rs ch) H1 locs1 → W p l e R s m args below meth c H1 locs1 cells slots Q (F0 m (pc + 1) ls rest)) : W p l e R s m args below meth c H locs cells slots Q (F0 m pc ls (.long x :: .int (nI k) :: .ref (ad 7) :: rest)) := cj_last X V 7 2 rfl rfl hk (by decide) hdg (fun H1 locs1 h => kk H1 locs1 h)
theorem sC_pr {k : Nat} {x : Int32} (X : cj_X p s m args c meth cc nL own D kd) (V : cj_V D A H0 (wC kd ad E n cl con ow rn ed co hz mp pr cn hs wg rs ch) H locs) (hk : k < 40) (hdg : decode cc pc = .ok (.iastore, 1)) (kk : ∀ (H1 : Heap) (locs1 : List Loc), cj_V D A H0 (wC kd ad E n cl con ow rn ed co hz mp (va_up pr k x) cn hs wg rs ch) H1 locs1 → W p l e R s m args below meth c H1 locs1 cells slots Q (F0 m (pc + 1) ls rest)) : W p l e R s m args below meth c H locs cells slots Q (F0 m pc ls (.int x :: .int (nI k) :: .ref (ad 9) :: rest)) := cj_iast X V 9 0 rfl rfl hk (by decide) hdg (fun H1 locs1 h => kk H1 locs1 h)
theorem sC_hs {k : Nat} {x : Int64} (X : cj_X p s m args c meth cc nL own D kd) (V : cj_V D A H0 (wC kd ad E n cl con ow rn ed co hz mp pr cn hs wg rs ch) H locs) (hk : k < 14) (hdg : decode cc pc = .ok (.lastore, 1)) (kk : ∀ (H1 : Heap) (locs1 : List Loc), cj_V D A H0 (wC kd ad E n cl con ow rn ed co hz mp pr cn (va_up hs k x) wg rs ch) H1 locs1 → W p l e R s m args below meth c H1 locs1 cells slots Q (F0 m (pc + 1) ls rest)) : W p l e R s m args below meth c H locs cells slots Q (F0 m pc ls (.long x :: .int (nI k) :: .ref (ad 11) :: rest)) := cj_last X V 11 2 rfl rfl hk (by decide) hdg (fun H1 locs1 h => kk H1 locs1 h)
theorem sC_wg {k : Nat} {x : Int64} (X : cj_X p s m args c meth cc nL own D kd) (V : cj_V D A H0 (wC kd ad E n cl con ow rn ed co hz mp pr cn hs wg rs ch) H locs) (hk : k < 14) (hdg : decode cc pc = .ok (.lastore, 1)) (kk : ∀ (H1 : Heap) (locs1 : List Loc), cj_V D A H0 (wC kd ad E n cl con ow rn ed co hz mp pr cn hs (va_up wg k x) rs ch) H1 locs1 → W p l e R s m args below meth c H1 locs1 cells slots Q (F0 m (pc + 1) ls rest)) : W p l e R s m args below meth c H locs cells slots Q (F0 m pc ls (.long x :: .int (nI k) :: .ref (ad 12) :: rest)) := cj_last X V 12 2 rfl rfl hk (by decide) hdg (fun H1 locs1 h => kk H1 locs1 h)
theorem sC_rs {k : Nat} {x : Int64} (X : cj_X p s m args c meth cc nL own D kd) (V : cj_V D A H0 (wC kd ad E n cl con ow rn ed co hz mp pr cn hs wg rs ch) H locs) (hk : k < 15) (hdg : decode cc pc = .ok (.lastore, 1)) (kk : ∀ (H1 : Heap) (locs1 : List Loc), cj_V D A H0 (wC kd ad E n cl con ow rn ed co hz mp pr cn hs wg (va_up rs k x) ch) H1 locs1 → W p l e R s m args below meth c H1 locs1 cells slots Q (F0 m (pc + 1) ls rest)) : W p l e R s m args below meth c H locs cells slots Q (F0 m pc ls (.long x :: .int (nI k) :: .ref (ad 13) :: rest)) := cj_last X V 13 2 rfl rfl hk (by decide) hdg (fun H1 locs1 h => kk H1 locs1 h)
theorem sC_conR {i k : Nat} {x : Int32} (X : cj_X p s m args c meth cc nL own D kd) (V : cj_V D A H0 (wC kd ad E n cl con ow rn ed co hz mp pr cn hs wg rs ch) H locs) (hi : i < 8) (hk : k < 40) (hdg : decode cc pc = .ok (.iastore, 1)) (kk : ∀ (H1 : Heap) (locs1 : List Loc), cj_V D A H0 (wC kd ad E n cl (va_up con i (va_up (con i) k x)) ow rn ed co hz mp pr cn hs wg rs ch) H1 locs1 → W p l e R s m args below meth c H1 locs1 cells slots Q (F0 m (pc + 1) ls rest)) : W p l e R s m args below meth c H locs cells slots Q (F0 m pc ls (.int x :: .int (nI k) :: .ref (ad (14 + i)) :: rest)) := cj_iast X V (14 + i) 0 (wC_con hi) rfl hk (by decide) hdg (fun H1 locs1 h => kk H1 locs1 (by rw [cj_upI, wC_con_set hi] at h; exact h))
theorem sC_owR {i k : Nat} {x : Int64} (X : cj_X p s m args c meth cc nL own D kd) (V : cj_V D A H0 (wC kd ad E n cl con ow rn ed co hz mp pr cn hs wg rs ch) H locs) (hi : i < 8) (hk : k < 4) (hdg : decode cc pc = .ok (.lastore, 1)) (kk : ∀ (H1 : Heap) (locs1 : List Loc), cj_V D A H0 (wC kd ad E n cl con (va_up ow i (va_up (ow i) k x)) rn ed co hz mp pr cn hs wg rs ch) H1 locs1 → W p l e R s m args below meth c H1 locs1 cells slots Q (F0 m (pc + 1) ls rest)) : W p l e R s m args below meth c H locs cells slots Q (F0 m pc ls (.long x :: .int (nI k) :: .ref (ad (22 + i)) :: rest)) := cj_last X V (14 + (8 + i)) 2 (wC_ow hi) rfl hk (by decide) hdg (fun H1 locs1 h => kk H1 locs1 (by rw [cj_upL, wC_ow_set hi] at h; exact h))
theorem sC_mpR {i k : Nat} {x : Nat} (X : cj_X p s m args c meth cc nL own D kd) (V : cj_V D A H0 (wC kd ad E n cl con ow rn ed co hz mp pr cn hs wg rs ch) H locs) (hi : i < 41) (hk : k < 41) (hdg : decode cc pc = .ok (.iastore, 1)) (kk : ∀ (H1 : Heap) (locs1 : List Loc), cj_V D A H0 (wC kd ad E n cl con ow rn ed co hz (va_up mp i (va_up (mp i) k x)) pr cn hs wg rs ch) H1 locs1 → W p l e R s m args below meth c H1 locs1 cells slots Q (F0 m (pc + 1) ls rest)) : W p l e R s m args below meth c H locs cells slots Q (F0 m pc ls (.int (nI x) :: .int (nI k) :: .ref (ad (30 + i)) :: rest)) := cj_iast X V (14 + (8 + (8 + i))) 0 (wC_mp hi) rfl hk (by decide) hdg (fun H1 locs1 h => kk H1 locs1 (by rw [cj_upN, wC_mp_set hi] at h; exact h))
end CJ3
section CJ4
variable {p : Program} {l : Launch} {e : Env} {R : Room} {s : State} {m : MethodId} {args : Array Value} {below : List Frame} {meth : Method} {c : Code} {H : Heap} {locs : List Loc} {cells slots : Nat} {Q : State → Prop}
variable {cc : ByteArray} {pc nL : Nat} {own : String} {ls : Array Slot} {rest : List Value} {D : va_G} {kd : Nat → ClassId} {A : Nat → Prop} {H0 : Heap} {index : Nat}
variable {ad : Nat → Nat} {E : Nat} {rn : Nat} {ch : Int32} {n : Nat → Nat} {con : Nat → Int32} {ow : Nat → Nat} {ge : Nat → Bool} {cl : Nat → Bool} {ed : Nat → Nat} {co : Nat → Nat} {hz : Nat → Int64} {lo : Nat → Nat} {pr : Nat → Int32}
theorem gM (k : Nat) {v : Value} (X : cj_X p s m args c meth cc nL own D kd) (V : cj_V D A H0 (wM kd ad E rn ch n con ow ge cl ed co hz lo pr) H locs) (hlink : Cond.fieldLink own index (TM k).1 (TM k).2.1 (TM k).2.2.1 ∈ cw_T) (hk : k < 13) (hv : ([.int (nI E), .int (nI rn), .int ch, .ref (ad 1), .ref (ad 2), .ref (ad 3), .ref (ad 4), .ref (ad 5), .ref (ad 6), .ref (ad 7), .ref (ad 8), .ref (ad 9), .ref (ad 10)] : List Value)[k]? = some v) (hdg : decode cc pc = .ok (.getfield index, 3)) (kk : W p l e R s m args below meth c H locs cells slots Q (F0 m (pc + 3) ls (v :: rest))) : W p l e R s m args below meth c H locs cells slots Q (F0 m pc ls (.ref (ad 0) :: rest)) := cj_getf X V 0 2 rfl rfl wsM k hk hlink rfl hv hdg kk
theorem pM_E (X : cj_X p s m args c meth cc nL own D kd) (V : cj_V D A H0 (wM kd ad E rn ch n con ow ge cl ed co hz lo pr) H locs) {x : Nat} (hlink : Cond.fieldLink own index (TM 0).1 (TM 0).2.1 (TM 0).2.2.1 ∈ cw_T) (hdg : decode cc pc = .ok (.putfield index, 3)) (kk : ∀ (H1 : Heap) (locs1 : List Loc), cj_V D A H0 (wM kd ad x rn ch n con ow ge cl ed co hz lo pr) H1 locs1 → W p l e R s m args below meth c H1 locs1 cells slots Q (F0 m (pc + 3) ls rest)) : W p l e R s m args below meth c H locs cells slots Q (F0 m pc ls (.int (nI x) :: .ref (ad 0) :: rest)) := cj_putf X V 0 2 rfl rfl wsM tyM tyM_ok nmM 0 (by decide) hlink rfl rfl rfl (Nat.le_of_ble_eq_true rfl) hdg kk
theorem pM_rn (X : cj_X p s m args c meth cc nL own D kd) (V : cj_V D A H0 (wM kd ad E rn ch n con ow ge cl ed co hz lo pr) H locs) {x : Nat} (hlink : Cond.fieldLink own index (TM 1).1 (TM 1).2.1 (TM 1).2.2.1 ∈ cw_T) (hdg : decode cc pc = .ok (.putfield index, 3)) (kk : ∀ (H1 : Heap) (locs1 : List Loc), cj_V D A H0 (wM kd ad E x ch n con ow ge cl ed co hz lo pr) H1 locs1 → W p l e R s m args below meth c H1 locs1 cells slots Q (F0 m (pc + 3) ls rest)) : W p l e R s m args below meth c H locs cells slots Q (F0 m pc ls (.int (nI x) :: .ref (ad 0) :: rest)) := cj_putf X V 0 2 rfl rfl wsM tyM tyM_ok nmM 1 (by decide) hlink rfl rfl rfl (Nat.le_of_ble_eq_true rfl) hdg kk
theorem pM_ch (X : cj_X p s m args c meth cc nL own D kd) (V : cj_V D A H0 (wM kd ad E rn ch n con ow ge cl ed co hz lo pr) H locs) {x : Int32} (hlink : Cond.fieldLink own index (TM 2).1 (TM 2).2.1 (TM 2).2.2.1 ∈ cw_T) (hdg : decode cc pc = .ok (.putfield index, 3)) (kk : ∀ (H1 : Heap) (locs1 : List Loc), cj_V D A H0 (wM kd ad E rn x n con ow ge cl ed co hz lo pr) H1 locs1 → W p l e R s m args below meth c H1 locs1 cells slots Q (F0 m (pc + 3) ls rest)) : W p l e R s m args below meth c H locs cells slots Q (F0 m pc ls (.int x :: .ref (ad 0) :: rest)) := cj_putf X V 0 2 rfl rfl wsM tyM tyM_ok nmM 2 (by decide) hlink rfl rfl rfl (Nat.le_of_ble_eq_true rfl) hdg kk
theorem rM_n {k : Nat} (X : cj_X p s m args c meth cc nL own D kd) (V : cj_V D A H0 (wM kd ad E rn ch n con ow ge cl ed co hz lo pr) H locs) (hk : k < 8) (hdg : decode cc pc = .ok (.iaload, 1)) (kk : W p l e R s m args below meth c H locs cells slots Q (F0 m (pc + 1) ls (.int (nI (n k)) :: rest))) : W p l e R s m args below meth c H locs cells slots Q (F0 m pc ls (.int (nI k) :: .ref (ad 1) :: rest)) := cj_iald X V 1 0 rfl rfl hk (by decide) hdg kk
theorem rM_con {k : Nat} (X : cj_X p s m args c meth cc nL own D kd) (V : cj_V D A H0 (wM kd ad E rn ch n con ow ge cl ed co hz lo pr) H locs) (hk : k < 320) (hdg : decode cc pc = .ok (.iaload, 1)) (kk : W p l e R s m args below meth c H locs cells slots Q (F0 m (pc + 1) ls (.int (con k) :: rest))) : W p l e R s m args below meth c H locs cells slots Q (F0 m pc ls (.int (nI k) :: .ref (ad 2) :: rest)) := cj_iald X V 2 0 rfl rfl hk (by decide) hdg kk
theorem rM_ow {k : Nat} (X : cj_X p s m args c meth cc nL own D kd) (V : cj_V D A H0 (wM kd ad E rn ch n con ow ge cl ed co hz lo pr) H locs) (hk : k < 320) (hdg : decode cc pc = .ok (.iaload, 1)) (kk : W p l e R s m args below meth c H locs cells slots Q (F0 m (pc + 1) ls (.int (nI (ow k)) :: rest))) : W p l e R s m args below meth c H locs cells slots Q (F0 m pc ls (.int (nI k) :: .ref (ad 3) :: rest)) := cj_iald X V 3 0 rfl rfl hk (by decide) hdg kk
theorem rM_ge {k : Nat} (X : cj_X p s m args c meth cc nL own D kd) (V : cj_V D A H0 (wM kd ad E rn ch n con ow ge cl ed co hz lo pr) H locs) (hk : k < 320) (hdg : decode cc pc = .ok (.baload, 1)) (kk : W p l e R s m args below meth c H locs cells slots Q (F0 m (pc + 1) ls (.int (bI (ge k)) :: rest))) : W p l e R s m args below meth c H locs cells slots Q (F0 m pc ls (.int (nI k) :: .ref (ad 4) :: rest)) := cj_zald X V 4 1 rfl rfl hk (by decide) hdg kk
theorem rM_cl {k : Nat} (X : cj_X p s m args c meth cc nL own D kd) (V : cj_V D A H0 (wM kd ad E rn ch n con ow ge cl ed co hz lo pr) H locs) (hk : k < 8) (hdg : decode cc pc = .ok (.baload, 1)) (kk : W p l e R s m args below meth c H locs cells slots Q (F0 m (pc + 1) ls (.int (bI (cl k)) :: rest))) : W p l e R s m args below meth c H locs cells slots Q (F0 m pc ls (.int (nI k) :: .ref (ad 5) :: rest)) := cj_zald X V 5 1 rfl rfl hk (by decide) hdg kk
theorem rM_ed {k : Nat} (X : cj_X p s m args c meth cc nL own D kd) (V : cj_V D A H0 (wM kd ad E rn ch n con ow ge cl ed co hz lo pr) H locs) (hk : k < 14) (hdg : decode cc pc = .ok (.iaload, 1)) (kk : W p l e R s m args below meth c H locs cells slots Q (F0 m (pc + 1) ls (.int (nI (ed k)) :: rest))) : W p l e R s m args below meth c H locs cells slots Q (F0 m pc ls (.int (nI k) :: .ref (ad 6) :: rest)) := cj_iald X V 6 0 rfl rfl hk (by decide) hdg kk
theorem rM_co {k : Nat} (X : cj_X p s m args c meth cc nL own D kd) (V : cj_V D A H0 (wM kd ad E rn ch n con ow ge cl ed co hz lo pr) H locs) (hk : k < 14) (hdg : decode cc pc = .ok (.iaload, 1)) (kk : W p l e R s m args below meth c H locs cells slots Q (F0 m (pc + 1) ls (.int (nI (co k)) :: rest))) : W p l e R s m args below meth c H locs cells slots Q (F0 m pc ls (.int (nI k) :: .ref (ad 7) :: rest)) := cj_iald X V 7 0 rfl rfl hk (by decide) hdg kk
theorem rM_hi {k : Nat} (X : cj_X p s m args c meth cc nL own D kd) (V : cj_V D A H0 (wM kd ad E rn ch n con ow ge cl ed co hz lo pr) H locs) (hk : k < 14) (hdg : decode cc pc = .ok (.laload, 1)) (kk : W p l e R s m args below meth c H locs cells slots Q (F0 m (pc + 1) ls (.long (hz k) :: rest))) : W p l e R s m args below meth c H locs cells slots Q (F0 m pc ls (.int (nI k) :: .ref (ad 8) :: rest)) := cj_lald X V 8 2 rfl rfl hk (by decide) hdg kk
theorem rM_lo {k : Nat} (X : cj_X p s m args c meth cc nL own D kd) (V : cj_V D A H0 (wM kd ad E rn ch n con ow ge cl ed co hz lo pr) H locs) (hk : k < 1681) (hdg : decode cc pc = .ok (.iaload, 1)) (kk : W p l e R s m args below meth c H locs cells slots Q (F0 m (pc + 1) ls (.int (nI (lo k)) :: rest))) : W p l e R s m args below meth c H locs cells slots Q (F0 m pc ls (.int (nI k) :: .ref (ad 9) :: rest)) := cj_iald X V 9 0 rfl rfl hk (by decide) hdg kk
theorem rM_pr {k : Nat} (X : cj_X p s m args c meth cc nL own D kd) (V : cj_V D A H0 (wM kd ad E rn ch n con ow ge cl ed co hz lo pr) H locs) (hk : k < 40) (hdg : decode cc pc = .ok (.iaload, 1)) (kk : W p l e R s m args below meth c H locs cells slots Q (F0 m (pc + 1) ls (.int (pr k) :: rest))) : W p l e R s m args below meth c H locs cells slots Q (F0 m pc ls (.int (nI k) :: .ref (ad 10) :: rest)) := cj_iald X V 10 0 rfl rfl hk (by decide) hdg kk
theorem sM_n {k : Nat} {x : Nat} (X : cj_X p s m args c meth cc nL own D kd) (V : cj_V D A H0 (wM kd ad E rn ch n con ow ge cl ed co hz lo pr) H locs) (hk : k < 8) (hdg : decode cc pc = .ok (.iastore, 1)) (kk : ∀ (H1 : Heap) (locs1 : List Loc), cj_V D A H0 (wM kd ad E rn ch (va_up n k x) con ow ge cl ed co hz lo pr) H1 locs1 → W p l e R s m args below meth c H1 locs1 cells slots Q (F0 m (pc + 1) ls rest)) : W p l e R s m args below meth c H locs cells slots Q (F0 m pc ls (.int (nI x) :: .int (nI k) :: .ref (ad 1) :: rest)) := cj_iast X V 1 0 rfl rfl hk (by decide) hdg (fun H1 locs1 h => kk H1 locs1 (by rw [cj_upN] at h; exact h))
theorem sM_con {k : Nat} {x : Int32} (X : cj_X p s m args c meth cc nL own D kd) (V : cj_V D A H0 (wM kd ad E rn ch n con ow ge cl ed co hz lo pr) H locs) (hk : k < 320) (hdg : decode cc pc = .ok (.iastore, 1)) (kk : ∀ (H1 : Heap) (locs1 : List Loc), cj_V D A H0 (wM kd ad E rn ch n (va_up con k x) ow ge cl ed co hz lo pr) H1 locs1 → W p l e R s m args below meth c H1 locs1 cells slots Q (F0 m (pc + 1) ls rest)) : W p l e R s m args below meth c H locs cells slots Q (F0 m pc ls (.int x :: .int (nI k) :: .ref (ad 2) :: rest)) := cj_iast X V 2 0 rfl rfl hk (by decide) hdg (fun H1 locs1 h => kk H1 locs1 h)
theorem sM_ow {k : Nat} {x : Nat} (X : cj_X p s m args c meth cc nL own D kd) (V : cj_V D A H0 (wM kd ad E rn ch n con ow ge cl ed co hz lo pr) H locs) (hk : k < 320) (hdg : decode cc pc = .ok (.iastore, 1)) (kk : ∀ (H1 : Heap) (locs1 : List Loc), cj_V D A H0 (wM kd ad E rn ch n con (va_up ow k x) ge cl ed co hz lo pr) H1 locs1 → W p l e R s m args below meth c H1 locs1 cells slots Q (F0 m (pc + 1) ls rest)) : W p l e R s m args below meth c H locs cells slots Q (F0 m pc ls (.int (nI x) :: .int (nI k) :: .ref (ad 3) :: rest)) := cj_iast X V 3 0 rfl rfl hk (by decide) hdg (fun H1 locs1 h => kk H1 locs1 (by rw [cj_upN] at h; exact h))
theorem sM_ge {k : Nat} {x : Bool} (X : cj_X p s m args c meth cc nL own D kd) (V : cj_V D A H0 (wM kd ad E rn ch n con ow ge cl ed co hz lo pr) H locs) (hk : k < 320) (hdg : decode cc pc = .ok (.bastore, 1)) (kk : ∀ (H1 : Heap) (locs1 : List Loc), cj_V D A H0 (wM kd ad E rn ch n con ow (va_up ge k x) cl ed co hz lo pr) H1 locs1 → W p l e R s m args below meth c H1 locs1 cells slots Q (F0 m (pc + 1) ls rest)) : W p l e R s m args below meth c H locs cells slots Q (F0 m pc ls (.int (bI x) :: .int (nI k) :: .ref (ad 4) :: rest)) := cj_zast X V 4 1 rfl rfl hk (by decide) hdg (fun H1 locs1 h => kk H1 locs1 (by rw [cj_narB, cj_upB] at h; exact h))
theorem sM_cl {k : Nat} {x : Bool} (X : cj_X p s m args c meth cc nL own D kd) (V : cj_V D A H0 (wM kd ad E rn ch n con ow ge cl ed co hz lo pr) H locs) (hk : k < 8) (hdg : decode cc pc = .ok (.bastore, 1)) (kk : ∀ (H1 : Heap) (locs1 : List Loc), cj_V D A H0 (wM kd ad E rn ch n con ow ge (va_up cl k x) ed co hz lo pr) H1 locs1 → W p l e R s m args below meth c H1 locs1 cells slots Q (F0 m (pc + 1) ls rest)) : W p l e R s m args below meth c H locs cells slots Q (F0 m pc ls (.int (bI x) :: .int (nI k) :: .ref (ad 5) :: rest)) := cj_zast X V 5 1 rfl rfl hk (by decide) hdg (fun H1 locs1 h => kk H1 locs1 (by rw [cj_narB, cj_upB] at h; exact h))
theorem sM_ed {k : Nat} {x : Nat} (X : cj_X p s m args c meth cc nL own D kd) (V : cj_V D A H0 (wM kd ad E rn ch n con ow ge cl ed co hz lo pr) H locs) (hk : k < 14) (hdg : decode cc pc = .ok (.iastore, 1)) (kk : ∀ (H1 : Heap) (locs1 : List Loc), cj_V D A H0 (wM kd ad E rn ch n con ow ge cl (va_up ed k x) co hz lo pr) H1 locs1 → W p l e R s m args below meth c H1 locs1 cells slots Q (F0 m (pc + 1) ls rest)) : W p l e R s m args below meth c H locs cells slots Q (F0 m pc ls (.int (nI x) :: .int (nI k) :: .ref (ad 6) :: rest)) := cj_iast X V 6 0 rfl rfl hk (by decide) hdg (fun H1 locs1 h => kk H1 locs1 (by rw [cj_upN] at h; exact h))
theorem sM_co {k : Nat} {x : Nat} (X : cj_X p s m args c meth cc nL own D kd) (V : cj_V D A H0 (wM kd ad E rn ch n con ow ge cl ed co hz lo pr) H locs) (hk : k < 14) (hdg : decode cc pc = .ok (.iastore, 1)) (kk : ∀ (H1 : Heap) (locs1 : List Loc), cj_V D A H0 (wM kd ad E rn ch n con ow ge cl ed (va_up co k x) hz lo pr) H1 locs1 → W p l e R s m args below meth c H1 locs1 cells slots Q (F0 m (pc + 1) ls rest)) : W p l e R s m args below meth c H locs cells slots Q (F0 m pc ls (.int (nI x) :: .int (nI k) :: .ref (ad 7) :: rest)) := cj_iast X V 7 0 rfl rfl hk (by decide) hdg (fun H1 locs1 h => kk H1 locs1 (by rw [cj_upN] at h; exact h))
theorem sM_hi {k : Nat} {x : Int64} (X : cj_X p s m args c meth cc nL own D kd) (V : cj_V D A H0 (wM kd ad E rn ch n con ow ge cl ed co hz lo pr) H locs) (hk : k < 14) (hdg : decode cc pc = .ok (.lastore, 1)) (kk : ∀ (H1 : Heap) (locs1 : List Loc), cj_V D A H0 (wM kd ad E rn ch n con ow ge cl ed co (va_up hz k x) lo pr) H1 locs1 → W p l e R s m args below meth c H1 locs1 cells slots Q (F0 m (pc + 1) ls rest)) : W p l e R s m args below meth c H locs cells slots Q (F0 m pc ls (.long x :: .int (nI k) :: .ref (ad 8) :: rest)) := cj_last X V 8 2 rfl rfl hk (by decide) hdg (fun H1 locs1 h => kk H1 locs1 h)
theorem sM_lo {k : Nat} {x : Nat} (X : cj_X p s m args c meth cc nL own D kd) (V : cj_V D A H0 (wM kd ad E rn ch n con ow ge cl ed co hz lo pr) H locs) (hk : k < 1681) (hdg : decode cc pc = .ok (.iastore, 1)) (kk : ∀ (H1 : Heap) (locs1 : List Loc), cj_V D A H0 (wM kd ad E rn ch n con ow ge cl ed co hz (va_up lo k x) pr) H1 locs1 → W p l e R s m args below meth c H1 locs1 cells slots Q (F0 m (pc + 1) ls rest)) : W p l e R s m args below meth c H locs cells slots Q (F0 m pc ls (.int (nI x) :: .int (nI k) :: .ref (ad 9) :: rest)) := cj_iast X V 9 0 rfl rfl hk (by decide) hdg (fun H1 locs1 h => kk H1 locs1 (by rw [cj_upN] at h; exact h))
theorem sM_pr {k : Nat} {x : Int32} (X : cj_X p s m args c meth cc nL own D kd) (V : cj_V D A H0 (wM kd ad E rn ch n con ow ge cl ed co hz lo pr) H locs) (hk : k < 40) (hdg : decode cc pc = .ok (.iastore, 1)) (kk : ∀ (H1 : Heap) (locs1 : List Loc), cj_V D A H0 (wM kd ad E rn ch n con ow ge cl ed co hz lo (va_up pr k x)) H1 locs1 → W p l e R s m args below meth c H1 locs1 cells slots Q (F0 m (pc + 1) ls rest)) : W p l e R s m args below meth c H locs cells slots Q (F0 m pc ls (.int x :: .int (nI k) :: .ref (ad 10) :: rest)) := cj_iast X V 10 0 rfl rfl hk (by decide) hdg (fun H1 locs1 h => kk H1 locs1 h)
end CJ4
end
section
-- the family wb_ of kit/laws/BITS.to-paste (a starting text)
theorem wb_tb (n : Nat) : (lN n).toBitVec = BitVec.ofNat 64 n := rfl
theorem wb_inj {a b : Int64} (h : a.toBitVec = b.toBitVec) : a = b := Int64.toBitVec_inj.mp h
theorem wb_tn {n : Nat} (h : n < 2 ^ 64) : (lN n).toBitVec.toNat = n := by rw [wb_tb, BitVec.toNat_ofNat, Nat.mod_eq_of_lt h]
theorem wb_of (x : Int64) : ∃ n, n < 2 ^ 64 ∧ x = lN n := ⟨x.toBitVec.toNat, x.toBitVec.isLt, wb_inj (by rw [wb_tb]; simp)⟩
theorem wb_of32 (x : Int32) : ∃ n, n < 2 ^ 32 ∧ x = nI n := ⟨x.toBitVec.toNat, x.toBitVec.isLt, Int32.toBitVec_inj.mp (by show _ = BitVec.ofNat 32 _; simp)⟩
theorem wb_c : ∀ k, k < 64 → ((nI k).toInt64 &&& 63) = lN k := by decide +kernel
theorem wb_cu : ∀ k, k < 64 → ((nI k).toInt64.toUInt64 &&& Int64.toUInt64 63) = UInt64.ofNat k := by decide +kernel
theorem wb_sm : ∀ k, k < 64 → (BitVec.ofNat 64 k).smod 64 = BitVec.ofNat 64 k := by decide +kernel
theorem wb_pw {a b : Nat} (h : a ≤ b) : 2 ^ b = 2 ^ a * 2 ^ (b - a) := by rw [← Nat.pow_add]; congr 1; omega
theorem wb_lt2 {a b : Nat} (h : a < b) : 2 ^ a < 2 ^ b := Nat.pow_lt_pow_right (by decide) h
theorem wb_mod (n : Nat) : lN n = lN (n % 2 ^ 64) := wb_inj (by rw [wb_tb, wb_tb]; apply BitVec.eq_of_toNat_eq; rw [BitVec.toNat_ofNat, BitVec.toNat_ofNat, Nat.mod_mod])
theorem wb_shr {n k : Nat} (hn : n < 2 ^ 64) (hk : k < 64) : ((lN n).toUInt64 >>> ((nI k).toInt64.toUInt64 &&& Int64.toUInt64 63)).toInt64 = lN (n / 2 ^ k) := by
  rw [wb_cu k hk]
  apply wb_inj
  apply BitVec.eq_of_toNat_eq
  show ((lN n).toUInt64 >>> UInt64.ofNat k).toNat = (BitVec.ofNat 64 _).toNat
  have h1 : (UInt64.ofNat k).toNat = k := by
    show (BitVec.ofNat 64 k).toNat = k
    rw [BitVec.toNat_ofNat, Nat.mod_eq_of_lt (by omega)]
  have h2 : (lN n).toUInt64.toNat = n := wb_tn hn
  rw [UInt64.toNat_shiftRight, h1, h2, Nat.mod_eq_of_lt hk, Nat.shiftRight_eq_div_pow, BitVec.toNat_ofNat, Nat.mod_eq_of_lt (Nat.lt_of_le_of_lt (Nat.div_le_self _ _) hn)]
theorem wb_shl (n : Nat) {k : Nat} (hk : k < 64) : lN n <<< ((nI k).toInt64 &&& 63) = lN (n * 2 ^ k) := by
  rw [wb_c k hk]
  apply wb_inj
  rw [Int64.toBitVec_shiftLeft, wb_tb, wb_tb, wb_tb, wb_sm k hk]
  apply BitVec.eq_of_toNat_eq
  rw [BitVec.shiftLeft_eq', BitVec.toNat_shiftLeft, BitVec.toNat_ofNat, BitVec.toNat_ofNat, BitVec.toNat_ofNat, Nat.mod_eq_of_lt (show k < 2 ^ 64 by omega), Nat.shiftLeft_eq, Nat.mul_mod, Nat.mod_mod, ← Nat.mul_mod]
theorem wb_and {a b : Nat} (ha : a < 2 ^ 64) (hb : b < 2 ^ 64) : lN a &&& lN b = lN (a &&& b) := by
  apply wb_inj
  rw [Int64.toBitVec_and, wb_tb, wb_tb, wb_tb]
  apply BitVec.eq_of_toNat_eq
  rw [BitVec.toNat_and, BitVec.toNat_ofNat, BitVec.toNat_ofNat, BitVec.toNat_ofNat, Nat.mod_eq_of_lt ha, Nat.mod_eq_of_lt hb, Nat.mod_eq_of_lt (Nat.and_lt_two_pow _ hb)]
theorem wb_or {a b : Nat} (ha : a < 2 ^ 64) (hb : b < 2 ^ 64) : lN a ||| lN b = lN (a ||| b) := by
  apply wb_inj
  rw [Int64.toBitVec_or, wb_tb, wb_tb, wb_tb]
  apply BitVec.eq_of_toNat_eq
  rw [BitVec.toNat_or, BitVec.toNat_ofNat, BitVec.toNat_ofNat, BitVec.toNat_ofNat, Nat.mod_eq_of_lt ha, Nat.mod_eq_of_lt hb, Nat.mod_eq_of_lt (Nat.or_lt_two_pow ha hb)]
theorem wb_mask {n k : Nat} (hn : n < 2 ^ 64) (hk : k < 64) : lN n &&& lN (2 ^ k - 1) = lN (n % 2 ^ k) := by
  rw [wb_and hn (by have := wb_lt2 hk; omega), Nat.and_two_pow_sub_one_eq_mod]
theorem wb_a1 {n : Nat} (hn : n < 2 ^ 64) : lN n &&& 1 = lN (n % 2) := wb_mask (k := 1) hn (by decide)
theorem wb_bit {n k : Nat} (hn : n < 2 ^ 64) (hk : k < 64) : ((lN n).toUInt64 >>> ((nI k).toInt64.toUInt64 &&& Int64.toUInt64 63)).toInt64 &&& 1 = lN (n / 2 ^ k % 2) := by
  rw [wb_shr hn hk, wb_a1 (Nat.lt_of_le_of_lt (Nat.div_le_self _ _) hn)]
-- ROWS: a contract's entry and end, numbers, branches
/-- one bit of a long -/
def cj_bit (k : Nat) : Int64 := lN (2 ^ k)
theorem cj_shl1 {k : Nat} (h : k < 64) : lN 1 <<< ((nI k).toInt64 &&& 63) = cj_bit k := by rw [wb_shl 1 h, Nat.one_mul]; rfl
theorem cj_inc (i : Nat) : nI i + Int32.ofInt 1 = nI (i + 1) := nI_1 i
theorem cj_dec (i : Nat) : nI (i + 1) + Int32.ofInt (-1) = nI i := pk_m1 i
theorem cj_inc5 (i : Nat) : nI i + Int32.ofInt 5 = nI (i + 5) := nI_add i 5
theorem cj_narZ {r : Int32} (h : r = nI 0 ∨ r = nI 1) : narrow .boolean (.int r) = .int r := by
  rcases h with rfl | rfl <;> decide
section CJ5
variable {p : Program} {l : Launch} {e : Env} {R : Room} {s : State} {m : MethodId} {args : Array Value} {below : List Frame} {meth : Method} {c : Code} {H : Heap} {locs : List Loc} {cells slots : Nat} {Q : State → Prop}
variable {cc : ByteArray} {pc nL : Nat} {own : String} {ls : Array Slot} {rest st0 : List Value} {D : va_G} {kd : Nat → ClassId} {A : Nat → Prop} {H0 : Heap} {w0 : va_W}
variable {y : MethodName} {bytes : ByteArray} {mx k index : Nat} {rt : Option FieldType} {S : Type} {w : S → va_W} {av : List Value}
/-- a contract out of its body -/
theorem cj_ofi {post : Int32 → S → Prop} (hy : plainName y.cls = true) (hav : (lg_sl av).length ≤ mx)
    (body : ∀ (p : Program) (e : Env) (s : State) (m : MethodId) (below : List Frame) (meth : Method) (c : Code) (A : Nat → Prop) (ls : Array Slot), cj_X p s m av.toArray c meth cc mx y.cls D kd → meth.sig.returnType = rt → cj_V D A s.heap w0 s.heap [] → lv_has ls mx (lv_args 0 av) →
      W p l e (cj_rm k) s m av.toArray below meth c s.heap [] 0 0 (MQ below (va_Qi post (cj_post D kd A w) A) av.toArray s 0 0 A) (F0 m 0 ls [])) : cj_Mi l y cc mx rt k D kd av w0 post w := by
  intro sz
  refine Met.ofW (cc := cc) (maxL := mx) (ret := rt) hy rfl ?_
  intro p e s m args below meth c s₁ B hml hv
  obtain ⟨rfl, hsz, hP, hK, hD0⟩ := hv
  subst hsz
  have hts := atoms_spec (ws := .code y cc mx rt :: cw_T) B.pre
  rw [lg_entry_eq]
  exact body p e s m below meth c _ _ ⟨⟨B.exec, B.bytes, hml, findClass_of_methodNamed B.named, fun w h => hts w (List.mem_cons_of_mem _ h)⟩, hK, B.notSynchronized⟩ B.returns ⟨hP, hD0.self, va_S.rf, fun q h => Or.inr h⟩ (lv_entry av hav)
/-- a contract out of its body -/
theorem cj_ofl {post : Int64 → S → Prop} (hy : plainName y.cls = true) (hav : (lg_sl av).length ≤ mx)
    (body : ∀ (p : Program) (e : Env) (s : State) (m : MethodId) (below : List Frame) (meth : Method) (c : Code) (A : Nat → Prop) (ls : Array Slot), cj_X p s m av.toArray c meth cc mx y.cls D kd → meth.sig.returnType = rt → cj_V D A s.heap w0 s.heap [] → lv_has ls mx (lv_args 0 av) →
      W p l e (cj_rm k) s m av.toArray below meth c s.heap [] 0 0 (MQ below (va_Ql post (cj_post D kd A w) A) av.toArray s 0 0 A) (F0 m 0 ls [])) : cj_Ml l y cc mx rt k D kd av w0 post w := by
  intro sz
  refine Met.ofW (cc := cc) (maxL := mx) (ret := rt) hy rfl ?_
  intro p e s m args below meth c s₁ B hml hv
  obtain ⟨rfl, hsz, hP, hK, hD0⟩ := hv
  subst hsz
  have hts := atoms_spec (ws := .code y cc mx rt :: cw_T) B.pre
  rw [lg_entry_eq]
  exact body p e s m below meth c _ _ ⟨⟨B.exec, B.bytes, hml, findClass_of_methodNamed B.named, fun w h => hts w (List.mem_cons_of_mem _ h)⟩, hK, B.notSynchronized⟩ B.returns ⟨hP, hD0.self, va_S.rf, fun q h => Or.inr h⟩ (lv_entry av hav)
theorem cj_ofv {post : S → Prop} (hy : plainName y.cls = true) (hav : (lg_sl av).length ≤ mx)
    (body : ∀ (p : Program) (e : Env) (s : State) (m : MethodId) (below : List Frame) (meth : Method) (c : Code) (A : Nat → Prop) (ls : Array Slot), cj_X p s m av.toArray c meth cc mx y.cls D kd → meth.sig.returnType = rt → cj_V D A s.heap w0 s.heap [] → lv_has ls mx (lv_args 0 av) →
      W p l e (cj_rm k) s m av.toArray below meth c s.heap [] 0 0 (MQ below (va_Qv post (cj_post D kd A w) A) av.toArray s 0 0 A) (F0 m 0 ls [])) : cj_Mv l y cc mx rt k D kd av w0 post w := by
  intro sz
  refine Met.ofW (cc := cc) (maxL := mx) (ret := rt) hy rfl ?_
  intro p e s m args below meth c s₁ B hml hv
  obtain ⟨rfl, hsz, hP, hK, hD0⟩ := hv
  subst hsz
  have hts := atoms_spec (ws := .code y cc mx rt :: cw_T) B.pre
  rw [lg_entry_eq]
  exact body p e s m below meth c _ _ ⟨⟨B.exec, B.bytes, hml, findClass_of_methodNamed B.named, fun w h => hts w (List.mem_cons_of_mem _ h)⟩, hK, B.notSynchronized⟩ B.returns ⟨hP, hD0.self, va_S.rf, fun q h => Or.inr h⟩ (lv_entry av hav)
theorem cj_reti {post : Int32 → S → Prop} {r : Int32} (u : S) (X : cj_X p s m args c meth cc nL own D kd) (hr : meth.sig.returnType = some .int) (V : cj_V D A s.heap (w u) H locs) (hp : post r u) (hdg : decode cc pc = .ok (.ireturn, 1)) : W p l e R s m args below meth c H locs 0 0 (MQ below (va_Qi post (cj_post D kd A w) A) args s 0 0 A) (F0 m pc ls [.int r]) := by
  obtain ⟨⟨hx, hb, -, -, -⟩, hK, hlocks⟩ := X
  exact W.iret hx hb hr (fun t ht hW => ⟨⟨r, u, rfl, hp, by rw [ht]; exact V.1, va_K.moved hW.alike hK, V.2.1⟩, V.2.2.1.F ht⟩) V.2.2.1.2.2 hdg
theorem cj_retz {post : Int32 → S → Prop} {r : Int32} (u : S) (X : cj_X p s m args c meth cc nL own D kd) (hr : meth.sig.returnType = some .boolean) (V : cj_V D A s.heap (w u) H locs) (hz : r = nI 0 ∨ r = nI 1) (hp : post r u) (hdg : decode cc pc = .ok (.ireturn, 1)) : W p l e R s m args below meth c H locs 0 0 (MQ below (va_Qi post (cj_post D kd A w) A) args s 0 0 A) (F0 m pc ls [.int r]) := by
  obtain ⟨⟨hx, hb, -, -, -⟩, hK, hlocks⟩ := X
  exact W.zret hx hb hr (cj_narZ hz) (fun t ht hW => ⟨⟨r, u, rfl, hp, by rw [ht]; exact V.1, va_K.moved hW.alike hK, V.2.1⟩, V.2.2.1.F ht⟩) V.2.2.1.2.2 hdg
theorem cj_retl {post : Int64 → S → Prop} {r : Int64} (u : S) (X : cj_X p s m args c meth cc nL own D kd) (hr : meth.sig.returnType = some .long) (V : cj_V D A s.heap (w u) H locs) (hp : post r u) (hdg : decode cc pc = .ok (.lreturn, 1)) : W p l e R s m args below meth c H locs 0 0 (MQ below (va_Ql post (cj_post D kd A w) A) args s 0 0 A) (F0 m pc ls [.long r]) := by
  obtain ⟨⟨hx, hb, -, -, -⟩, hK, hlocks⟩ := X
  exact W.lret hx hb hr (fun t ht hW => ⟨⟨r, u, rfl, hp, by rw [ht]; exact V.1, va_K.moved hW.alike hK, V.2.1⟩, V.2.2.1.F ht⟩) V.2.2.1.2.2 hdg
theorem cj_retv {post : S → Prop} (u : S) (X : cj_X p s m args c meth cc nL own D kd) (hr : meth.sig.returnType = none) (V : cj_V D A s.heap (w u) H locs) (hp : post u) (hdg : decode cc pc = .ok (.return_, 1)) : W p l e R s m args below meth c H locs 0 0 (MQ below (va_Qv post (cj_post D kd A w) A) args s 0 0 A) (F0 m pc ls []) := by
  obtain ⟨⟨hx, hb, -, -, -⟩, hK, hlocks⟩ := X
  exact W.vret hx hb hr (fun t ht hW => ⟨⟨u, rfl, hp, by rw [ht]; exact V.1, va_K.moved hW.alike hK, V.2.1⟩, V.2.2.1.F ht⟩) V.2.2.1.2.2 hdg
theorem cj_Vn (V : cj_V D A H0 w0 H locs) : cj_V D A H0 (w0 ++ []) H locs := by rw [List.append_nil]; exact V
theorem cj_nV (V : cj_V D A H0 (w0 ++ []) H locs) : cj_V D A H0 w0 H locs := by rw [List.append_nil] at V; exact V
theorem cj_cvi {post : Int32 → S → Prop} {b : Nat} {As : List Value} {C : String} (X : cj_X p s m args c meth cc nL own D kd) (V : cj_V D A H0 w0 H locs)
    (hM : cj_Mi l y bytes mx rt k D kd (.ref b :: As) w0 post w) (q0 ci : Nat) {fs : List Value} {r : vw_C} (hrecv : w0[q0]? = some (b, .inr (ci, fs))) (hci : cj_cl[ci]? = some r) (hrC : r.1 = C)
    (hl : Cond.methodLink own index y ∈ cw_T) (hi : Cond.instanceMethod y ∈ cw_T) (hs : Cond.selects C y y ∈ cw_T) (hn : Cond.initialized C ∈ cw_T) (hc : Cond.code y bytes mx rt ∈ cw_T)
    (hd : y.cls = C ∧ y.cls ≠ "java/lang/invoke/MethodHandle" ∧ y.cls ≠ "java/lang/invoke/VarHandle" ∧ (parseMethodDescriptor y.desc).map (fun d => d.parameters.length) = some As.length) (hR : k + 1 ≤ R.frames ∧ 8 + (mx + 11) + 40 * k ≤ R.locals) (hRc : cells ≤ R.cells ∧ slots ≤ R.slots)
    (hsize : ls.size = nL) (hst : st0 = As.reverse ++ .ref b :: rest) (hW : (rest.map fun v => v.category).sum ≤ 8) (hdg : decode cc pc = .ok (.invokevirtual index, 3))
    (kk : ∀ (r : Int32) (u : S) (H1 : Heap) (locs1 : List Loc), post r u → cj_V D A H0 (w u) H1 locs1 → W p l e R s m args below meth c H1 locs1 cells slots Q (F0 m (pc + 3) ls (.int r :: rest))) : W p l e R s m args below meth c H locs cells slots Q (F0 m pc ls st0) :=
  cj_afteri (wr := []) (cj_Vn V) (cj_runV X (cj_Vn V) (hM H.size) q0 ci hrecv hci hrC hl hi hs hn hc hd hR hRc hsize hst hW hdg) (fun r u H1 locs1 hp V1 => kk r u H1 locs1 hp (cj_nV V1))
theorem cj_csi {post : Int32 → S → Prop} {As : List Value} (X : cj_X p s m args c meth cc nL own D kd) (V : cj_V D A H0 w0 H locs)
    (hM : cj_Mi l y bytes mx rt k D kd As w0 post w)
    (hl : Cond.methodLink own index y ∈ cw_T) (hs : Cond.static y ∈ cw_T) (hn : Cond.initialized y.cls ∈ cw_T) (hc : Cond.code y bytes mx rt ∈ cw_T)
    (hd : y.cls ≠ "java/lang/invoke/MethodHandle" ∧ y.cls ≠ "java/lang/invoke/VarHandle" ∧ (parseMethodDescriptor y.desc).map (fun d => d.parameters.length) = some As.length) (hR : k + 1 ≤ R.frames ∧ 8 + (mx + 11) + 40 * k ≤ R.locals) (hRc : cells ≤ R.cells ∧ slots ≤ R.slots)
    (hsize : ls.size = nL) (hst : st0 = As.reverse ++ rest) (hW : (rest.map fun v => v.category).sum ≤ 8) (hdg : decode cc pc = .ok (.invokestatic index, 3))
    (kk : ∀ (r : Int32) (u : S) (H1 : Heap) (locs1 : List Loc), post r u → cj_V D A H0 (w u) H1 locs1 → W p l e R s m args below meth c H1 locs1 cells slots Q (F0 m (pc + 3) ls (.int r :: rest))) : W p l e R s m args below meth c H locs cells slots Q (F0 m pc ls st0) :=
  cj_afteri (wr := []) (cj_Vn V) (cj_runS X (cj_Vn V) (hM H.size) hl hs hn hc hd hR hRc hsize hst hW hdg) (fun r u H1 locs1 hp V1 => kk r u H1 locs1 hp (cj_nV V1))
theorem cj_cvl {post : Int64 → S → Prop} {b : Nat} {As : List Value} {C : String} (X : cj_X p s m args c meth cc nL own D kd) (V : cj_V D A H0 w0 H locs)
    (hM : cj_Ml l y bytes mx rt k D kd (.ref b :: As) w0 post w) (q0 ci : Nat) {fs : List Value} {r : vw_C} (hrecv : w0[q0]? = some (b, .inr (ci, fs))) (hci : cj_cl[ci]? = some r) (hrC : r.1 = C)
    (hl : Cond.methodLink own index y ∈ cw_T) (hi : Cond.instanceMethod y ∈ cw_T) (hs : Cond.selects C y y ∈ cw_T) (hn : Cond.initialized C ∈ cw_T) (hc : Cond.code y bytes mx rt ∈ cw_T)
    (hd : y.cls = C ∧ y.cls ≠ "java/lang/invoke/MethodHandle" ∧ y.cls ≠ "java/lang/invoke/VarHandle" ∧ (parseMethodDescriptor y.desc).map (fun d => d.parameters.length) = some As.length) (hR : k + 1 ≤ R.frames ∧ 8 + (mx + 11) + 40 * k ≤ R.locals) (hRc : cells ≤ R.cells ∧ slots ≤ R.slots)
    (hsize : ls.size = nL) (hst : st0 = As.reverse ++ .ref b :: rest) (hW : (rest.map fun v => v.category).sum ≤ 8) (hdg : decode cc pc = .ok (.invokevirtual index, 3))
    (kk : ∀ (r : Int64) (u : S) (H1 : Heap) (locs1 : List Loc), post r u → cj_V D A H0 (w u) H1 locs1 → W p l e R s m args below meth c H1 locs1 cells slots Q (F0 m (pc + 3) ls (.long r :: rest))) : W p l e R s m args below meth c H locs cells slots Q (F0 m pc ls st0) :=
  cj_afterl (wr := []) (cj_Vn V) (cj_runV X (cj_Vn V) (hM H.size) q0 ci hrecv hci hrC hl hi hs hn hc hd hR hRc hsize hst hW hdg) (fun r u H1 locs1 hp V1 => kk r u H1 locs1 hp (cj_nV V1))
theorem cj_csl {post : Int64 → S → Prop} {As : List Value} (X : cj_X p s m args c meth cc nL own D kd) (V : cj_V D A H0 w0 H locs)
    (hM : cj_Ml l y bytes mx rt k D kd As w0 post w)
    (hl : Cond.methodLink own index y ∈ cw_T) (hs : Cond.static y ∈ cw_T) (hn : Cond.initialized y.cls ∈ cw_T) (hc : Cond.code y bytes mx rt ∈ cw_T)
    (hd : y.cls ≠ "java/lang/invoke/MethodHandle" ∧ y.cls ≠ "java/lang/invoke/VarHandle" ∧ (parseMethodDescriptor y.desc).map (fun d => d.parameters.length) = some As.length) (hR : k + 1 ≤ R.frames ∧ 8 + (mx + 11) + 40 * k ≤ R.locals) (hRc : cells ≤ R.cells ∧ slots ≤ R.slots)
    (hsize : ls.size = nL) (hst : st0 = As.reverse ++ rest) (hW : (rest.map fun v => v.category).sum ≤ 8) (hdg : decode cc pc = .ok (.invokestatic index, 3))
    (kk : ∀ (r : Int64) (u : S) (H1 : Heap) (locs1 : List Loc), post r u → cj_V D A H0 (w u) H1 locs1 → W p l e R s m args below meth c H1 locs1 cells slots Q (F0 m (pc + 3) ls (.long r :: rest))) : W p l e R s m args below meth c H locs cells slots Q (F0 m pc ls st0) :=
  cj_afterl (wr := []) (cj_Vn V) (cj_runS X (cj_Vn V) (hM H.size) hl hs hn hc hd hR hRc hsize hst hW hdg) (fun r u H1 locs1 hp V1 => kk r u H1 locs1 hp (cj_nV V1))
theorem cj_cvv {post : S → Prop} {b : Nat} {As : List Value} {C : String} (X : cj_X p s m args c meth cc nL own D kd) (V : cj_V D A H0 w0 H locs)
    (hM : cj_Mv l y bytes mx rt k D kd (.ref b :: As) w0 post w) (q0 ci : Nat) {fs : List Value} {r : vw_C} (hrecv : w0[q0]? = some (b, .inr (ci, fs))) (hci : cj_cl[ci]? = some r) (hrC : r.1 = C)
    (hl : Cond.methodLink own index y ∈ cw_T) (hi : Cond.instanceMethod y ∈ cw_T) (hs : Cond.selects C y y ∈ cw_T) (hn : Cond.initialized C ∈ cw_T) (hc : Cond.code y bytes mx rt ∈ cw_T)
    (hd : y.cls = C ∧ y.cls ≠ "java/lang/invoke/MethodHandle" ∧ y.cls ≠ "java/lang/invoke/VarHandle" ∧ (parseMethodDescriptor y.desc).map (fun d => d.parameters.length) = some As.length) (hR : k + 1 ≤ R.frames ∧ 8 + (mx + 11) + 40 * k ≤ R.locals) (hRc : cells ≤ R.cells ∧ slots ≤ R.slots)
    (hsize : ls.size = nL) (hst : st0 = As.reverse ++ .ref b :: rest) (hW : (rest.map fun v => v.category).sum ≤ 8) (hdg : decode cc pc = .ok (.invokevirtual index, 3))
    (kk : ∀ (u : S) (H1 : Heap) (locs1 : List Loc), post u → cj_V D A H0 (w u) H1 locs1 → W p l e R s m args below meth c H1 locs1 cells slots Q (F0 m (pc + 3) ls (rest))) : W p l e R s m args below meth c H locs cells slots Q (F0 m pc ls st0) :=
  cj_afterv (wr := []) (cj_Vn V) (cj_runV X (cj_Vn V) (hM H.size) q0 ci hrecv hci hrC hl hi hs hn hc hd hR hRc hsize hst hW hdg) (fun u H1 locs1 hp V1 => kk u H1 locs1 hp (cj_nV V1))
theorem cj_csv {post : S → Prop} {As : List Value} (X : cj_X p s m args c meth cc nL own D kd) (V : cj_V D A H0 w0 H locs)
    (hM : cj_Mv l y bytes mx rt k D kd As w0 post w)
    (hl : Cond.methodLink own index y ∈ cw_T) (hs : Cond.static y ∈ cw_T) (hn : Cond.initialized y.cls ∈ cw_T) (hc : Cond.code y bytes mx rt ∈ cw_T)
    (hd : y.cls ≠ "java/lang/invoke/MethodHandle" ∧ y.cls ≠ "java/lang/invoke/VarHandle" ∧ (parseMethodDescriptor y.desc).map (fun d => d.parameters.length) = some As.length) (hR : k + 1 ≤ R.frames ∧ 8 + (mx + 11) + 40 * k ≤ R.locals) (hRc : cells ≤ R.cells ∧ slots ≤ R.slots)
    (hsize : ls.size = nL) (hst : st0 = As.reverse ++ rest) (hW : (rest.map fun v => v.category).sum ≤ 8) (hdg : decode cc pc = .ok (.invokestatic index, 3))
    (kk : ∀ (u : S) (H1 : Heap) (locs1 : List Loc), post u → cj_V D A H0 (w u) H1 locs1 → W p l e R s m args below meth c H1 locs1 cells slots Q (F0 m (pc + 3) ls (rest))) : W p l e R s m args below meth c H locs cells slots Q (F0 m pc ls st0) :=
  cj_afterv (wr := []) (cj_Vn V) (cj_runS X (cj_Vn V) (hM H.size) hl hs hn hc hd hR hRc hsize hst hW hdg) (fun u H1 locs1 hp V1 => kk u H1 locs1 hp (cj_nV V1))
theorem cj_ti {x z : Int32} (h : x = z) (kk : W p l e R s m args below meth c H locs cells slots Q (F0 m pc ls (.int z :: rest))) : W p l e R s m args below meth c H locs cells slots Q (F0 m pc ls (.int x :: rest)) := h ▸ kk
theorem cj_tl {x z : Int64} (h : x = z) (kk : W p l e R s m args below meth c H locs cells slots Q (F0 m pc ls (.long z :: rest))) : W p l e R s m args below meth c H locs cells slots Q (F0 m pc ls (.long x :: rest)) := h ▸ kk
theorem cj_iaddN (hx : p.tables.exec = Jvm.exec) (hb : c.code = cc) {a b : Nat} (hdg : decode cc pc = .ok (.iadd, 1)) (kk : W p l e R s m args below meth c H locs cells slots Q (F0 m (pc + 1) ls (.int (nI (a + b)) :: rest))) : W p l e R s m args below meth c H locs cells slots Q (F0 m pc ls (.int (nI b) :: .int (nI a) :: rest)) := lv_iadd hx hb hdg (cj_ti (nI_add a b) kk)
theorem cj_isubN (hx : p.tables.exec = Jvm.exec) (hb : c.code = cc) {a b : Nat} (h : b ≤ a) (hdg : decode cc pc = .ok (.isub, 1)) (kk : W p l e R s m args below meth c H locs cells slots Q (F0 m (pc + 1) ls (.int (nI (a - b)) :: rest))) : W p l e R s m args below meth c H locs cells slots Q (F0 m pc ls (.int (nI b) :: .int (nI a) :: rest)) := lv_isub hx hb hdg (cj_ti (pk_sub h) kk)
theorem cj_imulN (hx : p.tables.exec = Jvm.exec) (hb : c.code = cc) {a b : Nat} (hdg : decode cc pc = .ok (.imul, 1)) (kk : W p l e R s m args below meth c H locs cells slots Q (F0 m (pc + 1) ls (.int (nI (a * b)) :: rest))) : W p l e R s m args below meth c H locs cells slots Q (F0 m pc ls (.int (nI b) :: .int (nI a) :: rest)) := lv_imul hx hb hdg (cj_ti (pk_mul a b) kk)
theorem cj_n_lt (hx : p.tables.exec = Jvm.exec) (hb : c.code = cc) {a b : Nat} {off : Int} {tgt : Nat} (hdg : decode cc pc = .ok (.if_icmp .lt off, 3)) (ht : (pc : Int) + off = (tgt : Int)) (ha : a < 2 ^ 31) (hb2 : b < 2 ^ 31) (kt : a < b → W p l e R s m args below meth c H locs cells slots Q (F0 m tgt ls rest)) (kf : b ≤ a → W p l e R s m args below meth c H locs cells slots Q (F0 m (pc + 3) ls rest)) : W p l e R s m args below meth c H locs cells slots Q (F0 m pc ls (.int (nI b) :: .int (nI a) :: rest)) := lv_icmp_lt hx hb hdg ht (fun h => kt ((nI_ltI ha hb2).mp h)) (fun h => kf (Nat.not_lt.mp (fun h2 => h ((nI_ltI ha hb2).mpr h2))))
theorem cj_n_ge (hx : p.tables.exec = Jvm.exec) (hb : c.code = cc) {a b : Nat} {off : Int} {tgt : Nat} (hdg : decode cc pc = .ok (.if_icmp .ge off, 3)) (ht : (pc : Int) + off = (tgt : Int)) (ha : a < 2 ^ 31) (hb2 : b < 2 ^ 31) (kt : b ≤ a → W p l e R s m args below meth c H locs cells slots Q (F0 m tgt ls rest)) (kf : a < b → W p l e R s m args below meth c H locs cells slots Q (F0 m (pc + 3) ls rest)) : W p l e R s m args below meth c H locs cells slots Q (F0 m pc ls (.int (nI b) :: .int (nI a) :: rest)) := lv_icmp_ge hx hb hdg ht (fun h => kt ((nI_leI hb2 ha).mp h)) (fun h => kf (Nat.not_le.mp (fun h2 => h ((nI_leI hb2 ha).mpr h2))))
theorem cj_n_gt (hx : p.tables.exec = Jvm.exec) (hb : c.code = cc) {a b : Nat} {off : Int} {tgt : Nat} (hdg : decode cc pc = .ok (.if_icmp .gt off, 3)) (ht : (pc : Int) + off = (tgt : Int)) (ha : a < 2 ^ 31) (hb2 : b < 2 ^ 31) (kt : b < a → W p l e R s m args below meth c H locs cells slots Q (F0 m tgt ls rest)) (kf : a ≤ b → W p l e R s m args below meth c H locs cells slots Q (F0 m (pc + 3) ls rest)) : W p l e R s m args below meth c H locs cells slots Q (F0 m pc ls (.int (nI b) :: .int (nI a) :: rest)) := lv_icmp_gt hx hb hdg ht (fun h => kt ((nI_ltI hb2 ha).mp h)) (fun h => kf (Nat.not_lt.mp (fun h2 => h ((nI_ltI hb2 ha).mpr h2))))
theorem cj_n_le (hx : p.tables.exec = Jvm.exec) (hb : c.code = cc) {a b : Nat} {off : Int} {tgt : Nat} (hdg : decode cc pc = .ok (.if_icmp .le off, 3)) (ht : (pc : Int) + off = (tgt : Int)) (ha : a < 2 ^ 31) (hb2 : b < 2 ^ 31) (kt : a ≤ b → W p l e R s m args below meth c H locs cells slots Q (F0 m tgt ls rest)) (kf : b < a → W p l e R s m args below meth c H locs cells slots Q (F0 m (pc + 3) ls rest)) : W p l e R s m args below meth c H locs cells slots Q (F0 m pc ls (.int (nI b) :: .int (nI a) :: rest)) := lv_icmp_le hx hb hdg ht (fun h => kt ((nI_leI ha hb2).mp h)) (fun h => kf (Nat.not_le.mp (fun h2 => h ((nI_leI ha hb2).mpr h2))))
theorem cj_n_eq (hx : p.tables.exec = Jvm.exec) (hb : c.code = cc) {a b : Nat} {off : Int} {tgt : Nat} (hdg : decode cc pc = .ok (.if_icmp .eq off, 3)) (ht : (pc : Int) + off = (tgt : Int)) (ha : a < 2 ^ 31) (hb2 : b < 2 ^ 31) (kt : a = b → W p l e R s m args below meth c H locs cells slots Q (F0 m tgt ls rest)) (kf : a ≠ b → W p l e R s m args below meth c H locs cells slots Q (F0 m (pc + 3) ls rest)) : W p l e R s m args below meth c H locs cells slots Q (F0 m pc ls (.int (nI b) :: .int (nI a) :: rest)) := lv_icmp_eq hx hb hdg ht (fun h => kt ((nI_eq ha hb2).mp h)) (fun h => kf ( (fun h2 => h ((nI_eq ha hb2).mpr h2))))
theorem cj_n_ne (hx : p.tables.exec = Jvm.exec) (hb : c.code = cc) {a b : Nat} {off : Int} {tgt : Nat} (hdg : decode cc pc = .ok (.if_icmp .ne off, 3)) (ht : (pc : Int) + off = (tgt : Int)) (ha : a < 2 ^ 31) (hb2 : b < 2 ^ 31) (kt : a ≠ b → W p l e R s m args below meth c H locs cells slots Q (F0 m tgt ls rest)) (kf : a = b → W p l e R s m args below meth c H locs cells slots Q (F0 m (pc + 3) ls rest)) : W p l e R s m args below meth c H locs cells slots Q (F0 m pc ls (.int (nI b) :: .int (nI a) :: rest)) := lv_icmp_ne hx hb hdg ht (fun h => kt (fun e => h (by rw [e]))) (fun h => kf ((nI_eq ha hb2).mp h))
theorem cj_z_eq (hx : p.tables.exec = Jvm.exec) (hb : c.code = cc) {a : Nat} {off : Int} {tgt : Nat} (hdg : decode cc pc = .ok (.ifCond .eq off, 3)) (ht : (pc : Int) + off = (tgt : Int)) (ha : a < 2 ^ 31) (kt : a = 0 → W p l e R s m args below meth c H locs cells slots Q (F0 m tgt ls rest)) (kf : a ≠ 0 → W p l e R s m args below meth c H locs cells slots Q (F0 m (pc + 3) ls rest)) : W p l e R s m args below meth c H locs cells slots Q (F0 m pc ls (.int (nI a) :: rest)) := lv_if_eq hx hb hdg ht (fun h => kt ((nI_eq ha (by decide)).mp (h.trans nI_0.symm))) (fun h => kf (fun e => h (by rw [e]; exact nI_0)))
theorem cj_z_ne (hx : p.tables.exec = Jvm.exec) (hb : c.code = cc) {a : Nat} {off : Int} {tgt : Nat} (hdg : decode cc pc = .ok (.ifCond .ne off, 3)) (ht : (pc : Int) + off = (tgt : Int)) (ha : a < 2 ^ 31) (kt : a ≠ 0 → W p l e R s m args below meth c H locs cells slots Q (F0 m tgt ls rest)) (kf : a = 0 → W p l e R s m args below meth c H locs cells slots Q (F0 m (pc + 3) ls rest)) : W p l e R s m args below meth c H locs cells slots Q (F0 m pc ls (.int (nI a) :: rest)) := lv_if_ne hx hb hdg ht (fun h => kt (fun e => h (by rw [e]; exact nI_0))) (fun h => kf ((nI_eq ha (by decide)).mp (h.trans nI_0.symm)))
theorem cj_z_lt (hx : p.tables.exec = Jvm.exec) (hb : c.code = cc) {a : Nat} {off : Int} {tgt : Nat} (hdg : decode cc pc = .ok (.ifCond .lt off, 3)) (ha : a < 2 ^ 31) (ht : (pc : Int) + off = (tgt : Int)) (kf : W p l e R s m args below meth c H locs cells slots Q (F0 m (pc + 3) ls rest)) : W p l e R s m args below meth c H locs cells slots Q (F0 m pc ls (.int (nI a) :: rest)) := lv_if_lt hx hb hdg ht (fun h => absurd h (nI_pos ha)) (fun _ => kf)
theorem cj_b_eq (hx : p.tables.exec = Jvm.exec) (hb : c.code = cc) {b : Bool} {off : Int} {tgt : Nat} (hdg : decode cc pc = .ok (.ifCond .eq off, 3)) (ht : (pc : Int) + off = (tgt : Int)) (kt : b = false → W p l e R s m args below meth c H locs cells slots Q (F0 m tgt ls rest)) (kf : b = true → W p l e R s m args below meth c H locs cells slots Q (F0 m (pc + 3) ls rest)) : W p l e R s m args below meth c H locs cells slots Q (F0 m pc ls (.int (bI b) :: rest)) := by
  cases b
  · exact lv_if_eq hx hb hdg ht (fun _ => kt rfl) (fun h => absurd (by decide) h)
  · exact lv_if_eq hx hb hdg ht (fun h => absurd h (by decide)) (fun _ => kf rfl)
theorem cj_b_ne (hx : p.tables.exec = Jvm.exec) (hb : c.code = cc) {b : Bool} {off : Int} {tgt : Nat} (hdg : decode cc pc = .ok (.ifCond .ne off, 3)) (ht : (pc : Int) + off = (tgt : Int)) (kt : b = true → W p l e R s m args below meth c H locs cells slots Q (F0 m tgt ls rest)) (kf : b = false → W p l e R s m args below meth c H locs cells slots Q (F0 m (pc + 3) ls rest)) : W p l e R s m args below meth c H locs cells slots Q (F0 m pc ls (.int (bI b) :: rest)) := by
  cases b
  · exact lv_if_ne hx hb hdg ht (fun h => absurd (by decide) h) (fun _ => kf rfl)
  · exact lv_if_ne hx hb hdg ht (fun _ => kt rfl) (fun h => absurd h (by decide))
theorem cj_l_eq (hx : p.tables.exec = Jvm.exec) (hb : c.code = cc) {x y2 : Int64} {off : Int} {tgt : Nat} (hd0 : decode cc pc = .ok (.lcmp, 1)) (hdg : decode cc (pc + 1) = .ok (.ifCond .eq off, 3)) (ht : ((pc + 1 : Nat) : Int) + off = (tgt : Int)) (kt : x = y2 → W p l e R s m args below meth c H locs cells slots Q (F0 m tgt ls rest)) (kf : ¬ (x = y2) → W p l e R s m args below meth c H locs cells slots Q (F0 m (pc + 1 + 3) ls rest)) : W p l e R s m args below meth c H locs cells slots Q (F0 m pc ls (.long y2 :: .long x :: rest)) := W.lcmp hx hb hd0 (lv_if_eq hx hb hdg ht (fun h => kt ((lg_cmp_eq x y2).mp h)) (fun h => kf (fun h2 => h ((lg_cmp_eq x y2).mpr h2))))
theorem cj_l_ne (hx : p.tables.exec = Jvm.exec) (hb : c.code = cc) {x y2 : Int64} {off : Int} {tgt : Nat} (hd0 : decode cc pc = .ok (.lcmp, 1)) (hdg : decode cc (pc + 1) = .ok (.ifCond .ne off, 3)) (ht : ((pc + 1 : Nat) : Int) + off = (tgt : Int)) (kt : ¬ x = y2 → W p l e R s m args below meth c H locs cells slots Q (F0 m tgt ls rest)) (kf : x = y2 → W p l e R s m args below meth c H locs cells slots Q (F0 m (pc + 1 + 3) ls rest)) : W p l e R s m args below meth c H locs cells slots Q (F0 m pc ls (.long y2 :: .long x :: rest)) := W.lcmp hx hb hd0 (lv_if_ne hx hb hdg ht (fun h => kt (fun e => h ((lg_cmp_eq x y2).mpr e))) (fun h => kf ((lg_cmp_eq x y2).mp h)))
theorem cj_l_lt (hx : p.tables.exec = Jvm.exec) (hb : c.code = cc) {x y2 : Int64} {off : Int} {tgt : Nat} (hd0 : decode cc pc = .ok (.lcmp, 1)) (hdg : decode cc (pc + 1) = .ok (.ifCond .lt off, 3)) (ht : ((pc + 1 : Nat) : Int) + off = (tgt : Int)) (kt : x < y2 → W p l e R s m args below meth c H locs cells slots Q (F0 m tgt ls rest)) (kf : ¬ (x < y2) → W p l e R s m args below meth c H locs cells slots Q (F0 m (pc + 1 + 3) ls rest)) : W p l e R s m args below meth c H locs cells slots Q (F0 m pc ls (.long y2 :: .long x :: rest)) := W.lcmp hx hb hd0 (lv_if_lt hx hb hdg ht (fun h => kt ((lg_cmp_lt x y2).mp h)) (fun h => kf (fun h2 => h ((lg_cmp_lt x y2).mpr h2))))
theorem cj_l_ge (hx : p.tables.exec = Jvm.exec) (hb : c.code = cc) {x y2 : Int64} {off : Int} {tgt : Nat} (hd0 : decode cc pc = .ok (.lcmp, 1)) (hdg : decode cc (pc + 1) = .ok (.ifCond .ge off, 3)) (ht : ((pc + 1 : Nat) : Int) + off = (tgt : Int)) (kt : y2 ≤ x → W p l e R s m args below meth c H locs cells slots Q (F0 m tgt ls rest)) (kf : ¬ (y2 ≤ x) → W p l e R s m args below meth c H locs cells slots Q (F0 m (pc + 1 + 3) ls rest)) : W p l e R s m args below meth c H locs cells slots Q (F0 m pc ls (.long y2 :: .long x :: rest)) := W.lcmp hx hb hd0 (lv_if_ge hx hb hdg ht (fun h => kt ((lg_cmp_ge x y2).mp h)) (fun h => kf (fun h2 => h ((lg_cmp_ge x y2).mpr h2))))
theorem cj_l_le (hx : p.tables.exec = Jvm.exec) (hb : c.code = cc) {x y2 : Int64} {off : Int} {tgt : Nat} (hd0 : decode cc pc = .ok (.lcmp, 1)) (hdg : decode cc (pc + 1) = .ok (.ifCond .le off, 3)) (ht : ((pc + 1 : Nat) : Int) + off = (tgt : Int)) (kt : x ≤ y2 → W p l e R s m args below meth c H locs cells slots Q (F0 m tgt ls rest)) (kf : ¬ (x ≤ y2) → W p l e R s m args below meth c H locs cells slots Q (F0 m (pc + 1 + 3) ls rest)) : W p l e R s m args below meth c H locs cells slots Q (F0 m pc ls (.long y2 :: .long x :: rest)) := W.lcmp hx hb hd0 (lv_if_le hx hb hdg ht (fun h => kt ((lg_cmp_le x y2).mp h)) (fun h => kf (fun h2 => h ((lg_cmp_le x y2).mpr h2))))
theorem cj_l_gt (hx : p.tables.exec = Jvm.exec) (hb : c.code = cc) {x y2 : Int64} {off : Int} {tgt : Nat} (hd0 : decode cc pc = .ok (.lcmp, 1)) (hdg : decode cc (pc + 1) = .ok (.ifCond .gt off, 3)) (ht : ((pc + 1 : Nat) : Int) + off = (tgt : Int)) (kt : y2 < x → W p l e R s m args below meth c H locs cells slots Q (F0 m tgt ls rest)) (kf : ¬ (y2 < x) → W p l e R s m args below meth c H locs cells slots Q (F0 m (pc + 1 + 3) ls rest)) : W p l e R s m args below meth c H locs cells slots Q (F0 m pc ls (.long y2 :: .long x :: rest)) := W.lcmp hx hb hd0 (lv_if_gt hx hb hdg ht (fun h => kt ((lg_cmp_gt x y2).mp h)) (fun h => kf (fun h2 => h ((lg_cmp_gt x y2).mpr h2))))
end CJ5
end
section
-- small rows
theorem hd_C_edition : yC_edition.cls = RC ∧ yC_edition.cls ≠ "java/lang/invoke/MethodHandle" ∧ yC_edition.cls ≠ "java/lang/invoke/VarHandle" ∧ (parseMethodDescriptor yC_edition.desc).map (fun d => d.parameters.length) = some 0 := ⟨rfl, by decide, by decide, by decide +kernel⟩
theorem hd_C_line : yC_line.cls = RC ∧ yC_line.cls ≠ "java/lang/invoke/MethodHandle" ∧ yC_line.cls ≠ "java/lang/invoke/VarHandle" ∧ (parseMethodDescriptor yC_line.desc).map (fun d => d.parameters.length) = some 4 := ⟨rfl, by decide, by decide, by decide +kernel⟩
theorem hd_C_isEdition : yC_isEdition.cls = RC ∧ yC_isEdition.cls ≠ "java/lang/invoke/MethodHandle" ∧ yC_isEdition.cls ≠ "java/lang/invoke/VarHandle" ∧ (parseMethodDescriptor yC_isEdition.desc).map (fun d => d.parameters.length) = some 1 := ⟨rfl, by decide, by decide, by decide +kernel⟩
theorem hd_C_isOwner : yC_isOwner.cls ≠ "java/lang/invoke/MethodHandle" ∧ yC_isOwner.cls ≠ "java/lang/invoke/VarHandle" ∧ (parseMethodDescriptor yC_isOwner.desc).map (fun d => d.parameters.length) = some 1 := ⟨by decide, by decide, by decide +kernel⟩
theorem hd_C_bitOf : yC_bitOf.cls ≠ "java/lang/invoke/MethodHandle" ∧ yC_bitOf.cls ≠ "java/lang/invoke/VarHandle" ∧ (parseMethodDescriptor yC_bitOf.desc).map (fun d => d.parameters.length) = some 1 := ⟨by decide, by decide, by decide +kernel⟩
theorem hd_C_lines : yC_lines.cls = RC ∧ yC_lines.cls ≠ "java/lang/invoke/MethodHandle" ∧ yC_lines.cls ≠ "java/lang/invoke/VarHandle" ∧ (parseMethodDescriptor yC_lines.desc).map (fun d => d.parameters.length) = some 1 := ⟨rfl, by decide, by decide, by decide +kernel⟩
theorem hd_C_run : yC_run.cls = RC ∧ yC_run.cls ≠ "java/lang/invoke/MethodHandle" ∧ yC_run.cls ≠ "java/lang/invoke/VarHandle" ∧ (parseMethodDescriptor yC_run.desc).map (fun d => d.parameters.length) = some 2 := ⟨rfl, by decide, by decide, by decide +kernel⟩
theorem hd_C_addRun : yC_addRun.cls = RC ∧ yC_addRun.cls ≠ "java/lang/invoke/MethodHandle" ∧ yC_addRun.cls ≠ "java/lang/invoke/VarHandle" ∧ (parseMethodDescriptor yC_addRun.desc).map (fun d => d.parameters.length) = some 3 := ⟨rfl, by decide, by decide, by decide +kernel⟩
theorem hd_C_hit : yC_hit.cls = RC ∧ yC_hit.cls ≠ "java/lang/invoke/MethodHandle" ∧ yC_hit.cls ≠ "java/lang/invoke/VarHandle" ∧ (parseMethodDescriptor yC_hit.desc).map (fun d => d.parameters.length) = some 2 := ⟨rfl, by decide, by decide, by decide +kernel⟩
theorem hd_C_isRun : yC_isRun.cls = RC ∧ yC_isRun.cls ≠ "java/lang/invoke/MethodHandle" ∧ yC_isRun.cls ≠ "java/lang/invoke/VarHandle" ∧ (parseMethodDescriptor yC_isRun.desc).map (fun d => d.parameters.length) = some 1 := ⟨rfl, by decide, by decide, by decide +kernel⟩
theorem hd_C_isLine : yC_isLine.cls = RC ∧ yC_isLine.cls ≠ "java/lang/invoke/MethodHandle" ∧ yC_isLine.cls ≠ "java/lang/invoke/VarHandle" ∧ (parseMethodDescriptor yC_isLine.desc).map (fun d => d.parameters.length) = some 2 := ⟨rfl, by decide, by decide, by decide +kernel⟩
theorem hd_C_hitsLine : yC_hitsLine.cls = RC ∧ yC_hitsLine.cls ≠ "java/lang/invoke/MethodHandle" ∧ yC_hitsLine.cls ≠ "java/lang/invoke/VarHandle" ∧ (parseMethodDescriptor yC_hitsLine.desc).map (fun d => d.parameters.length) = some 2 := ⟨rfl, by decide, by decide, by decide +kernel⟩
theorem hd_C_covered : yC_covered.cls = RC ∧ yC_covered.cls ≠ "java/lang/invoke/MethodHandle" ∧ yC_covered.cls ≠ "java/lang/invoke/VarHandle" ∧ (parseMethodDescriptor yC_covered.desc).map (fun d => d.parameters.length) = some 2 := ⟨rfl, by decide, by decide, by decide +kernel⟩
theorem hd_C_map : yC_map.cls = RC ∧ yC_map.cls ≠ "java/lang/invoke/MethodHandle" ∧ yC_map.cls ≠ "java/lang/invoke/VarHandle" ∧ (parseMethodDescriptor yC_map.desc).map (fun d => d.parameters.length) = some 2 := ⟨rfl, by decide, by decide, by decide +kernel⟩
theorem hd_C_compare : yC_compare.cls = RC ∧ yC_compare.cls ≠ "java/lang/invoke/MethodHandle" ∧ yC_compare.cls ≠ "java/lang/invoke/VarHandle" ∧ (parseMethodDescriptor yC_compare.desc).map (fun d => d.parameters.length) = some 2 := ⟨rfl, by decide, by decide, by decide +kernel⟩
theorem hd_C_countPairs : yC_countPairs.cls = RC ∧ yC_countPairs.cls ≠ "java/lang/invoke/MethodHandle" ∧ yC_countPairs.cls ≠ "java/lang/invoke/VarHandle" ∧ (parseMethodDescriptor yC_countPairs.desc).map (fun d => d.parameters.length) = some 2 := ⟨rfl, by decide, by decide, by decide +kernel⟩
theorem hd_C_choosePairs : yC_choosePairs.cls = RC ∧ yC_choosePairs.cls ≠ "java/lang/invoke/MethodHandle" ∧ yC_choosePairs.cls ≠ "java/lang/invoke/VarHandle" ∧ (parseMethodDescriptor yC_choosePairs.desc).map (fun d => d.parameters.length) = some 2 := ⟨rfl, by decide, by decide, by decide +kernel⟩
theorem hd_C_placeOf : yC_placeOf.cls = RC ∧ yC_placeOf.cls ≠ "java/lang/invoke/MethodHandle" ∧ yC_placeOf.cls ≠ "java/lang/invoke/VarHandle" ∧ (parseMethodDescriptor yC_placeOf.desc).map (fun d => d.parameters.length) = some 3 := ⟨rfl, by decide, by decide, by decide +kernel⟩
theorem hd_C_pairsOf : yC_pairsOf.cls = RC ∧ yC_pairsOf.cls ≠ "java/lang/invoke/MethodHandle" ∧ yC_pairsOf.cls ≠ "java/lang/invoke/VarHandle" ∧ (parseMethodDescriptor yC_pairsOf.desc).map (fun d => d.parameters.length) = some 2 := ⟨rfl, by decide, by decide, by decide +kernel⟩
theorem hd_C_join : yC_join.cls = RC ∧ yC_join.cls ≠ "java/lang/invoke/MethodHandle" ∧ yC_join.cls ≠ "java/lang/invoke/VarHandle" ∧ (parseMethodDescriptor yC_join.desc).map (fun d => d.parameters.length) = some 2 := ⟨rfl, by decide, by decide, by decide +kernel⟩
theorem hd_C_same : yC_same.cls = RC ∧ yC_same.cls ≠ "java/lang/invoke/MethodHandle" ∧ yC_same.cls ≠ "java/lang/invoke/VarHandle" ∧ (parseMethodDescriptor yC_same.desc).map (fun d => d.parameters.length) = some 3 := ⟨rfl, by decide, by decide, by decide +kernel⟩
theorem hd_C_share : yC_share.cls = RC ∧ yC_share.cls ≠ "java/lang/invoke/MethodHandle" ∧ yC_share.cls ≠ "java/lang/invoke/VarHandle" ∧ (parseMethodDescriptor yC_share.desc).map (fun d => d.parameters.length) = some 3 := ⟨rfl, by decide, by decide, by decide +kernel⟩
theorem hd_C_hitShare : yC_hitShare.cls = RC ∧ yC_hitShare.cls ≠ "java/lang/invoke/MethodHandle" ∧ yC_hitShare.cls ≠ "java/lang/invoke/VarHandle" ∧ (parseMethodDescriptor yC_hitShare.desc).map (fun d => d.parameters.length) = some 2 := ⟨rfl, by decide, by decide, by decide +kernel⟩
theorem hd_J_bitCount : yJ_bitCount.cls ≠ "java/lang/invoke/MethodHandle" ∧ yJ_bitCount.cls ≠ "java/lang/invoke/VarHandle" ∧ (parseMethodDescriptor yJ_bitCount.desc).map (fun d => d.parameters.length) = some 1 := ⟨by decide, by decide, by decide +kernel⟩
theorem hd_C_wholeShare : yC_wholeShare.cls = RC ∧ yC_wholeShare.cls ≠ "java/lang/invoke/MethodHandle" ∧ yC_wholeShare.cls ≠ "java/lang/invoke/VarHandle" ∧ (parseMethodDescriptor yC_wholeShare.desc).map (fun d => d.parameters.length) = some 2 := ⟨rfl, by decide, by decide, by decide +kernel⟩
theorem hd_C_fresh : yC_fresh.cls = RC ∧ yC_fresh.cls ≠ "java/lang/invoke/MethodHandle" ∧ yC_fresh.cls ≠ "java/lang/invoke/VarHandle" ∧ (parseMethodDescriptor yC_fresh.desc).map (fun d => d.parameters.length) = some 3 := ⟨rfl, by decide, by decide, by decide +kernel⟩
theorem hd_C_ungenerated : yC_ungenerated.cls = RC ∧ yC_ungenerated.cls ≠ "java/lang/invoke/MethodHandle" ∧ yC_ungenerated.cls ≠ "java/lang/invoke/VarHandle" ∧ (parseMethodDescriptor yC_ungenerated.desc).map (fun d => d.parameters.length) = some 1 := ⟨rfl, by decide, by decide, by decide +kernel⟩
theorem hd_C_firstBits : yC_firstBits.cls ≠ "java/lang/invoke/MethodHandle" ∧ yC_firstBits.cls ≠ "java/lang/invoke/VarHandle" ∧ (parseMethodDescriptor yC_firstBits.desc).map (fun d => d.parameters.length) = some 1 := ⟨by decide, by decide, by decide +kernel⟩
theorem hd_C_falls : yC_falls.cls = RC ∧ yC_falls.cls ≠ "java/lang/invoke/MethodHandle" ∧ yC_falls.cls ≠ "java/lang/invoke/VarHandle" ∧ (parseMethodDescriptor yC_falls.desc).map (fun d => d.parameters.length) = some 3 := ⟨rfl, by decide, by decide, by decide +kernel⟩
theorem hd_C_dead : yC_dead.cls = RC ∧ yC_dead.cls ≠ "java/lang/invoke/MethodHandle" ∧ yC_dead.cls ≠ "java/lang/invoke/VarHandle" ∧ (parseMethodDescriptor yC_dead.desc).map (fun d => d.parameters.length) = some 1 := ⟨rfl, by decide, by decide, by decide +kernel⟩
theorem hd_C_least : yC_least.cls = RC ∧ yC_least.cls ≠ "java/lang/invoke/MethodHandle" ∧ yC_least.cls ≠ "java/lang/invoke/VarHandle" ∧ (parseMethodDescriptor yC_least.desc).map (fun d => d.parameters.length) = some 1 := ⟨rfl, by decide, by decide, by decide +kernel⟩
theorem hd_C_gatherCandidates : yC_gatherCandidates.cls = RC ∧ yC_gatherCandidates.cls ≠ "java/lang/invoke/MethodHandle" ∧ yC_gatherCandidates.cls ≠ "java/lang/invoke/VarHandle" ∧ (parseMethodDescriptor yC_gatherCandidates.desc).map (fun d => d.parameters.length) = some 1 := ⟨rfl, by decide, by decide, by decide +kernel⟩
theorem hd_C_weightOf : yC_weightOf.cls = RC ∧ yC_weightOf.cls ≠ "java/lang/invoke/MethodHandle" ∧ yC_weightOf.cls ≠ "java/lang/invoke/VarHandle" ∧ (parseMethodDescriptor yC_weightOf.desc).map (fun d => d.parameters.length) = some 1 := ⟨rfl, by decide, by decide, by decide +kernel⟩
theorem hd_C_lightest : yC_lightest.cls ≠ "java/lang/invoke/MethodHandle" ∧ yC_lightest.cls ≠ "java/lang/invoke/VarHandle" ∧ (parseMethodDescriptor yC_lightest.desc).map (fun d => d.parameters.length) = some 5 := ⟨by decide, by decide, by decide +kernel⟩
theorem hd_C_chosen : yC_chosen.cls = RC ∧ yC_chosen.cls ≠ "java/lang/invoke/MethodHandle" ∧ yC_chosen.cls ≠ "java/lang/invoke/VarHandle" ∧ (parseMethodDescriptor yC_chosen.desc).map (fun d => d.parameters.length) = some 0 := ⟨rfl, by decide, by decide, by decide +kernel⟩
theorem hd_C_about : yC_about.cls = RC ∧ yC_about.cls ≠ "java/lang/invoke/MethodHandle" ∧ yC_about.cls ≠ "java/lang/invoke/VarHandle" ∧ (parseMethodDescriptor yC_about.desc).map (fun d => d.parameters.length) = some 2 := ⟨rfl, by decide, by decide, by decide +kernel⟩
theorem hd_M_edition : yM_edition.cls = RM ∧ yM_edition.cls ≠ "java/lang/invoke/MethodHandle" ∧ yM_edition.cls ≠ "java/lang/invoke/VarHandle" ∧ (parseMethodDescriptor yM_edition.desc).map (fun d => d.parameters.length) = some 0 := ⟨rfl, by decide, by decide, by decide +kernel⟩
theorem hd_M_line : yM_line.cls = RM ∧ yM_line.cls ≠ "java/lang/invoke/MethodHandle" ∧ yM_line.cls ≠ "java/lang/invoke/VarHandle" ∧ (parseMethodDescriptor yM_line.desc).map (fun d => d.parameters.length) = some 4 := ⟨rfl, by decide, by decide, by decide +kernel⟩
theorem hd_M_in : yM_in.cls ≠ "java/lang/invoke/MethodHandle" ∧ yM_in.cls ≠ "java/lang/invoke/VarHandle" ∧ (parseMethodDescriptor yM_in.desc).map (fun d => d.parameters.length) = some 2 := ⟨by decide, by decide, by decide +kernel⟩
theorem hd_M_lines : yM_lines.cls = RM ∧ yM_lines.cls ≠ "java/lang/invoke/MethodHandle" ∧ yM_lines.cls ≠ "java/lang/invoke/VarHandle" ∧ (parseMethodDescriptor yM_lines.desc).map (fun d => d.parameters.length) = some 1 := ⟨rfl, by decide, by decide, by decide +kernel⟩
theorem hd_M_run : yM_run.cls = RM ∧ yM_run.cls ≠ "java/lang/invoke/MethodHandle" ∧ yM_run.cls ≠ "java/lang/invoke/VarHandle" ∧ (parseMethodDescriptor yM_run.desc).map (fun d => d.parameters.length) = some 2 := ⟨rfl, by decide, by decide, by decide +kernel⟩
theorem hd_M_newRun : yM_newRun.cls = RM ∧ yM_newRun.cls ≠ "java/lang/invoke/MethodHandle" ∧ yM_newRun.cls ≠ "java/lang/invoke/VarHandle" ∧ (parseMethodDescriptor yM_newRun.desc).map (fun d => d.parameters.length) = some 3 := ⟨rfl, by decide, by decide, by decide +kernel⟩
theorem hd_M_hit : yM_hit.cls = RM ∧ yM_hit.cls ≠ "java/lang/invoke/MethodHandle" ∧ yM_hit.cls ≠ "java/lang/invoke/VarHandle" ∧ (parseMethodDescriptor yM_hit.desc).map (fun d => d.parameters.length) = some 2 := ⟨rfl, by decide, by decide, by decide +kernel⟩
theorem hd_M_isLine : yM_isLine.cls = RM ∧ yM_isLine.cls ≠ "java/lang/invoke/MethodHandle" ∧ yM_isLine.cls ≠ "java/lang/invoke/VarHandle" ∧ (parseMethodDescriptor yM_isLine.desc).map (fun d => d.parameters.length) = some 2 := ⟨rfl, by decide, by decide, by decide +kernel⟩
theorem hd_M_isHit : yM_isHit.cls = RM ∧ yM_isHit.cls ≠ "java/lang/invoke/MethodHandle" ∧ yM_isHit.cls ≠ "java/lang/invoke/VarHandle" ∧ (parseMethodDescriptor yM_isHit.desc).map (fun d => d.parameters.length) = some 2 := ⟨rfl, by decide, by decide, by decide +kernel⟩
theorem hd_M_covered : yM_covered.cls = RM ∧ yM_covered.cls ≠ "java/lang/invoke/MethodHandle" ∧ yM_covered.cls ≠ "java/lang/invoke/VarHandle" ∧ (parseMethodDescriptor yM_covered.desc).map (fun d => d.parameters.length) = some 2 := ⟨rfl, by decide, by decide, by decide +kernel⟩
theorem hd_M_same : yM_same.cls = RM ∧ yM_same.cls ≠ "java/lang/invoke/MethodHandle" ∧ yM_same.cls ≠ "java/lang/invoke/VarHandle" ∧ (parseMethodDescriptor yM_same.desc).map (fun d => d.parameters.length) = some 3 := ⟨rfl, by decide, by decide, by decide +kernel⟩
theorem hd_M_compare : yM_compare.cls = RM ∧ yM_compare.cls ≠ "java/lang/invoke/MethodHandle" ∧ yM_compare.cls ≠ "java/lang/invoke/VarHandle" ∧ (parseMethodDescriptor yM_compare.desc).map (fun d => d.parameters.length) = some 2 := ⟨rfl, by decide, by decide, by decide +kernel⟩
theorem hd_M_isAlike : yM_isAlike.cls = RM ∧ yM_isAlike.cls ≠ "java/lang/invoke/MethodHandle" ∧ yM_isAlike.cls ≠ "java/lang/invoke/VarHandle" ∧ (parseMethodDescriptor yM_isAlike.desc).map (fun d => d.parameters.length) = some 4 := ⟨rfl, by decide, by decide, by decide +kernel⟩
theorem hd_M_map : yM_map.cls = RM ∧ yM_map.cls ≠ "java/lang/invoke/MethodHandle" ∧ yM_map.cls ≠ "java/lang/invoke/VarHandle" ∧ (parseMethodDescriptor yM_map.desc).map (fun d => d.parameters.length) = some 2 := ⟨rfl, by decide, by decide, by decide +kernel⟩
theorem hd_M_join : yM_join.cls = RM ∧ yM_join.cls ≠ "java/lang/invoke/MethodHandle" ∧ yM_join.cls ≠ "java/lang/invoke/VarHandle" ∧ (parseMethodDescriptor yM_join.desc).map (fun d => d.parameters.length) = some 2 := ⟨rfl, by decide, by decide, by decide +kernel⟩
theorem hd_M_share : yM_share.cls = RM ∧ yM_share.cls ≠ "java/lang/invoke/MethodHandle" ∧ yM_share.cls ≠ "java/lang/invoke/VarHandle" ∧ (parseMethodDescriptor yM_share.desc).map (fun d => d.parameters.length) = some 3 := ⟨rfl, by decide, by decide, by decide +kernel⟩
theorem hd_M_shareOf : yM_shareOf.cls = RM ∧ yM_shareOf.cls ≠ "java/lang/invoke/MethodHandle" ∧ yM_shareOf.cls ≠ "java/lang/invoke/VarHandle" ∧ (parseMethodDescriptor yM_shareOf.desc).map (fun d => d.parameters.length) = some 3 := ⟨rfl, by decide, by decide, by decide +kernel⟩
theorem hd_M_fresh : yM_fresh.cls = RM ∧ yM_fresh.cls ≠ "java/lang/invoke/MethodHandle" ∧ yM_fresh.cls ≠ "java/lang/invoke/VarHandle" ∧ (parseMethodDescriptor yM_fresh.desc).map (fun d => d.parameters.length) = some 3 := ⟨rfl, by decide, by decide, by decide +kernel⟩
theorem hd_M_falls : yM_falls.cls = RM ∧ yM_falls.cls ≠ "java/lang/invoke/MethodHandle" ∧ yM_falls.cls ≠ "java/lang/invoke/VarHandle" ∧ (parseMethodDescriptor yM_falls.desc).map (fun d => d.parameters.length) = some 3 := ⟨rfl, by decide, by decide, by decide +kernel⟩
theorem hd_M_dead : yM_dead.cls = RM ∧ yM_dead.cls ≠ "java/lang/invoke/MethodHandle" ∧ yM_dead.cls ≠ "java/lang/invoke/VarHandle" ∧ (parseMethodDescriptor yM_dead.desc).map (fun d => d.parameters.length) = some 1 := ⟨rfl, by decide, by decide, by decide +kernel⟩
theorem hd_M_least : yM_least.cls = RM ∧ yM_least.cls ≠ "java/lang/invoke/MethodHandle" ∧ yM_least.cls ≠ "java/lang/invoke/VarHandle" ∧ (parseMethodDescriptor yM_least.desc).map (fun d => d.parameters.length) = some 1 := ⟨rfl, by decide, by decide, by decide +kernel⟩
theorem hd_M_ones : yM_ones.cls ≠ "java/lang/invoke/MethodHandle" ∧ yM_ones.cls ≠ "java/lang/invoke/VarHandle" ∧ (parseMethodDescriptor yM_ones.desc).map (fun d => d.parameters.length) = some 1 := ⟨by decide, by decide, by decide +kernel⟩
theorem hd_M_chosen : yM_chosen.cls = RM ∧ yM_chosen.cls ≠ "java/lang/invoke/MethodHandle" ∧ yM_chosen.cls ≠ "java/lang/invoke/VarHandle" ∧ (parseMethodDescriptor yM_chosen.desc).map (fun d => d.parameters.length) = some 0 := ⟨rfl, by decide, by decide, by decide +kernel⟩
theorem hd_M_about : yM_about.cls = RM ∧ yM_about.cls ≠ "java/lang/invoke/MethodHandle" ∧ yM_about.cls ≠ "java/lang/invoke/VarHandle" ∧ (parseMethodDescriptor yM_about.desc).map (fun d => d.parameters.length) = some 2 := ⟨rfl, by decide, by decide, by decide +kernel⟩
/-- one less than a -/
def cj_p (a : Nat) : Int32 := nI a - 1
theorem cj_dp (a : Nat) : nI a + Int32.ofInt (-1) = cj_p a := by
  unfold cj_p
  rw [Int32.sub_eq_add_neg]
  rfl
theorem cj_p0 : cj_p 0 = (-1) := by decide
theorem cj_ps (a : Nat) : cj_p (a + 1) = nI a := nI_pred a
theorem cj_bz (b : Bool) : bI b = nI 0 ∨ bI b = nI 1 := by cases b <;> decide
theorem cj_max {a b : Nat} (ha : a < 2 ^ 31) (hb : b < 2 ^ 31) : (if nI a < nI b then nI b else nI a) = nI (max a b) := by
  by_cases h : a < b
  · rw [if_pos ((nI_ltI ha hb).mpr h), Nat.max_eq_right (Nat.le_of_lt h)]
  · rw [if_neg (fun q => h ((nI_ltI ha hb).mp q)), Nat.max_eq_left (Nat.not_lt.mp h)]
theorem cj_min {a b : Nat} (ha : a < 2 ^ 31) (hb : b < 2 ^ 31) : (if nI b < nI a then nI b else nI a) = nI (min a b) := by
  by_cases h : b < a
  · rw [if_pos ((nI_ltI hb ha).mpr h), Nat.min_eq_right (Nat.le_of_lt h)]
  · rw [if_neg (fun q => h ((nI_ltI hb ha).mp q)), Nat.min_eq_left (Nat.not_lt.mp h)]
/-- x is one of the first k numbers -/
def cj_in (x : Int32) (k : Nat) : Prop := ∃ j, j < k ∧ x = nI j
theorem cj_ixt {x : Int32} {k : Nat} (h0 : ¬ x < 0) (h1 : ¬ nI k ≤ x) (hk : k < 2 ^ 31) : cj_in x k := by
  rcases pk_ix x hk with h | h | h
  · exact absurd h h0
  · exact absurd h h1
  · exact h
theorem cj_ixf0 {x : Int32} {k : Nat} (h : x < 0) (hk : k < 2 ^ 31) : ¬ cj_in x k := fun ⟨j, hj, e⟩ => by
  rw [e] at h
  exact nI_pos (Nat.lt_trans hj hk) h
theorem cj_ixf1 {x : Int32} {k : Nat} (h : nI k ≤ x) (hk : k < 2 ^ 31) : ¬ cj_in x k := fun ⟨j, hj, e⟩ => by
  rw [e] at h
  have := (nI_leI hk (Nat.lt_trans hj hk)).mp h
  omega
theorem cj_in_inj {j k : Nat} (h : cj_in (nI j) k) (hj : j < 2 ^ 31) (hk : k < 2 ^ 31) : j < k := by
  obtain ⟨i, hi, e⟩ := h
  have := (nI_eq hj (Nat.lt_trans hi hk)).mp e
  omega
end
section
set_option maxRecDepth 100000 in
set_option maxHeartbeats 4000000 in
theorem c_C_isEdition (l : Launch) (D : va_G) (kd : Nat → ClassId) (ad : Nat → Nat) {E : Nat} {n : Nat → Nat} {cl : Nat → Bool} {con : Nat → Nat → Int32} {ow : Nat → Nat → Int64} {rn : Nat} {ed : Nat → Nat} {co : Nat → Nat} {hz : Nat → Int64} {mp : Nat → Nat → Nat} {pr : Nat → Int32} {cn : Nat} {hs : Nat → Int64} {wg : Nat → Int64} {rs : Nat → Int64} {ch : Int32}  (hE : E ≤ 8) (x : Int32) : cj_Mi (S := Unit) l yC_isEdition cC_isEdition 2 (some .boolean) 0 D kd [.ref (ad 0), .int x] (wC kd ad E n cl con ow rn ed co hz mp pr cn hs wg rs ch) (fun r _ => (r = nI 1 ∧ cj_in x E) ∨ (r = nI 0 ∧ ¬ cj_in x E)) (fun _ => wC kd ad E n cl con ow rn ed co hz mp pr cn hs wg rs ch) := by
  refine cj_ofi (by decide) (Nat.le_of_ble_eq_true rfl) ?_
  intro p e s m below meth c A ls X hr V hl
  obtain ⟨⟨hx, hb, hml, hown, hts⟩, hK, hlk⟩ := id X
  have hl : lv_has ls 2 [(0, .ref (ad 0)), (1, .int x)] := hl
  refine lv_iload_n hx hb dC_isEdition_0 rfl (lv_at hl 1 rfl) ?_
  refine lv_if_lt (tgt := 16) hx hb dC_isEdition_1 (by decide) (fun c_1 => ?_) (fun c_1 => ?_)
  ·
    refine lv_iconst (v := nI 0) hx hb dC_isEdition_16 (by decide) ?_
    exact cj_retz () X hr V (by decide) (by first | exact Or.inl ⟨rfl, cj_ixt ‹_› ‹_› (by omega)⟩ | exact Or.inr ⟨rfl, cj_ixf0 ‹_› (by omega)⟩ | exact Or.inr ⟨rfl, cj_ixf1 ‹_› (by omega)⟩) dC_isEdition_17
  ·
    refine lv_iload_n hx hb dC_isEdition_4 rfl (lv_at hl 1 rfl) ?_
    refine lv_aload_n hx hb dC_isEdition_5 rfl (lv_at hl 0 rfl) ?_
    refine gC 0 X V fl_C_9 (by decide) rfl dC_isEdition_6 ?_
    refine lv_icmp_ge (tgt := 16) hx hb dC_isEdition_9 (by decide) (fun c_2 => ?_) (fun c_2 => ?_)
    ·
      refine lv_iconst (v := nI 0) hx hb dC_isEdition_16 (by decide) ?_
      exact cj_retz () X hr V (by decide) (by first | exact Or.inl ⟨rfl, cj_ixt ‹_› ‹_› (by omega)⟩ | exact Or.inr ⟨rfl, cj_ixf0 ‹_› (by omega)⟩ | exact Or.inr ⟨rfl, cj_ixf1 ‹_› (by omega)⟩) dC_isEdition_17
    ·
      refine lv_iconst (v := nI 1) hx hb dC_isEdition_12 (by decide) ?_
      refine lv_goto (tgt := 17) hx hb dC_isEdition_13 (by decide) ?_
      exact cj_retz () X hr V (by decide) (by first | exact Or.inl ⟨rfl, cj_ixt ‹_› ‹_› (by omega)⟩ | exact Or.inr ⟨rfl, cj_ixf0 ‹_› (by omega)⟩ | exact Or.inr ⟨rfl, cj_ixf1 ‹_› (by omega)⟩) dC_isEdition_17
set_option maxRecDepth 100000 in
set_option maxHeartbeats 4000000 in
theorem c_C_isRun (l : Launch) (D : va_G) (kd : Nat → ClassId) (ad : Nat → Nat) {E : Nat} {n : Nat → Nat} {cl : Nat → Bool} {con : Nat → Nat → Int32} {ow : Nat → Nat → Int64} {rn : Nat} {ed : Nat → Nat} {co : Nat → Nat} {hz : Nat → Int64} {mp : Nat → Nat → Nat} {pr : Nat → Int32} {cn : Nat} {hs : Nat → Int64} {wg : Nat → Int64} {rs : Nat → Int64} {ch : Int32}  (hR : rn ≤ 14) (x : Int32) : cj_Mi (S := Unit) l yC_isRun cC_isRun 2 (some .boolean) 0 D kd [.ref (ad 0), .int x] (wC kd ad E n cl con ow rn ed co hz mp pr cn hs wg rs ch) (fun r _ => (r = nI 1 ∧ cj_in x rn) ∨ (r = nI 0 ∧ ¬ cj_in x rn)) (fun _ => wC kd ad E n cl con ow rn ed co hz mp pr cn hs wg rs ch) := by
  refine cj_ofi (by decide) (Nat.le_of_ble_eq_true rfl) ?_
  intro p e s m below meth c A ls X hr V hl
  obtain ⟨⟨hx, hb, hml, hown, hts⟩, hK, hlk⟩ := id X
  have hl : lv_has ls 2 [(0, .ref (ad 0)), (1, .int x)] := hl
  refine lv_iload_n hx hb dC_isRun_0 rfl (lv_at hl 1 rfl) ?_
  refine lv_if_lt (tgt := 16) hx hb dC_isRun_1 (by decide) (fun c_1 => ?_) (fun c_1 => ?_)
  ·
    refine lv_iconst (v := nI 0) hx hb dC_isRun_16 (by decide) ?_
    exact cj_retz () X hr V (by decide) (by first | exact Or.inl ⟨rfl, cj_ixt ‹_› ‹_› (by omega)⟩ | exact Or.inr ⟨rfl, cj_ixf0 ‹_› (by omega)⟩ | exact Or.inr ⟨rfl, cj_ixf1 ‹_› (by omega)⟩) dC_isRun_17
  ·
    refine lv_iload_n hx hb dC_isRun_4 rfl (lv_at hl 1 rfl) ?_
    refine lv_aload_n hx hb dC_isRun_5 rfl (lv_at hl 0 rfl) ?_
    refine gC 5 X V fl_C_31 (by decide) rfl dC_isRun_6 ?_
    refine lv_icmp_ge (tgt := 16) hx hb dC_isRun_9 (by decide) (fun c_2 => ?_) (fun c_2 => ?_)
    ·
      refine lv_iconst (v := nI 0) hx hb dC_isRun_16 (by decide) ?_
      exact cj_retz () X hr V (by decide) (by first | exact Or.inl ⟨rfl, cj_ixt ‹_› ‹_› (by omega)⟩ | exact Or.inr ⟨rfl, cj_ixf0 ‹_› (by omega)⟩ | exact Or.inr ⟨rfl, cj_ixf1 ‹_› (by omega)⟩) dC_isRun_17
    ·
      refine lv_iconst (v := nI 1) hx hb dC_isRun_12 (by decide) ?_
      refine lv_goto (tgt := 17) hx hb dC_isRun_13 (by decide) ?_
      exact cj_retz () X hr V (by decide) (by first | exact Or.inl ⟨rfl, cj_ixt ‹_› ‹_› (by omega)⟩ | exact Or.inr ⟨rfl, cj_ixf0 ‹_› (by omega)⟩ | exact Or.inr ⟨rfl, cj_ixf1 ‹_› (by omega)⟩) dC_isRun_17
set_option maxRecDepth 100000 in
set_option maxHeartbeats 4000000 in
theorem c_C_isOwner (l : Launch) (D : va_G) (kd : Nat → ClassId) (ad : Nat → Nat) {E : Nat} {n : Nat → Nat} {cl : Nat → Bool} {con : Nat → Nat → Int32} {ow : Nat → Nat → Int64} {rn : Nat} {ed : Nat → Nat} {co : Nat → Nat} {hz : Nat → Int64} {mp : Nat → Nat → Nat} {pr : Nat → Int32} {cn : Nat} {hs : Nat → Int64} {wg : Nat → Int64} {rs : Nat → Int64} {ch : Int32}  (x : Int32) : cj_Mi (S := Unit) l yC_isOwner cC_isOwner 1 (some .boolean) 0 D kd [.int x] (wC kd ad E n cl con ow rn ed co hz mp pr cn hs wg rs ch) (fun r _ => (r = nI 1 ∧ cj_in x 4) ∨ (r = nI 0 ∧ ¬ cj_in x 4)) (fun _ => wC kd ad E n cl con ow rn ed co hz mp pr cn hs wg rs ch) := by
  refine cj_ofi (by decide) (Nat.le_of_ble_eq_true rfl) ?_
  intro p e s m below meth c A ls X hr V hl
  obtain ⟨⟨hx, hb, hml, hown, hts⟩, hK, hlk⟩ := id X
  have hl : lv_has ls 1 [(0, .int x)] := hl
  refine lv_iload_n hx hb dC_isOwner_0 rfl (lv_at hl 0 rfl) ?_
  refine lv_if_lt (tgt := 13) hx hb dC_isOwner_1 (by decide) (fun c_1 => ?_) (fun c_1 => ?_)
  ·
    refine lv_iconst (v := nI 0) hx hb dC_isOwner_13 (by decide) ?_
    exact cj_retz () X hr V (by decide) (by first | exact Or.inl ⟨rfl, cj_ixt ‹_› ‹_› (by omega)⟩ | exact Or.inr ⟨rfl, cj_ixf0 ‹_› (by omega)⟩ | exact Or.inr ⟨rfl, cj_ixf1 ‹_› (by omega)⟩) dC_isOwner_14
  ·
    refine lv_iload_n hx hb dC_isOwner_4 rfl (lv_at hl 0 rfl) ?_
    refine lv_iconst (v := nI 4) hx hb dC_isOwner_5 (by decide) ?_
    refine lv_icmp_ge (tgt := 13) hx hb dC_isOwner_6 (by decide) (fun c_2 => ?_) (fun c_2 => ?_)
    ·
      refine lv_iconst (v := nI 0) hx hb dC_isOwner_13 (by decide) ?_
      exact cj_retz () X hr V (by decide) (by first | exact Or.inl ⟨rfl, cj_ixt ‹_› ‹_› (by omega)⟩ | exact Or.inr ⟨rfl, cj_ixf0 ‹_› (by omega)⟩ | exact Or.inr ⟨rfl, cj_ixf1 ‹_› (by omega)⟩) dC_isOwner_14
    ·
      refine lv_iconst (v := nI 1) hx hb dC_isOwner_9 (by decide) ?_
      refine lv_goto (tgt := 14) hx hb dC_isOwner_10 (by decide) ?_
      exact cj_retz () X hr V (by decide) (by first | exact Or.inl ⟨rfl, cj_ixt ‹_› ‹_› (by omega)⟩ | exact Or.inr ⟨rfl, cj_ixf0 ‹_› (by omega)⟩ | exact Or.inr ⟨rfl, cj_ixf1 ‹_› (by omega)⟩) dC_isOwner_14
set_option maxRecDepth 100000 in
set_option maxHeartbeats 4000000 in
theorem c_C_isLine (l : Launch) (D : va_G) (kd : Nat → ClassId) (ad : Nat → Nat) {E : Nat} {n : Nat → Nat} {cl : Nat → Bool} {con : Nat → Nat → Int32} {ow : Nat → Nat → Int64} {rn : Nat} {ed : Nat → Nat} {co : Nat → Nat} {hz : Nat → Int64} {mp : Nat → Nat → Nat} {pr : Nat → Int32} {cn : Nat} {hs : Nat → Int64} {wg : Nat → Int64} {rs : Nat → Int64} {ch : Int32}  (j : Nat) (hj : j < 8) (hn : n j ≤ 40) (x : Int32) : cj_Mi (S := Unit) l yC_isLine cC_isLine 3 (some .boolean) 0 D kd [.ref (ad 0), .int (nI j), .int x] (wC kd ad E n cl con ow rn ed co hz mp pr cn hs wg rs ch) (fun r _ => (r = nI 1 ∧ cj_in x (n j)) ∨ (r = nI 0 ∧ ¬ cj_in x (n j))) (fun _ => wC kd ad E n cl con ow rn ed co hz mp pr cn hs wg rs ch) := by
  refine cj_ofi (by decide) (Nat.le_of_ble_eq_true rfl) ?_
  intro p e s m below meth c A ls X hr V hl
  obtain ⟨⟨hx, hb, hml, hown, hts⟩, hK, hlk⟩ := id X
  have hl : lv_has ls 3 [(0, .ref (ad 0)), (1, .int (nI j)), (2, .int x)] := hl
  refine lv_iload_n hx hb dC_isLine_0 rfl (lv_at hl 2 rfl) ?_
  refine lv_if_lt (tgt := 18) hx hb dC_isLine_1 (by decide) (fun c_1 => ?_) (fun c_1 => ?_)
  ·
    refine lv_iconst (v := nI 0) hx hb dC_isLine_18 (by decide) ?_
    exact cj_retz () X hr V (by decide) (by first | exact Or.inl ⟨rfl, cj_ixt ‹_› ‹_› (by omega)⟩ | exact Or.inr ⟨rfl, cj_ixf0 ‹_› (by omega)⟩ | exact Or.inr ⟨rfl, cj_ixf1 ‹_› (by omega)⟩) dC_isLine_19
  ·
    refine lv_iload_n hx hb dC_isLine_4 rfl (lv_at hl 2 rfl) ?_
    refine lv_aload_n hx hb dC_isLine_5 rfl (lv_at hl 0 rfl) ?_
    refine gC 1 X V fl_C_13 (by decide) rfl dC_isLine_6 ?_
    refine lv_iload_n hx hb dC_isLine_9 rfl (lv_at hl 1 rfl) ?_
    refine rC_n X V (by omega) dC_isLine_10 ?_
    refine lv_icmp_ge (tgt := 18) hx hb dC_isLine_11 (by decide) (fun c_2 => ?_) (fun c_2 => ?_)
    ·
      refine lv_iconst (v := nI 0) hx hb dC_isLine_18 (by decide) ?_
      exact cj_retz () X hr V (by decide) (by first | exact Or.inl ⟨rfl, cj_ixt ‹_› ‹_› (by omega)⟩ | exact Or.inr ⟨rfl, cj_ixf0 ‹_› (by omega)⟩ | exact Or.inr ⟨rfl, cj_ixf1 ‹_› (by omega)⟩) dC_isLine_19
    ·
      refine lv_iconst (v := nI 1) hx hb dC_isLine_14 (by decide) ?_
      refine lv_goto (tgt := 19) hx hb dC_isLine_15 (by decide) ?_
      exact cj_retz () X hr V (by decide) (by first | exact Or.inl ⟨rfl, cj_ixt ‹_› ‹_› (by omega)⟩ | exact Or.inr ⟨rfl, cj_ixf0 ‹_› (by omega)⟩ | exact Or.inr ⟨rfl, cj_ixf1 ‹_› (by omega)⟩) dC_isLine_19
set_option maxRecDepth 100000 in
set_option maxHeartbeats 4000000 in
theorem c_C_bitOf (l : Launch) (D : va_G) (kd : Nat → ClassId) (ad : Nat → Nat) {E : Nat} {n : Nat → Nat} {cl : Nat → Bool} {con : Nat → Nat → Int32} {ow : Nat → Nat → Int64} {rn : Nat} {ed : Nat → Nat} {co : Nat → Nat} {hz : Nat → Int64} {mp : Nat → Nat → Nat} {pr : Nat → Int32} {cn : Nat} {hs : Nat → Int64} {wg : Nat → Int64} {rs : Nat → Int64} {ch : Int32}  (j : Nat) (hj : j < 64) : cj_Ml (S := Unit) l yC_bitOf cC_bitOf 1 (some .long) 0 D kd [.int (nI j)] (wC kd ad E n cl con ow rn ed co hz mp pr cn hs wg rs ch) (fun r _ => r = cj_bit j) (fun _ => wC kd ad E n cl con ow rn ed co hz mp pr cn hs wg rs ch) := by
  refine cj_ofl (by decide) (Nat.le_of_ble_eq_true rfl) ?_
  intro p e s m below meth c A ls X hr V hl
  obtain ⟨⟨hx, hb, hml, hown, hts⟩, hK, hlk⟩ := id X
  have hl : lv_has ls 1 [(0, .int (nI j))] := hl
  refine lv_lconst (v := lN 1) hx hb dC_bitOf_0 (by decide) ?_
  refine lv_iload_n hx hb dC_bitOf_1 rfl (lv_at hl 0 rfl) ?_
  refine lv_lshl hx hb dC_bitOf_2 (cj_shl1 (by omega)) ?_
  exact cj_retl () X hr V rfl dC_bitOf_3
set_option maxRecDepth 100000 in
set_option maxHeartbeats 4000000 in
theorem c_C_firstBits (l : Launch) (D : va_G) (kd : Nat → ClassId) (ad : Nat → Nat) {E : Nat} {n : Nat → Nat} {cl : Nat → Bool} {con : Nat → Nat → Int32} {ow : Nat → Nat → Int64} {rn : Nat} {ed : Nat → Nat} {co : Nat → Nat} {hz : Nat → Int64} {mp : Nat → Nat → Nat} {pr : Nat → Int32} {cn : Nat} {hs : Nat → Int64} {wg : Nat → Int64} {rs : Nat → Int64} {ch : Int32}  (j : Nat) (hj : j < 64) : cj_Ml (S := Unit) l yC_firstBits cC_firstBits 1 (some .long) 0 D kd [.int (nI j)] (wC kd ad E n cl con ow rn ed co hz mp pr cn hs wg rs ch) (fun r _ => r = cj_bit j - lN 1) (fun _ => wC kd ad E n cl con ow rn ed co hz mp pr cn hs wg rs ch) := by
  refine cj_ofl (by decide) (Nat.le_of_ble_eq_true rfl) ?_
  intro p e s m below meth c A ls X hr V hl
  obtain ⟨⟨hx, hb, hml, hown, hts⟩, hK, hlk⟩ := id X
  have hl : lv_has ls 1 [(0, .int (nI j))] := hl
  refine lv_lconst (v := lN 1) hx hb dC_firstBits_0 (by decide) ?_
  refine lv_iload_n hx hb dC_firstBits_1 rfl (lv_at hl 0 rfl) ?_
  refine lv_lshl hx hb dC_firstBits_2 (cj_shl1 (by omega)) ?_
  refine lv_lconst (v := lN 1) hx hb dC_firstBits_3 (by decide) ?_
  refine lv_lsub hx hb dC_firstBits_4 ?_
  exact cj_retl () X hr V rfl dC_firstBits_5
end
section
-- Long.bitCount counts the bits
def cj_tb (x : Int64) (i : Nat) : Bool := x.toBitVec.getLsbD i
def cj_pop (x : Int64) : Nat := cj_cnt (cj_tb x) 64
theorem cj_tb_lN (N i : Nat) : cj_tb (lN N) i = (decide (i < 64) && N.testBit i) := by
  show (BitVec.ofNat 64 N).getLsbD i = _
  rw [BitVec.getLsbD_ofNat]
theorem cj_pop_lN {N : Nat} : cj_pop (lN N) = cj_cnt N.testBit 64 := cj_cnt_congr (fun i hi => by rw [cj_tb_lN]; simp [hi])
theorem cj_shrN {n : Nat} (k c : Nat) (hn : n < 2 ^ 64) (hk : k < 64) (hc : 2 ^ k = c) : ((lN n).toUInt64 >>> ((nI k).toInt64.toUInt64 &&& Int64.toUInt64 63)).toInt64 = lN (n / c) := by
  rw [← hc]
  exact wb_shr hn hk
theorem cj_last7 (t : Nat) : (lN t).toInt32 &&& nI 127 = nI (t % 128) := by
  rw [lN_i, pk_and (nI t) 7 (by decide)]
  have : (nI t).toBitVec.toNat = t % 2 ^ 32 := by
    show (BitVec.ofNat 32 t).toNat = _
    rw [BitVec.toNat_ofNat]
  rw [this]
  congr 1
  omega
theorem cj_s1le (n m : Nat) : cj_s1 n m ≤ n := Nat.sub_le _ _
theorem cj_s2le (n m : Nat) : cj_s2 n m ≤ m + m := Nat.add_le_add Nat.and_le_right Nat.and_le_right
theorem cj_s3le (n m : Nat) : cj_s3 n m ≤ m := Nat.and_le_right
set_option maxRecDepth 100000 in
set_option maxHeartbeats 4000000 in
theorem c_J_bitCount (l : Launch) (D : va_G) (kd : Nat → ClassId) (w0 : va_W) (x : Int64) : cj_Mi (S := Unit) l yJ_bitCount cJ_bitCount 2 (some .int) 0 D kd [.long x] w0 (fun r _ => r = nI (cj_pop x)) (fun _ => w0) := by
  refine cj_ofi (by decide) (Nat.le_of_ble_eq_true rfl) ?_
  intro p e s m below meth c A ls X hr V hl
  obtain ⟨⟨hx, hb, hml, hown, hts⟩, hK, hlk⟩ := id X
  have hl : lv_has ls 2 [(0, .long x)] := hl
  obtain ⟨N, hN, rfl⟩ := wb_of x
  refine lv_lload_n hx hb dJ_bitCount_0 rfl (lv_at hl 0 rfl) ?_
  refine lv_lload_n hx hb dJ_bitCount_1 rfl (lv_at hl 0 rfl) ?_
  refine lv_iconst (v := nI 1) hx hb dJ_bitCount_2 (by decide) ?_
  refine lv_lushr hx hb dJ_bitCount_3 (cj_shrN 1 2 hN (by decide) rfl) ?_
  refine lv_ldc2 hx hb hown (hts _ kl_J_314) dJ_bitCount_4 ?_
  refine cj_tl (z := lN 0x5555555555555555) (by decide) ?_
  refine lv_land hx hb dJ_bitCount_7 ?_
  refine cj_tl (wb_and (by omega) (by decide)) ?_
  refine lv_lsub hx hb dJ_bitCount_8 ?_
  refine cj_tl (z := lN (cj_s1 N 0x5555555555555555)) (lN_sub (Nat.le_trans Nat.and_le_left (Nat.div_le_self _ _))) ?_
  have h1 : cj_s1 N 0x5555555555555555 < 2 ^ 64 := Nat.lt_of_le_of_lt (cj_s1le _ _) hN
  generalize e1 : cj_s1 N 0x5555555555555555 = v1 at h1 ⊢
  refine lv_lstore_n (lv' := [(0, .long (lN v1))]) hx hb dJ_bitCount_9 rfl hl (by decide) rfl (fun ls hl => ?_)
  refine lv_lload_n hx hb dJ_bitCount_10 rfl (lv_at hl 0 rfl) ?_
  refine lv_ldc2 hx hb hown (hts _ kl_J_316) dJ_bitCount_11 ?_
  refine cj_tl (z := lN 0x3333333333333333) (by decide) ?_
  refine lv_land hx hb dJ_bitCount_14 ?_
  refine cj_tl (wb_and h1 (by decide)) ?_
  refine lv_lload_n hx hb dJ_bitCount_15 rfl (lv_at hl 0 rfl) ?_
  refine lv_iconst (v := nI 2) hx hb dJ_bitCount_16 (by decide) ?_
  refine lv_lushr hx hb dJ_bitCount_17 (cj_shrN 2 4 h1 (by decide) rfl) ?_
  refine lv_ldc2 hx hb hown (hts _ kl_J_316) dJ_bitCount_18 ?_
  refine cj_tl (z := lN 0x3333333333333333) (by decide) ?_
  refine lv_land hx hb dJ_bitCount_21 ?_
  refine cj_tl (wb_and (by omega) (by decide)) ?_
  refine lv_ladd hx hb dJ_bitCount_22 ?_
  refine cj_tl (z := lN (cj_s2 v1 0x3333333333333333)) (lN_add _ _) ?_
  have h2 : cj_s2 v1 0x3333333333333333 ≤ 0x6666666666666666 := cj_s2le _ _
  generalize e2 : cj_s2 v1 0x3333333333333333 = v2 at h2 ⊢
  refine lv_lstore_n (lv' := [(0, .long (lN v2))]) hx hb dJ_bitCount_23 rfl hl (by decide) rfl (fun ls hl => ?_)
  refine lv_lload_n hx hb dJ_bitCount_24 rfl (lv_at hl 0 rfl) ?_
  refine lv_lload_n hx hb dJ_bitCount_25 rfl (lv_at hl 0 rfl) ?_
  refine lv_iconst (v := nI 4) hx hb dJ_bitCount_26 (by decide) ?_
  refine lv_lushr hx hb dJ_bitCount_27 (cj_shrN 4 16 (by omega) (by decide) rfl) ?_
  refine lv_ladd hx hb dJ_bitCount_28 ?_
  refine cj_tl (lN_add _ _) ?_
  refine lv_ldc2 hx hb hown (hts _ kl_J_318) dJ_bitCount_29 ?_
  refine cj_tl (z := lN 0x0f0f0f0f0f0f0f0f) (by decide) ?_
  refine lv_land hx hb dJ_bitCount_32 ?_
  refine cj_tl (z := lN (cj_s3 v2 0x0f0f0f0f0f0f0f0f)) (wb_and (by omega) (by decide)) ?_
  have h3 : cj_s3 v2 0x0f0f0f0f0f0f0f0f ≤ 0x0f0f0f0f0f0f0f0f := cj_s3le _ _
  generalize e3 : cj_s3 v2 0x0f0f0f0f0f0f0f0f = v3 at h3 ⊢
  refine lv_lstore_n (lv' := [(0, .long (lN v3))]) hx hb dJ_bitCount_33 rfl hl (by decide) rfl (fun ls hl => ?_)
  refine lv_lload_n hx hb dJ_bitCount_34 rfl (lv_at hl 0 rfl) ?_
  refine lv_lload_n hx hb dJ_bitCount_35 rfl (lv_at hl 0 rfl) ?_
  refine lv_bipush (v := nI 8) hx hb dJ_bitCount_36 (by decide) ?_
  refine lv_lushr hx hb dJ_bitCount_38 (cj_shrN 8 256 (by omega) (by decide) rfl) ?_
  refine lv_ladd hx hb dJ_bitCount_39 ?_
  refine cj_tl (lN_add _ _) ?_
  generalize e4 : v3 + v3 / 256 = v4
  refine lv_lstore_n (lv' := [(0, .long (lN v4))]) hx hb dJ_bitCount_40 rfl hl (by decide) rfl (fun ls hl => ?_)
  refine lv_lload_n hx hb dJ_bitCount_41 rfl (lv_at hl 0 rfl) ?_
  refine lv_lload_n hx hb dJ_bitCount_42 rfl (lv_at hl 0 rfl) ?_
  refine lv_bipush (v := nI 16) hx hb dJ_bitCount_43 (by decide) ?_
  refine lv_lushr hx hb dJ_bitCount_45 (cj_shrN 16 65536 (by omega) (by decide) rfl) ?_
  refine lv_ladd hx hb dJ_bitCount_46 ?_
  refine cj_tl (lN_add _ _) ?_
  generalize e5 : v4 + v4 / 65536 = v5
  refine lv_lstore_n (lv' := [(0, .long (lN v5))]) hx hb dJ_bitCount_47 rfl hl (by decide) rfl (fun ls hl => ?_)
  refine lv_lload_n hx hb dJ_bitCount_48 rfl (lv_at hl 0 rfl) ?_
  refine lv_lload_n hx hb dJ_bitCount_49 rfl (lv_at hl 0 rfl) ?_
  refine lv_bipush (v := nI 32) hx hb dJ_bitCount_50 (by decide) ?_
  refine lv_lushr hx hb dJ_bitCount_52 (cj_shrN 32 4294967296 (by omega) (by decide) rfl) ?_
  refine lv_ladd hx hb dJ_bitCount_53 ?_
  refine cj_tl (lN_add _ _) ?_
  generalize e6 : v5 + v5 / 4294967296 = v6
  refine lv_lstore_n (lv' := [(0, .long (lN v6))]) hx hb dJ_bitCount_54 rfl hl (by decide) rfl (fun ls hl => ?_)
  refine lv_lload_n hx hb dJ_bitCount_55 rfl (lv_at hl 0 rfl) ?_
  refine lv_l2i hx hb dJ_bitCount_56 rfl ?_
  refine lv_bipush (v := nI 127) hx hb dJ_bitCount_57 (by decide) ?_
  refine lv_iand hx hb dJ_bitCount_59 ?_
  refine cj_ti (cj_last7 _) ?_
  refine cj_reti () X hr V ?_ dJ_bitCount_60
  show nI (v6 % 128) = nI (cj_pop (lN N))
  rw [cj_pop_lN, ← (cj_swar N hN).1]
  unfold cj_all cj_fold
  rw [e1, e2, e3]
  dsimp only
  rw [e4, e5, e6]
end
section
-- WHAT THE CALLS ANSWER, as functions of the state that class and reference share
/-- x as one of the first k numbers -/
def cj_ix (x : Int32) (k : Nat) : Option Nat := if x.toNatClampNeg < k ∧ x = nI x.toNatClampNeg then some x.toNatClampNeg else none
theorem cj_ix_t {j k : Nat} (hj : j < k) (hk : k < 2 ^ 31) : cj_ix (nI j) k = some j := by
  unfold cj_ix
  rw [nI_clamp (Nat.lt_trans hj hk), if_pos ⟨hj, rfl⟩]
theorem cj_ix_f {x : Int32} {k : Nat} (h : ¬ cj_in x k) : cj_ix x k = none := if_neg (fun ⟨a, b⟩ => h ⟨_, a, b⟩)
theorem cj_ix_lt {x : Int32} {k j : Nat} (h : cj_ix x k = some j) : j < k := by
  unfold cj_ix at h
  split at h
  · rename_i hc
    cases h
    exact hc.1
  · cases h
def f_lines (E : Nat) (n : Nat → Nat) (x : Int32) : Int32 := match cj_ix x E with
  | none => -1
  | some j => nI (n j)
def f_covered (rn : Nat) (n ed : Nat → Nat) (hz : Nat → Int64) (x y : Int32) : Int32 := match cj_ix x rn with
  | none => nI 0
  | some j => match cj_ix y (n (ed j)) with
    | none => nI 0
    | some i => bI (cj_tb (hz j) i)
def o_hit (rn : Nat) (n ed : Nat → Nat) (hz : Nat → Int64) (x y : Int32) : Option (Nat × Nat) := match cj_ix x rn with
  | none => none
  | some j => match cj_ix y (n (ed j)) with
    | none => none
    | some i => bif cj_tb (hz j) i then none else some (j, i)
def f_hit (o : Option (Nat × Nat)) : Int32 := match o with
  | none => nI 0
  | some _ => nI 1
def h_hit (hz : Nat → Int64) (o : Option (Nat × Nat)) : Nat → Int64 := match o with
  | none => hz
  | some (j, i) => va_up hz j (hz j ||| cj_bit i)
/-- a run that is to come: its edition, cost, lines -/
abbrev cj_new : Type := Option (Nat × Nat × Int64)
def f_add (rn : Nat) (o : cj_new) : Int32 := match o with
  | none => -1
  | some _ => nI rn
def a_rn (rn : Nat) (o : cj_new) : Nat := match o with
  | none => rn
  | some _ => rn + 1
def a_ed (rn : Nat) (ed : Nat → Nat) (o : cj_new) : Nat → Nat := match o with
  | none => ed
  | some (e, _, _) => va_up ed rn e
def a_co (rn : Nat) (co : Nat → Nat) (o : cj_new) : Nat → Nat := match o with
  | none => co
  | some (_, c, _) => va_up co rn c
def a_hz (rn : Nat) (hz : Nat → Int64) (o : cj_new) : Nat → Int64 := match o with
  | none => hz
  | some (_, _, h) => va_up hz rn h
def a_cl (cl : Nat → Bool) (o : cj_new) : Nat → Bool := match o with
  | none => cl
  | some (e, _, _) => va_up cl e true
def o_room (rn : Nat) (e c : Nat) (h : Int64) : cj_new := if rn < 14 then some (e, c, h) else none
def o_run (E rn : Nat) (x y : Int32) : cj_new := match cj_ix x E with
  | none => none
  | some e => match cj_ix y 100001 with
    | none => none
    | some c => o_room rn e c 0
def o_join (rn : Nat) (ed co : Nat → Nat) (hz : Nat → Int64) (x y : Int32) : cj_new := match cj_ix x rn with
  | none => none
  | some a => match cj_ix y rn with
    | none => none
    | some b => if ed a = ed b then o_room rn (ed a) (min (co a + co b) 100000) (hz a ||| hz b) else none
def f_about (rn : Nat) (ed co : Nat → Nat) (hz : Nat → Int64) (x y : Int32) : Int32 := match cj_ix x rn with
  | none => -1
  | some j => if y = nI 0 then nI (ed j) else if y = nI 1 then nI (co j) else if y = nI 2 then nI (cj_pop (hz j)) else -1
/-- a line that is to come: its edition and owner -/
def o_line (E : Nat) (n : Nat → Nat) (cl : Nat → Bool) (x z : Int32) : Option (Nat × Nat) := match cj_ix x E with
  | none => none
  | some e => match cj_ix z 4 with
    | none => none
    | some o => bif cl e then none else if n e < 40 then some (e, o) else none
def f_line (n : Nat → Nat) (o : Option (Nat × Nat)) : Int32 := match o with
  | none => -1
  | some (e, _) => nI (n e)
def l_n (n : Nat → Nat) (o : Option (Nat × Nat)) : Nat → Nat := match o with
  | none => n
  | some (e, _) => va_up n e (n e + 1)
def f_edition (E : Nat) : Int32 := if E < 8 then nI E else -1
def e_E (E : Nat) : Nat := if E < 8 then E + 1 else E
theorem cj_tb_0 (i : Nat) : cj_tb 0 i = false := by
  rw [show (0 : Int64) = lN 0 from rfl, cj_tb_lN]
  simp
theorem cj_and_bit {x : Int64} {i : Nat} (hi : i < 64) : (x &&& cj_bit i = 0) ↔ cj_tb x i = false := by
  have hb : ∀ k, k < 64 → cj_tb (cj_bit i) k = decide (k = i) := by
    intro k hk
    unfold cj_bit
    rw [cj_tb_lN, Nat.testBit_two_pow]
    simp [hk, eq_comm]
  constructor
  · intro h
    have h1 : cj_tb (x &&& cj_bit i) i = false := by rw [h, cj_tb_0]
    unfold cj_tb at h1
    rw [Int64.toBitVec_and, BitVec.getLsbD_and] at h1
    have h2 := hb i hi
    unfold cj_tb at h2
    rw [h2] at h1
    simpa [cj_tb] using h1
  · intro h
    apply wb_inj
    apply BitVec.eq_of_getLsbD_eq
    intro k hk
    rw [Int64.toBitVec_and, BitVec.getLsbD_and]
    have h2 := hb k hk
    unfold cj_tb at h2 h
    rw [h2]
    by_cases e : k = i
    · subst e
      rw [h]
      simp
    · simp [e]
theorem cj_ab_t {x : Int64} {i : Nat} (hi : i < 64) (h : ¬ (x &&& cj_bit i) = 0) : cj_tb x i = true := by
  cases hc : cj_tb x i with
  | true => rfl
  | false => exact absurd ((cj_and_bit hi).mpr hc) h
theorem cj_ab_f {x : Int64} {i : Nat} (hi : i < 64) (h : (x &&& cj_bit i) = 0) : cj_tb x i = false := (cj_and_bit hi).mp h
theorem cj_pop_le (x : Int64) : cj_pop x ≤ 64 := cj_cnt_le _ _
theorem cj_cost_t {y : Int32} (h0 : ¬ y < 0) (h1 : y ≤ nI 100000) : cj_in y 100001 := by
  refine cj_ixt h0 (fun h => ?_) (by decide)
  have h2 : nI 100001 ≤ nI 100000 := Int32.le_trans h h1
  exact absurd ((nI_leI (by decide) (by decide)).mp h2) (by decide)
theorem cj_cost_f {y : Int32} (h1 : ¬ y ≤ nI 100000) : ¬ cj_in y 100001 := fun ⟨j, hj, e⟩ => h1 (by rw [e]; exact (nI_leI (by omega) (by decide)).mpr (by omega))
theorem cj_sw3 {y : Int32} (h0 : ¬ y = nI 0) (h1 : ¬ y = nI 1) (h2 : ¬ y = nI 2) : y.toInt < 0 ∨ 2 < y.toInt := by
  rcases Int.lt_or_le y.toInt 0 with h | h
  · exact Or.inl h
  · rcases Int.lt_or_le 2 y.toInt with h3 | h3
    · exact Or.inr h3
    · exfalso
      rcases (show y.toInt = 0 ∨ y.toInt = 1 ∨ y.toInt = 2 by omega) with e | e | e
      · exact h0 (Int32.toInt_inj.mp (e.trans (by decide)))
      · exact h1 (Int32.toInt_inj.mp (e.trans (by decide)))
      · exact h2 (Int32.toInt_inj.mp (e.trans (by decide)))
def l_con (n : Nat → Nat) (con : Nat → Nat → Int32) (y : Int32) (o : Option (Nat × Nat)) : Nat → Nat → Int32 := match o with
  | none => con
  | some (e, _) => va_up con e (va_up (con e) (n e) y)
def l_ow (n : Nat → Nat) (ow : Nat → Nat → Int64) (g : Bool) (o : Option (Nat × Nat)) : Nat → Nat → Int64 := match o with
  | none => ow
  | some (e, o) => bif g then ow else va_up ow e (va_up (ow e) o (ow e o ||| cj_bit (n e)))
def f_shareC (rn : Nat) (ed : Nat → Nat) (ow : Nat → Nat → Int64) (hz : Nat → Int64) (x z : Int32) (b : Bool) : Int32 := match cj_ix x rn with
  | none => -1
  | some j => match cj_ix z 4 with
    | none => -1
    | some o => bif b then nI (cj_pop (ow (ed j) o &&& hz j)) else nI (cj_pop (ow (ed j) o))
def f_fallsC (rn : Nat) (ed : Nat → Nat) (ow : Nat → Nat → Int64) (hz : Nat → Int64) (x y z : Int32) : Int32 := match cj_ix x rn with
  | none => -2
  | some a => match cj_ix y rn with
    | none => -2
    | some b => match cj_ix z 4 with
      | none => -2
      | some o => if cj_pop (ow (ed a) o) = 0 then -1 else if cj_pop (ow (ed b) o) = 0 then -1 else
        if cj_pop (ow (ed a) o &&& hz a) * cj_pop (ow (ed b) o) < cj_pop (ow (ed b) o &&& hz b) * cj_pop (ow (ed a) o) then nI 1 else nI 0
end
section
set_option maxRecDepth 100000 in
set_option maxHeartbeats 4000000 in
theorem c_C_hitsLine (l : Launch) (D : va_G) (kd : Nat → ClassId) (ad : Nat → Nat) {E : Nat} {n : Nat → Nat} {cl : Nat → Bool} {con : Nat → Nat → Int32} {ow : Nat → Nat → Int64} {rn : Nat} {ed : Nat → Nat} {co : Nat → Nat} {hz : Nat → Int64} {mp : Nat → Nat → Nat} {pr : Nat → Int32} {cn : Nat} {hs : Nat → Int64} {wg : Nat → Int64} {rs : Nat → Int64} {ch : Int32} (j i : Nat) (hj : j < 14) (hi : i < 40) : cj_Mi (S := Unit) l yC_hitsLine cC_hitsLine 3 (some .boolean) 1 D kd [.ref (ad 0), .int (nI j), .int (nI i)] (wC kd ad E n cl con ow rn ed co hz mp pr cn hs wg rs ch) (fun r _ => r = bI (cj_tb (hz j) i)) (fun _ => wC kd ad E n cl con ow rn ed co hz mp pr cn hs wg rs ch) := by
  refine cj_ofi (by decide) (Nat.le_of_ble_eq_true rfl) ?_
  intro p e s m below meth c A ls X hr V hl
  obtain ⟨⟨hx, hb, hml, hown, hts⟩, hK, hlk⟩ := id X
  have hl : lv_has ls 3 [(0, .ref (ad 0)), (1, .int (nI j)), (2, .int (nI i))] := hl
  refine lv_aload_n hx hb dC_hitsLine_0 rfl (lv_at hl 0 rfl) ?_
  refine gC 8 X V fl_C_40 (by decide) rfl dC_hitsLine_1 ?_
  refine lv_iload_n hx hb dC_hitsLine_4 rfl (lv_at hl 1 rfl) ?_
  refine rC_hi X V (by omega) dC_hitsLine_5 ?_
  refine lv_iload_n hx hb dC_hitsLine_6 rfl (lv_at hl 2 rfl) ?_
  refine cj_csl X V (c_C_bitOf l D kd ad i (by omega)) ml_C_67 st_C_bitOf in_C cd_C_bitOf hd_C_bitOf ⟨by decide, by decide⟩ ⟨Nat.le_refl _, Nat.le_refl _⟩ hl.1 rfl (Nat.le_of_ble_eq_true rfl) dC_hitsLine_7 (fun r_9 u_9 H locs hw V => ?_)
  obtain rfl := hw
  refine lv_land hx hb dC_hitsLine_10 ?_
  refine lv_lconst (v := 0) hx hb dC_hitsLine_11 (by decide) ?_
  refine cj_l_eq (tgt := 20) hx hb dC_hitsLine_12 dC_hitsLine_13 (by decide) (fun c_1 => ?_) (fun c_1 => ?_)
  ·
    refine lv_iconst (v := nI 0) hx hb dC_hitsLine_20 (by decide) ?_
    exact cj_retz () X hr V (by decide) (by first | (rw [cj_ab_t (by omega) ‹_›]; rfl) | (rw [cj_ab_f (by omega) ‹_›]; rfl)) dC_hitsLine_21
  ·
    refine lv_iconst (v := nI 1) hx hb dC_hitsLine_16 (by decide) ?_
    refine lv_goto (tgt := 21) hx hb dC_hitsLine_17 (by decide) ?_
    exact cj_retz () X hr V (by decide) (by first | (rw [cj_ab_t (by omega) ‹_›]; rfl) | (rw [cj_ab_f (by omega) ‹_›]; rfl)) dC_hitsLine_21
set_option maxRecDepth 100000 in
set_option maxHeartbeats 4000000 in
theorem c_C_lines (l : Launch) (D : va_G) (kd : Nat → ClassId) (ad : Nat → Nat) {E : Nat} {n : Nat → Nat} {cl : Nat → Bool} {con : Nat → Nat → Int32} {ow : Nat → Nat → Int64} {rn : Nat} {ed : Nat → Nat} {co : Nat → Nat} {hz : Nat → Int64} {mp : Nat → Nat → Nat} {pr : Nat → Int32} {cn : Nat} {hs : Nat → Int64} {wg : Nat → Int64} {rs : Nat → Int64} {ch : Int32} (hE : E ≤ 8) (hn : ∀ i, n i ≤ 40) (hR : rn ≤ 14) (hed : ∀ r, r < rn → ed r < E) (hco : ∀ r, co r ≤ 100000) (x : Int32) : cj_Mi (S := Unit) l yC_lines cC_lines 2 (some .int) 1 D kd [.ref (ad 0), .int x] (wC kd ad E n cl con ow rn ed co hz mp pr cn hs wg rs ch) (fun r _ => r = f_lines E n x) (fun _ => wC kd ad E n cl con ow rn ed co hz mp pr cn hs wg rs ch) := by
  refine cj_ofi (by decide) (Nat.le_of_ble_eq_true rfl) ?_
  intro p e s m below meth c A ls X hr V hl
  obtain ⟨⟨hx, hb, hml, hown, hts⟩, hK, hlk⟩ := id X
  have hl : lv_has ls 2 [(0, .ref (ad 0)), (1, .int x)] := hl
  refine lv_aload_n hx hb dC_lines_0 rfl (lv_at hl 0 rfl) ?_
  refine lv_iload_n hx hb dC_lines_1 rfl (lv_at hl 1 rfl) ?_
  refine cj_cvi X V (c_C_isEdition l D kd ad hE x) 0 1 rfl rfl rfl ml_C_60 im_C_isEdition se_C_isEdition in_C cd_C_isEdition hd_C_isEdition ⟨by decide, by decide⟩ ⟨Nat.le_refl _, Nat.le_refl _⟩ hl.1 rfl (Nat.le_of_ble_eq_true rfl) dC_lines_2 (fun r_9 u_9 H locs hw V => ?_)
  rcases hw with ⟨rfl, j_1, hj_1, rfl⟩ | ⟨rfl, hj_1⟩
  ·
    have ij_1 := cj_ix_t hj_1 (show E < 2 ^ 31 by omega)
    refine lv_if_eq (tgt := 17) hx hb dC_lines_5 (by decide) (fun h => absurd h (by decide)) (fun _ => ?_)
    refine lv_aload_n hx hb dC_lines_8 rfl (lv_at hl 0 rfl) ?_
    refine gC 1 X V fl_C_13 (by decide) rfl dC_lines_9 ?_
    refine lv_iload_n hx hb dC_lines_12 rfl (lv_at hl 1 rfl) ?_
    refine rC_n X V (by omega) dC_lines_13 ?_
    have f_e_3 := hn j_1
    refine lv_goto (tgt := 18) hx hb dC_lines_14 (by decide) ?_
    exact cj_reti () X hr V (by simp only [f_lines, ij_1]) dC_lines_18
  ·
    have ij_1 := cj_ix_f hj_1
    refine lv_if_eq (tgt := 17) hx hb dC_lines_5 (by decide) (fun _ => ?_) (fun h => absurd (by decide) h)
    refine lv_iconst (v := (-1)) hx hb dC_lines_17 (by decide) ?_
    exact cj_reti () X hr V (by simp only [f_lines, ij_1]) dC_lines_18
set_option maxRecDepth 100000 in
set_option maxHeartbeats 4000000 in
theorem c_C_edition (l : Launch) (D : va_G) (kd : Nat → ClassId) (ad : Nat → Nat) {E : Nat} {n : Nat → Nat} {cl : Nat → Bool} {con : Nat → Nat → Int32} {ow : Nat → Nat → Int64} {rn : Nat} {ed : Nat → Nat} {co : Nat → Nat} {hz : Nat → Int64} {mp : Nat → Nat → Nat} {pr : Nat → Int32} {cn : Nat} {hs : Nat → Int64} {wg : Nat → Int64} {rs : Nat → Int64} {ch : Int32} (hE : E ≤ 8) : cj_Mi (S := Nat) l yC_edition cC_edition 2 (some .int) 0 D kd [.ref (ad 0)] (wC kd ad E n cl con ow rn ed co hz mp pr cn hs wg rs ch) (fun r E' => r = f_edition E ∧ E' = e_E E) (fun E' => wC kd ad E' n cl con ow rn ed co hz mp pr cn hs wg rs ch) := by
  refine cj_ofi (by decide) (Nat.le_of_ble_eq_true rfl) ?_
  intro p e s m below meth c A ls X hr V hl
  obtain ⟨⟨hx, hb, hml, hown, hts⟩, hK, hlk⟩ := id X
  have hl : lv_has ls 2 [(0, .ref (ad 0))] := hl
  refine lv_aload_n hx hb dC_edition_0 rfl (lv_at hl 0 rfl) ?_
  refine gC 0 X V fl_C_9 (by decide) rfl dC_edition_1 ?_
  refine lv_bipush (v := nI 8) hx hb dC_edition_4 (by decide) ?_
  refine cj_n_lt (tgt := 11) hx hb dC_edition_6 (by decide) (by omega) (by omega) (fun c_1 => ?_) (fun c_1 => ?_)
  ·
    refine lv_aload_n hx hb dC_edition_11 rfl (lv_at hl 0 rfl) ?_
    refine gC 0 X V fl_C_9 (by decide) rfl dC_edition_12 ?_
    refine lv_istore_n (lv' := [(1, .int (nI E)), (0, .ref (ad 0))]) hx hb dC_edition_15 rfl hl (by decide) rfl (fun ls hl => ?_)
    refine lv_aload_n hx hb dC_edition_16 rfl (lv_at hl 1 rfl) ?_
    refine lv_iload_n hx hb dC_edition_17 rfl (lv_at hl 0 rfl) ?_
    refine lv_iconst (v := nI 1) hx hb dC_edition_18 (by decide) ?_
    refine cj_iaddN hx hb dC_edition_19 ?_
    refine pC_E X V fl_C_9 dC_edition_20 (fun H locs V => ?_)
    refine lv_iload_n hx hb dC_edition_23 rfl (lv_at hl 0 rfl) ?_
    exact cj_reti (E + 1) X hr V (by unfold f_edition e_E; first | (rw [if_pos (by omega), if_pos (by omega)]; exact ⟨rfl, rfl⟩) | (rw [if_neg (by omega), if_neg (by omega)]; exact ⟨rfl, rfl⟩)) dC_edition_24
  ·
    refine lv_iconst (v := (-1)) hx hb dC_edition_9 (by decide) ?_
    exact cj_reti E X hr V (by unfold f_edition e_E; first | (rw [if_pos (by omega), if_pos (by omega)]; exact ⟨rfl, rfl⟩) | (rw [if_neg (by omega), if_neg (by omega)]; exact ⟨rfl, rfl⟩)) dC_edition_10
set_option maxRecDepth 100000 in
set_option maxHeartbeats 4000000 in
theorem c_C_covered (l : Launch) (D : va_G) (kd : Nat → ClassId) (ad : Nat → Nat) {E : Nat} {n : Nat → Nat} {cl : Nat → Bool} {con : Nat → Nat → Int32} {ow : Nat → Nat → Int64} {rn : Nat} {ed : Nat → Nat} {co : Nat → Nat} {hz : Nat → Int64} {mp : Nat → Nat → Nat} {pr : Nat → Int32} {cn : Nat} {hs : Nat → Int64} {wg : Nat → Int64} {rs : Nat → Int64} {ch : Int32} (hE : E ≤ 8) (hn : ∀ i, n i ≤ 40) (hR : rn ≤ 14) (hed : ∀ r, r < rn → ed r < E) (hco : ∀ r, co r ≤ 100000) (x y : Int32) : cj_Mi (S := Unit) l yC_covered cC_covered 3 (some .boolean) 2 D kd [.ref (ad 0), .int x, .int y] (wC kd ad E n cl con ow rn ed co hz mp pr cn hs wg rs ch) (fun r _ => r = f_covered rn n ed hz x y) (fun _ => wC kd ad E n cl con ow rn ed co hz mp pr cn hs wg rs ch) := by
  refine cj_ofi (by decide) (Nat.le_of_ble_eq_true rfl) ?_
  intro p e s m below meth c A ls X hr V hl
  obtain ⟨⟨hx, hb, hml, hown, hts⟩, hK, hlk⟩ := id X
  have hl : lv_has ls 3 [(0, .ref (ad 0)), (1, .int x), (2, .int y)] := hl
  refine lv_aload_n hx hb dC_covered_0 rfl (lv_at hl 0 rfl) ?_
  refine lv_iload_n hx hb dC_covered_1 rfl (lv_at hl 1 rfl) ?_
  refine cj_cvi X V (c_C_isRun l D kd ad hR x) 0 1 rfl rfl rfl ml_C_76 im_C_isRun se_C_isRun in_C cd_C_isRun hd_C_isRun ⟨by decide, by decide⟩ ⟨Nat.le_refl _, Nat.le_refl _⟩ hl.1 rfl (Nat.le_of_ble_eq_true rfl) dC_covered_2 (fun r_9 u_9 H locs hw V => ?_)
  rcases hw with ⟨rfl, j_1, hj_1, rfl⟩ | ⟨rfl, hj_1⟩
  ·
    have ij_1 := cj_ix_t hj_1 (show rn < 2 ^ 31 by omega)
    refine lv_if_eq (tgt := 35) hx hb dC_covered_5 (by decide) (fun h => absurd h (by decide)) (fun _ => ?_)
    refine lv_aload_n hx hb dC_covered_8 rfl (lv_at hl 0 rfl) ?_
    refine lv_aload_n hx hb dC_covered_9 rfl (lv_at hl 0 rfl) ?_
    refine gC 6 X V fl_C_34 (by decide) rfl dC_covered_10 ?_
    refine lv_iload_n hx hb dC_covered_13 rfl (lv_at hl 1 rfl) ?_
    refine rC_ed X V (by omega) dC_covered_14 ?_
    have f_e_3 := hed j_1 (by omega)
    refine lv_iload_n hx hb dC_covered_15 rfl (lv_at hl 2 rfl) ?_
    refine cj_cvi X V (c_C_isLine l D kd ad (ed j_1) (by omega) (hn _) y) 0 1 rfl rfl rfl ml_C_79 im_C_isLine se_C_isLine in_C cd_C_isLine hd_C_isLine ⟨by decide, by decide⟩ ⟨Nat.le_refl _, Nat.le_refl _⟩ hl.1 rfl (Nat.le_of_ble_eq_true rfl) dC_covered_16 (fun r_9 u_9 H locs hw V => ?_)
    rcases hw with ⟨rfl, j_4, hj_4, rfl⟩ | ⟨rfl, hj_4⟩
    ·
      have fj_4 := hn (ed j_1)
      have ij_4 := cj_ix_t hj_4 (show n (ed j_1) < 2 ^ 31 by omega)
      refine lv_if_eq (tgt := 35) hx hb dC_covered_19 (by decide) (fun h => absurd h (by decide)) (fun _ => ?_)
      refine lv_aload_n hx hb dC_covered_22 rfl (lv_at hl 0 rfl) ?_
      refine lv_iload_n hx hb dC_covered_23 rfl (lv_at hl 1 rfl) ?_
      refine lv_iload_n hx hb dC_covered_24 rfl (lv_at hl 2 rfl) ?_
      refine cj_cvi X V (c_C_hitsLine l D kd ad j_1 j_4 (by omega) (by omega)) 0 1 rfl rfl rfl ml_C_83 im_C_hitsLine se_C_hitsLine in_C cd_C_hitsLine hd_C_hitsLine ⟨by decide, by decide⟩ ⟨Nat.le_refl _, Nat.le_refl _⟩ hl.1 rfl (Nat.le_of_ble_eq_true rfl) dC_covered_25 (fun r_9 u_9 H locs hw V => ?_)
      obtain rfl := hw
      refine cj_b_eq (tgt := 35) hx hb dC_covered_28 (by decide) (fun c_6 => ?_) (fun c_6 => ?_)
      ·
        refine lv_iconst (v := nI 0) hx hb dC_covered_35 (by decide) ?_
        exact cj_retz () X hr V (by decide) (by simp only [f_covered, ij_1, ij_4, c_6]; try rfl) dC_covered_36
      ·
        refine lv_iconst (v := nI 1) hx hb dC_covered_31 (by decide) ?_
        refine lv_goto (tgt := 36) hx hb dC_covered_32 (by decide) ?_
        exact cj_retz () X hr V (by decide) (by simp only [f_covered, ij_1, ij_4, c_6]; try rfl) dC_covered_36
    ·
      have ij_4 := cj_ix_f hj_4
      refine lv_if_eq (tgt := 35) hx hb dC_covered_19 (by decide) (fun _ => ?_) (fun h => absurd (by decide) h)
      refine lv_iconst (v := nI 0) hx hb dC_covered_35 (by decide) ?_
      exact cj_retz () X hr V (by decide) (by simp only [f_covered, ij_1, ij_4]; try rfl) dC_covered_36
  ·
    have ij_1 := cj_ix_f hj_1
    refine lv_if_eq (tgt := 35) hx hb dC_covered_5 (by decide) (fun _ => ?_) (fun h => absurd (by decide) h)
    refine lv_iconst (v := nI 0) hx hb dC_covered_35 (by decide) ?_
    exact cj_retz () X hr V (by decide) (by simp only [f_covered, ij_1]; try rfl) dC_covered_36
set_option maxRecDepth 100000 in
set_option maxHeartbeats 4000000 in
theorem c_C_chosen (l : Launch) (D : va_G) (kd : Nat → ClassId) (ad : Nat → Nat) {E : Nat} {n : Nat → Nat} {cl : Nat → Bool} {con : Nat → Nat → Int32} {ow : Nat → Nat → Int64} {rn : Nat} {ed : Nat → Nat} {co : Nat → Nat} {hz : Nat → Int64} {mp : Nat → Nat → Nat} {pr : Nat → Int32} {cn : Nat} {hs : Nat → Int64} {wg : Nat → Int64} {rs : Nat → Int64} {ch : Int32}  : cj_Mi (S := Unit) l yC_chosen cC_chosen 1 (some .int) 0 D kd [.ref (ad 0)] (wC kd ad E n cl con ow rn ed co hz mp pr cn hs wg rs ch) (fun r _ => r = ch) (fun _ => wC kd ad E n cl con ow rn ed co hz mp pr cn hs wg rs ch) := by
  refine cj_ofi (by decide) (Nat.le_of_ble_eq_true rfl) ?_
  intro p e s m below meth c A ls X hr V hl
  obtain ⟨⟨hx, hb, hml, hown, hts⟩, hK, hlk⟩ := id X
  have hl : lv_has ls 1 [(0, .ref (ad 0))] := hl
  refine lv_aload_n hx hb dC_chosen_0 rfl (lv_at hl 0 rfl) ?_
  refine gC 12 X V fl_C_57 (by decide) rfl dC_chosen_1 ?_
  exact cj_reti () X hr V rfl dC_chosen_4
set_option maxRecDepth 100000 in
set_option maxHeartbeats 4000000 in
theorem c_C_addRun (l : Launch) (D : va_G) (kd : Nat → ClassId) (ad : Nat → Nat) {E : Nat} {n : Nat → Nat} {cl : Nat → Bool} {con : Nat → Nat → Int32} {ow : Nat → Nat → Int64} {rn : Nat} {ed : Nat → Nat} {co : Nat → Nat} {hz : Nat → Int64} {mp : Nat → Nat → Nat} {pr : Nat → Int32} {cn : Nat} {hs : Nat → Int64} {wg : Nat → Int64} {rs : Nat → Int64} {ch : Int32} (ea ca : Nat) (h : Int64) (hR : rn ≤ 14) (he : ea < 8) : cj_Mi (S := Nat × (Nat → Nat) × (Nat → Nat) × (Nat → Int64) × (Nat → Bool)) l yC_addRun cC_addRun 6 (some .int) 0 D kd [.ref (ad 0), .int (nI ea), .int (nI ca), .long h] (wC kd ad E n cl con ow rn ed co hz mp pr cn hs wg rs ch) (fun r u => r = f_add rn (o_room rn ea ca h) ∧ u = (a_rn rn (o_room rn ea ca h), a_ed rn ed (o_room rn ea ca h), a_co rn co (o_room rn ea ca h), a_hz rn hz (o_room rn ea ca h), a_cl cl (o_room rn ea ca h))) (fun u => wC kd ad E n u.2.2.2.2 con ow u.1 u.2.1 u.2.2.1 u.2.2.2.1 mp pr cn hs wg rs ch) := by
  refine cj_ofi (by decide) (Nat.le_of_ble_eq_true rfl) ?_
  intro p e s m below meth c A ls X hr V hl
  obtain ⟨⟨hx, hb, hml, hown, hts⟩, hK, hlk⟩ := id X
  have hl : lv_has ls 6 [(0, .ref (ad 0)), (1, .int (nI ea)), (2, .int (nI ca)), (3, .long h)] := hl
  refine lv_aload_n hx hb dC_addRun_0 rfl (lv_at hl 0 rfl) ?_
  refine gC 5 X V fl_C_31 (by decide) rfl dC_addRun_1 ?_
  refine lv_bipush (v := nI 14) hx hb dC_addRun_4 (by decide) ?_
  refine cj_n_lt (tgt := 11) hx hb dC_addRun_6 (by decide) (by omega) (by omega) (fun c_1 => ?_) (fun c_1 => ?_)
  ·
    refine lv_aload_n hx hb dC_addRun_11 rfl (lv_at hl 0 rfl) ?_
    refine gC 5 X V fl_C_31 (by decide) rfl dC_addRun_12 ?_
    refine lv_istore (lv' := [(5, .int (nI rn)), (0, .ref (ad 0)), (1, .int (nI ea)), (2, .int (nI ca)), (3, .long h)]) hx hb dC_addRun_15 hl (by decide) rfl (fun ls hl => ?_)
    refine lv_aload_n hx hb dC_addRun_17 rfl (lv_at hl 1 rfl) ?_
    refine gC 6 X V fl_C_34 (by decide) rfl dC_addRun_18 ?_
    refine lv_iload hx hb dC_addRun_21 (lv_at hl 0 rfl) ?_
    refine lv_iload_n hx hb dC_addRun_23 rfl (lv_at hl 2 rfl) ?_
    refine sC_ed X V (by omega) dC_addRun_24 (fun H locs V => ?_)
    refine lv_aload_n hx hb dC_addRun_25 rfl (lv_at hl 1 rfl) ?_
    refine gC 7 X V fl_C_37 (by decide) rfl dC_addRun_26 ?_
    refine lv_iload hx hb dC_addRun_29 (lv_at hl 0 rfl) ?_
    refine lv_iload_n hx hb dC_addRun_31 rfl (lv_at hl 3 rfl) ?_
    refine sC_co X V (by omega) dC_addRun_32 (fun H locs V => ?_)
    refine lv_aload_n hx hb dC_addRun_33 rfl (lv_at hl 1 rfl) ?_
    refine gC 8 X V fl_C_40 (by decide) rfl dC_addRun_34 ?_
    refine lv_iload hx hb dC_addRun_37 (lv_at hl 0 rfl) ?_
    refine lv_lload_n hx hb dC_addRun_39 rfl (lv_at hl 4 rfl) ?_
    refine sC_hi X V (by omega) dC_addRun_40 (fun H locs V => ?_)
    refine lv_aload_n hx hb dC_addRun_41 rfl (lv_at hl 1 rfl) ?_
    refine lv_iload hx hb dC_addRun_42 (lv_at hl 0 rfl) ?_
    refine lv_iconst (v := nI 1) hx hb dC_addRun_44 (by decide) ?_
    refine cj_iaddN hx hb dC_addRun_45 ?_
    refine pC_rn X V fl_C_31 dC_addRun_46 (fun H locs V => ?_)
    refine lv_aload_n hx hb dC_addRun_49 rfl (lv_at hl 1 rfl) ?_
    refine gC 2 X V fl_C_17 (by decide) rfl dC_addRun_50 ?_
    refine lv_iload_n hx hb dC_addRun_53 rfl (lv_at hl 2 rfl) ?_
    refine lv_iconst (v := nI 1) hx hb dC_addRun_54 (by decide) ?_
    refine sC_cl (x := true) X V (by omega) dC_addRun_55 (fun H locs V => ?_)
    refine lv_iload hx hb dC_addRun_56 (lv_at hl 0 rfl) ?_
    exact cj_reti (rn + 1, va_up ed rn ea, va_up co rn ca, va_up hz rn h, va_up cl ea true) X hr V (by unfold o_room; first | (rw [if_pos (by omega)]; exact ⟨rfl, rfl⟩) | (rw [if_neg (by omega)]; exact ⟨rfl, rfl⟩)) dC_addRun_58
  ·
    refine lv_iconst (v := (-1)) hx hb dC_addRun_9 (by decide) ?_
    exact cj_reti (rn, ed, co, hz, cl) X hr V (by unfold o_room; first | (rw [if_pos (by omega)]; exact ⟨rfl, rfl⟩) | (rw [if_neg (by omega)]; exact ⟨rfl, rfl⟩)) dC_addRun_10
set_option maxRecDepth 100000 in
set_option maxHeartbeats 4000000 in
theorem c_C_wholeShare (l : Launch) (D : va_G) (kd : Nat → ClassId) (ad : Nat → Nat) {E : Nat} {n : Nat → Nat} {cl : Nat → Bool} {con : Nat → Nat → Int32} {ow : Nat → Nat → Int64} {rn : Nat} {ed : Nat → Nat} {co : Nat → Nat} {hz : Nat → Int64} {mp : Nat → Nat → Nat} {pr : Nat → Int32} {cn : Nat} {hs : Nat → Int64} {wg : Nat → Int64} {rs : Nat → Int64} {ch : Int32} (j o : Nat) (hj : j < 14) (ho : o < 4) (he : ed j < 8) : cj_Mi (S := Unit) l yC_wholeShare cC_wholeShare 3 (some .int) 1 D kd [.ref (ad 0), .int (nI j), .int (nI o)] (wC kd ad E n cl con ow rn ed co hz mp pr cn hs wg rs ch) (fun r _ => r = nI (cj_pop (ow (ed j) o))) (fun _ => wC kd ad E n cl con ow rn ed co hz mp pr cn hs wg rs ch) := by
  refine cj_ofi (by decide) (Nat.le_of_ble_eq_true rfl) ?_
  intro p e s m below meth c A ls X hr V hl
  obtain ⟨⟨hx, hb, hml, hown, hts⟩, hK, hlk⟩ := id X
  have hl : lv_has ls 3 [(0, .ref (ad 0)), (1, .int (nI j)), (2, .int (nI o))] := hl
  refine lv_aload_n hx hb dC_wholeShare_0 rfl (lv_at hl 0 rfl) ?_
  refine gC 4 X V fl_C_28 (by decide) rfl dC_wholeShare_1 ?_
  refine lv_aload_n hx hb dC_wholeShare_4 rfl (lv_at hl 0 rfl) ?_
  refine gC 6 X V fl_C_34 (by decide) rfl dC_wholeShare_5 ?_
  refine lv_iload_n hx hb dC_wholeShare_8 rfl (lv_at hl 1 rfl) ?_
  refine rC_ed X V (by omega) dC_wholeShare_9 ?_
  refine rC_owO X V (by omega) dC_wholeShare_10 ?_
  refine lv_iload_n hx hb dC_wholeShare_11 rfl (lv_at hl 2 rfl) ?_
  refine rC_owR X V (by omega) (by omega) dC_wholeShare_12 ?_
  refine cj_csi X V (c_J_bitCount l D kd _ (ow (ed j) o)) ml_C_114 st_J_bitCount in_J cd_J_bitCount hd_J_bitCount ⟨by decide, by decide⟩ ⟨Nat.le_refl _, Nat.le_refl _⟩ hl.1 rfl (Nat.le_of_ble_eq_true rfl) dC_wholeShare_13 (fun r_9 u_9 H locs hw V => ?_)
  obtain rfl := hw
  have f_q_1 := cj_pop_le (ow (ed j) o)
  exact cj_reti () X hr V rfl dC_wholeShare_16
set_option maxRecDepth 100000 in
set_option maxHeartbeats 4000000 in
theorem c_C_hitShare (l : Launch) (D : va_G) (kd : Nat → ClassId) (ad : Nat → Nat) {E : Nat} {n : Nat → Nat} {cl : Nat → Bool} {con : Nat → Nat → Int32} {ow : Nat → Nat → Int64} {rn : Nat} {ed : Nat → Nat} {co : Nat → Nat} {hz : Nat → Int64} {mp : Nat → Nat → Nat} {pr : Nat → Int32} {cn : Nat} {hs : Nat → Int64} {wg : Nat → Int64} {rs : Nat → Int64} {ch : Int32} (j o : Nat) (hj : j < 14) (ho : o < 4) (he : ed j < 8) : cj_Mi (S := Unit) l yC_hitShare cC_hitShare 3 (some .int) 1 D kd [.ref (ad 0), .int (nI j), .int (nI o)] (wC kd ad E n cl con ow rn ed co hz mp pr cn hs wg rs ch) (fun r _ => r = nI (cj_pop (ow (ed j) o &&& hz j))) (fun _ => wC kd ad E n cl con ow rn ed co hz mp pr cn hs wg rs ch) := by
  refine cj_ofi (by decide) (Nat.le_of_ble_eq_true rfl) ?_
  intro p e s m below meth c A ls X hr V hl
  obtain ⟨⟨hx, hb, hml, hown, hts⟩, hK, hlk⟩ := id X
  have hl : lv_has ls 3 [(0, .ref (ad 0)), (1, .int (nI j)), (2, .int (nI o))] := hl
  refine lv_aload_n hx hb dC_hitShare_0 rfl (lv_at hl 0 rfl) ?_
  refine gC 4 X V fl_C_28 (by decide) rfl dC_hitShare_1 ?_
  refine lv_aload_n hx hb dC_hitShare_4 rfl (lv_at hl 0 rfl) ?_
  refine gC 6 X V fl_C_34 (by decide) rfl dC_hitShare_5 ?_
  refine lv_iload_n hx hb dC_hitShare_8 rfl (lv_at hl 1 rfl) ?_
  refine rC_ed X V (by omega) dC_hitShare_9 ?_
  refine rC_owO X V (by omega) dC_hitShare_10 ?_
  refine lv_iload_n hx hb dC_hitShare_11 rfl (lv_at hl 2 rfl) ?_
  refine rC_owR X V (by omega) (by omega) dC_hitShare_12 ?_
  refine lv_aload_n hx hb dC_hitShare_13 rfl (lv_at hl 0 rfl) ?_
  refine gC 8 X V fl_C_40 (by decide) rfl dC_hitShare_14 ?_
  refine lv_iload_n hx hb dC_hitShare_17 rfl (lv_at hl 1 rfl) ?_
  refine rC_hi X V (by omega) dC_hitShare_18 ?_
  refine lv_land hx hb dC_hitShare_19 ?_
  refine cj_csi X V (c_J_bitCount l D kd _ ((ow (ed j) o) &&& (hz j))) ml_C_114 st_J_bitCount in_J cd_J_bitCount hd_J_bitCount ⟨by decide, by decide⟩ ⟨Nat.le_refl _, Nat.le_refl _⟩ hl.1 rfl (Nat.le_of_ble_eq_true rfl) dC_hitShare_20 (fun r_9 u_9 H locs hw V => ?_)
  obtain rfl := hw
  have f_q_1 := cj_pop_le ((ow (ed j) o) &&& (hz j))
  exact cj_reti () X hr V rfl dC_hitShare_23
end
section
set_option maxRecDepth 100000 in
set_option maxHeartbeats 4000000 in
theorem c_C_run (l : Launch) (D : va_G) (kd : Nat → ClassId) (ad : Nat → Nat) {E : Nat} {n : Nat → Nat} {cl : Nat → Bool} {con : Nat → Nat → Int32} {ow : Nat → Nat → Int64} {rn : Nat} {ed : Nat → Nat} {co : Nat → Nat} {hz : Nat → Int64} {mp : Nat → Nat → Nat} {pr : Nat → Int32} {cn : Nat} {hs : Nat → Int64} {wg : Nat → Int64} {rs : Nat → Int64} {ch : Int32} (hE : E ≤ 8) (hn : ∀ i, n i ≤ 40) (hR : rn ≤ 14) (hed : ∀ r, r < rn → ed r < E) (hco : ∀ r, co r ≤ 100000) (x y : Int32) : cj_Mi (S := Nat × (Nat → Nat) × (Nat → Nat) × (Nat → Int64) × (Nat → Bool)) l yC_run cC_run 3 (some .int) 1 D kd [.ref (ad 0), .int x, .int y] (wC kd ad E n cl con ow rn ed co hz mp pr cn hs wg rs ch) (fun r u => r = f_add rn (o_run E rn x y) ∧ u = (a_rn rn (o_run E rn x y), a_ed rn ed (o_run E rn x y), a_co rn co (o_run E rn x y), a_hz rn hz (o_run E rn x y), a_cl cl (o_run E rn x y))) (fun u => wC kd ad E n u.2.2.2.2 con ow u.1 u.2.1 u.2.2.1 u.2.2.2.1 mp pr cn hs wg rs ch) := by
  refine cj_ofi (by decide) (Nat.le_of_ble_eq_true rfl) ?_
  intro p e s m below meth c A ls X hr V hl
  obtain ⟨⟨hx, hb, hml, hown, hts⟩, hK, hlk⟩ := id X
  have hl : lv_has ls 3 [(0, .ref (ad 0)), (1, .int x), (2, .int y)] := hl
  refine lv_aload_n hx hb dC_run_0 rfl (lv_at hl 0 rfl) ?_
  refine lv_iload_n hx hb dC_run_1 rfl (lv_at hl 1 rfl) ?_
  refine cj_cvi X V (c_C_isEdition l D kd ad hE x) 0 1 rfl rfl rfl ml_C_60 im_C_isEdition se_C_isEdition in_C cd_C_isEdition hd_C_isEdition ⟨by decide, by decide⟩ ⟨Nat.le_refl _, Nat.le_refl _⟩ hl.1 rfl (Nat.le_of_ble_eq_true rfl) dC_run_2 (fun r_9 u_9 H locs hw V => ?_)
  rcases hw with ⟨rfl, j_1, hj_1, rfl⟩ | ⟨rfl, hj_1⟩
  ·
    have ij_1 := cj_ix_t hj_1 (show E < 2 ^ 31 by omega)
    refine lv_if_eq (tgt := 18) hx hb dC_run_5 (by decide) (fun h => absurd h (by decide)) (fun _ => ?_)
    refine lv_iload_n hx hb dC_run_8 rfl (lv_at hl 2 rfl) ?_
    refine lv_if_lt (tgt := 18) hx hb dC_run_9 (by decide) (fun c_3 => ?_) (fun c_3 => ?_)
    ·
      have iy := cj_ix_f (cj_ixf0 (k := 100001) c_3 (by decide))
      refine lv_iconst (v := (-1)) hx hb dC_run_18 (by decide) ?_
      exact cj_reti (rn, ed, co, hz, cl) X hr V (by refine ⟨?_, ?_⟩ <;> first | (simp only [o_run, ij_1, c_3, iy]; done) | (simp only [o_run, ij_1, c_3, iy]; rfl)) dC_run_19
    ·
      refine lv_iload_n hx hb dC_run_12 rfl (lv_at hl 2 rfl) ?_
      refine lv_ldc hx hb hown (hts _ ko_C_71) dC_run_13 ?_
      refine cj_ti (z := nI 100000) (by decide) ?_
      refine lv_icmp_le (tgt := 20) hx hb dC_run_15 (by decide) (fun c_4 => ?_) (fun c_4 => ?_)
      ·
        obtain ⟨cy, hcy, rfl⟩ := cj_cost_t ‹¬ y < 0› c_4
        have iy := cj_ix_t hcy (by decide)
        refine lv_aload_n hx hb dC_run_20 rfl (lv_at hl 0 rfl) ?_
        refine lv_iload_n hx hb dC_run_21 rfl (lv_at hl 1 rfl) ?_
        refine lv_iload_n hx hb dC_run_22 rfl (lv_at hl 2 rfl) ?_
        refine lv_lconst (v := 0) hx hb dC_run_23 (by decide) ?_
        refine cj_cvi X V (c_C_addRun l D kd ad j_1 cy 0 hR (by omega)) 0 1 rfl rfl rfl ml_C_72 im_C_addRun se_C_addRun in_C cd_C_addRun hd_C_addRun ⟨by decide, by decide⟩ ⟨Nat.le_refl _, Nat.le_refl _⟩ hl.1 rfl (Nat.le_of_ble_eq_true rfl) dC_run_24 (fun r_9 u_9 H locs hw V => ?_)
        obtain ⟨rfl, rfl⟩ := hw
        exact cj_reti _ X hr V (by refine ⟨?_, ?_⟩ <;> first | (simp only [o_run, ij_1, iy]; done) | (simp only [o_run, ij_1, iy]; rfl)) dC_run_27
      ·
        have iy := cj_ix_f (cj_cost_f c_4)
        refine lv_iconst (v := (-1)) hx hb dC_run_18 (by decide) ?_
        exact cj_reti (rn, ed, co, hz, cl) X hr V (by refine ⟨?_, ?_⟩ <;> first | (simp only [o_run, ij_1, c_3, c_4, iy]; done) | (simp only [o_run, ij_1, c_3, c_4, iy]; rfl)) dC_run_19
  ·
    have ij_1 := cj_ix_f hj_1
    refine lv_if_eq (tgt := 18) hx hb dC_run_5 (by decide) (fun _ => ?_) (fun h => absurd (by decide) h)
    refine lv_iconst (v := (-1)) hx hb dC_run_18 (by decide) ?_
    exact cj_reti (rn, ed, co, hz, cl) X hr V (by refine ⟨?_, ?_⟩ <;> first | (simp only [o_run, ij_1]; done) | (simp only [o_run, ij_1]; rfl)) dC_run_19
set_option maxRecDepth 100000 in
set_option maxHeartbeats 4000000 in
theorem c_C_hit (l : Launch) (D : va_G) (kd : Nat → ClassId) (ad : Nat → Nat) {E : Nat} {n : Nat → Nat} {cl : Nat → Bool} {con : Nat → Nat → Int32} {ow : Nat → Nat → Int64} {rn : Nat} {ed : Nat → Nat} {co : Nat → Nat} {hz : Nat → Int64} {mp : Nat → Nat → Nat} {pr : Nat → Int32} {cn : Nat} {hs : Nat → Int64} {wg : Nat → Int64} {rs : Nat → Int64} {ch : Int32} (hE : E ≤ 8) (hn : ∀ i, n i ≤ 40) (hR : rn ≤ 14) (hed : ∀ r, r < rn → ed r < E) (hco : ∀ r, co r ≤ 100000) (x y : Int32) : cj_Mi (S := Nat → Int64) l yC_hit cC_hit 3 (some .boolean) 2 D kd [.ref (ad 0), .int x, .int y] (wC kd ad E n cl con ow rn ed co hz mp pr cn hs wg rs ch) (fun r u => r = f_hit (o_hit rn n ed hz x y) ∧ u = h_hit hz (o_hit rn n ed hz x y)) (fun u => wC kd ad E n cl con ow rn ed co u mp pr cn hs wg rs ch) := by
  refine cj_ofi (by decide) (Nat.le_of_ble_eq_true rfl) ?_
  intro p e s m below meth c A ls X hr V hl
  obtain ⟨⟨hx, hb, hml, hown, hts⟩, hK, hlk⟩ := id X
  have hl : lv_has ls 3 [(0, .ref (ad 0)), (1, .int x), (2, .int y)] := hl
  refine lv_aload_n hx hb dC_hit_0 rfl (lv_at hl 0 rfl) ?_
  refine lv_iload_n hx hb dC_hit_1 rfl (lv_at hl 1 rfl) ?_
  refine cj_cvi X V (c_C_isRun l D kd ad hR x) 0 1 rfl rfl rfl ml_C_76 im_C_isRun se_C_isRun in_C cd_C_isRun hd_C_isRun ⟨by decide, by decide⟩ ⟨Nat.le_refl _, Nat.le_refl _⟩ hl.1 rfl (Nat.le_of_ble_eq_true rfl) dC_hit_2 (fun r_9 u_9 H locs hw V => ?_)
  rcases hw with ⟨rfl, j_1, hj_1, rfl⟩ | ⟨rfl, hj_1⟩
  ·
    have ij_1 := cj_ix_t hj_1 (show rn < 2 ^ 31 by omega)
    refine lv_if_eq (tgt := 31) hx hb dC_hit_5 (by decide) (fun h => absurd h (by decide)) (fun _ => ?_)
    refine lv_aload_n hx hb dC_hit_8 rfl (lv_at hl 0 rfl) ?_
    refine lv_aload_n hx hb dC_hit_9 rfl (lv_at hl 0 rfl) ?_
    refine gC 6 X V fl_C_34 (by decide) rfl dC_hit_10 ?_
    refine lv_iload_n hx hb dC_hit_13 rfl (lv_at hl 1 rfl) ?_
    refine rC_ed X V (by omega) dC_hit_14 ?_
    have f_e_3 := hed j_1 (by omega)
    refine lv_iload_n hx hb dC_hit_15 rfl (lv_at hl 2 rfl) ?_
    refine cj_cvi X V (c_C_isLine l D kd ad (ed j_1) (by omega) (hn _) y) 0 1 rfl rfl rfl ml_C_79 im_C_isLine se_C_isLine in_C cd_C_isLine hd_C_isLine ⟨by decide, by decide⟩ ⟨Nat.le_refl _, Nat.le_refl _⟩ hl.1 rfl (Nat.le_of_ble_eq_true rfl) dC_hit_16 (fun r_9 u_9 H locs hw V => ?_)
    rcases hw with ⟨rfl, j_4, hj_4, rfl⟩ | ⟨rfl, hj_4⟩
    ·
      have fj_4 := hn (ed j_1)
      have ij_4 := cj_ix_t hj_4 (show n (ed j_1) < 2 ^ 31 by omega)
      refine lv_if_eq (tgt := 31) hx hb dC_hit_19 (by decide) (fun h => absurd h (by decide)) (fun _ => ?_)
      refine lv_aload_n hx hb dC_hit_22 rfl (lv_at hl 0 rfl) ?_
      refine lv_iload_n hx hb dC_hit_23 rfl (lv_at hl 1 rfl) ?_
      refine lv_iload_n hx hb dC_hit_24 rfl (lv_at hl 2 rfl) ?_
      refine cj_cvi X V (c_C_hitsLine l D kd ad j_1 j_4 (by omega) (by omega)) 0 1 rfl rfl rfl ml_C_83 im_C_hitsLine se_C_hitsLine in_C cd_C_hitsLine hd_C_hitsLine ⟨by decide, by decide⟩ ⟨Nat.le_refl _, Nat.le_refl _⟩ hl.1 rfl (Nat.le_of_ble_eq_true rfl) dC_hit_25 (fun r_9 u_9 H locs hw V => ?_)
      obtain rfl := hw
      refine cj_b_eq (tgt := 33) hx hb dC_hit_28 (by decide) (fun c_6 => ?_) (fun c_6 => ?_)
      ·
        refine lv_aload_n hx hb dC_hit_33 rfl (lv_at hl 0 rfl) ?_
        refine gC 8 X V fl_C_40 (by decide) rfl dC_hit_34 ?_
        refine lv_iload_n hx hb dC_hit_37 rfl (lv_at hl 1 rfl) ?_
        refine lv_dup2_11 hx hb dC_hit_38 rfl rfl ?_
        refine rC_hi X V (by omega) dC_hit_39 ?_
        refine lv_iload_n hx hb dC_hit_40 rfl (lv_at hl 2 rfl) ?_
        refine cj_csl X V (c_C_bitOf l D kd ad j_4 (by omega)) ml_C_67 st_C_bitOf in_C cd_C_bitOf hd_C_bitOf ⟨by decide, by decide⟩ ⟨Nat.le_refl _, Nat.le_refl _⟩ hl.1 rfl (Nat.le_of_ble_eq_true rfl) dC_hit_41 (fun r_9 u_9 H locs hw V => ?_)
        obtain rfl := hw
        refine lv_lor hx hb dC_hit_44 ?_
        refine sC_hi X V (by omega) dC_hit_45 (fun H locs V => ?_)
        refine lv_iconst (v := nI 1) hx hb dC_hit_46 (by decide) ?_
        exact cj_retz (va_up hz j_1 ((hz j_1) ||| (cj_bit j_4))) X hr V (by decide) (by refine ⟨?_, ?_⟩ <;> first | (simp only [o_hit, cond_true, cond_false, ij_1, ij_4, c_6]; done) | (simp only [o_hit, cond_true, cond_false, ij_1, ij_4, c_6]; rfl)) dC_hit_47
      ·
        refine lv_iconst (v := nI 0) hx hb dC_hit_31 (by decide) ?_
        exact cj_retz hz X hr V (by decide) (by refine ⟨?_, ?_⟩ <;> first | (simp only [o_hit, cond_true, cond_false, ij_1, ij_4, c_6]; done) | (simp only [o_hit, cond_true, cond_false, ij_1, ij_4, c_6]; rfl)) dC_hit_32
    ·
      have ij_4 := cj_ix_f hj_4
      refine lv_if_eq (tgt := 31) hx hb dC_hit_19 (by decide) (fun _ => ?_) (fun h => absurd (by decide) h)
      refine lv_iconst (v := nI 0) hx hb dC_hit_31 (by decide) ?_
      exact cj_retz hz X hr V (by decide) (by refine ⟨?_, ?_⟩ <;> first | (simp only [o_hit, cond_true, cond_false, ij_1, ij_4]; done) | (simp only [o_hit, cond_true, cond_false, ij_1, ij_4]; rfl)) dC_hit_32
  ·
    have ij_1 := cj_ix_f hj_1
    refine lv_if_eq (tgt := 31) hx hb dC_hit_5 (by decide) (fun _ => ?_) (fun h => absurd (by decide) h)
    refine lv_iconst (v := nI 0) hx hb dC_hit_31 (by decide) ?_
    exact cj_retz hz X hr V (by decide) (by refine ⟨?_, ?_⟩ <;> first | (simp only [o_hit, cond_true, cond_false, ij_1]; done) | (simp only [o_hit, cond_true, cond_false, ij_1]; rfl)) dC_hit_32
set_option maxRecDepth 100000 in
set_option maxHeartbeats 4000000 in
theorem c_C_join (l : Launch) (D : va_G) (kd : Nat → ClassId) (ad : Nat → Nat) {E : Nat} {n : Nat → Nat} {cl : Nat → Bool} {con : Nat → Nat → Int32} {ow : Nat → Nat → Int64} {rn : Nat} {ed : Nat → Nat} {co : Nat → Nat} {hz : Nat → Int64} {mp : Nat → Nat → Nat} {pr : Nat → Int32} {cn : Nat} {hs : Nat → Int64} {wg : Nat → Int64} {rs : Nat → Int64} {ch : Int32} (hE : E ≤ 8) (hn : ∀ i, n i ≤ 40) (hR : rn ≤ 14) (hed : ∀ r, r < rn → ed r < E) (hco : ∀ r, co r ≤ 100000) (x y : Int32) : cj_Mi (S := Nat × (Nat → Nat) × (Nat → Nat) × (Nat → Int64) × (Nat → Bool)) l yC_join cC_join 4 (some .int) 1 D kd [.ref (ad 0), .int x, .int y] (wC kd ad E n cl con ow rn ed co hz mp pr cn hs wg rs ch) (fun r u => r = f_add rn (o_join rn ed co hz x y) ∧ u = (a_rn rn (o_join rn ed co hz x y), a_ed rn ed (o_join rn ed co hz x y), a_co rn co (o_join rn ed co hz x y), a_hz rn hz (o_join rn ed co hz x y), a_cl cl (o_join rn ed co hz x y))) (fun u => wC kd ad E n u.2.2.2.2 con ow u.1 u.2.1 u.2.2.1 u.2.2.2.1 mp pr cn hs wg rs ch) := by
  refine cj_ofi (by decide) (Nat.le_of_ble_eq_true rfl) ?_
  intro p e s m below meth c A ls X hr V hl
  obtain ⟨⟨hx, hb, hml, hown, hts⟩, hK, hlk⟩ := id X
  have hl : lv_has ls 4 [(0, .ref (ad 0)), (1, .int x), (2, .int y)] := hl
  refine lv_aload_n hx hb dC_join_0 rfl (lv_at hl 0 rfl) ?_
  refine lv_iload_n hx hb dC_join_1 rfl (lv_at hl 1 rfl) ?_
  refine cj_cvi X V (c_C_isRun l D kd ad hR x) 0 1 rfl rfl rfl ml_C_76 im_C_isRun se_C_isRun in_C cd_C_isRun hd_C_isRun ⟨by decide, by decide⟩ ⟨Nat.le_refl _, Nat.le_refl _⟩ hl.1 rfl (Nat.le_of_ble_eq_true rfl) dC_join_2 (fun r_9 u_9 H locs hw V => ?_)
  rcases hw with ⟨rfl, j_1, hj_1, rfl⟩ | ⟨rfl, hj_1⟩
  ·
    have ij_1 := cj_ix_t hj_1 (show rn < 2 ^ 31 by omega)
    refine lv_if_eq (tgt := 31) hx hb dC_join_5 (by decide) (fun h => absurd h (by decide)) (fun _ => ?_)
    refine lv_aload_n hx hb dC_join_8 rfl (lv_at hl 0 rfl) ?_
    refine lv_iload_n hx hb dC_join_9 rfl (lv_at hl 2 rfl) ?_
    refine cj_cvi X V (c_C_isRun l D kd ad hR y) 0 1 rfl rfl rfl ml_C_76 im_C_isRun se_C_isRun in_C cd_C_isRun hd_C_isRun ⟨by decide, by decide⟩ ⟨Nat.le_refl _, Nat.le_refl _⟩ hl.1 rfl (Nat.le_of_ble_eq_true rfl) dC_join_10 (fun r_9 u_9 H locs hw V => ?_)
    rcases hw with ⟨rfl, j_3, hj_3, rfl⟩ | ⟨rfl, hj_3⟩
    ·
      have ij_3 := cj_ix_t hj_3 (show rn < 2 ^ 31 by omega)
      refine lv_if_eq (tgt := 31) hx hb dC_join_13 (by decide) (fun h => absurd h (by decide)) (fun _ => ?_)
      refine lv_aload_n hx hb dC_join_16 rfl (lv_at hl 0 rfl) ?_
      refine gC 6 X V fl_C_34 (by decide) rfl dC_join_17 ?_
      refine lv_iload_n hx hb dC_join_20 rfl (lv_at hl 1 rfl) ?_
      refine rC_ed X V (by omega) dC_join_21 ?_
      have f_e_5 := hed j_1 (by omega)
      refine lv_aload_n hx hb dC_join_22 rfl (lv_at hl 0 rfl) ?_
      refine gC 6 X V fl_C_34 (by decide) rfl dC_join_23 ?_
      refine lv_iload_n hx hb dC_join_26 rfl (lv_at hl 2 rfl) ?_
      refine rC_ed X V (by omega) dC_join_27 ?_
      have f_e_6 := hed j_3 (by omega)
      refine cj_n_eq (tgt := 33) hx hb dC_join_28 (by decide) (by omega) (by omega) (fun c_7 => ?_) (fun c_7 => ?_)
      ·
        refine lv_aload_n hx hb dC_join_33 rfl (lv_at hl 0 rfl) ?_
        refine gC 7 X V fl_C_37 (by decide) rfl dC_join_34 ?_
        refine lv_iload_n hx hb dC_join_37 rfl (lv_at hl 1 rfl) ?_
        refine rC_co X V (by omega) dC_join_38 ?_
        have f_e_8 := hco j_1
        refine lv_aload_n hx hb dC_join_39 rfl (lv_at hl 0 rfl) ?_
        refine gC 7 X V fl_C_37 (by decide) rfl dC_join_40 ?_
        refine lv_iload_n hx hb dC_join_43 rfl (lv_at hl 2 rfl) ?_
        refine rC_co X V (by omega) dC_join_44 ?_
        have f_e_9 := hco j_3
        refine cj_iaddN hx hb dC_join_45 ?_
        refine lv_ldc hx hb hown (hts _ ko_C_71) dC_join_46 ?_
        refine cj_ti (z := nI 100000) (by decide) ?_
        refine va_mmin hx hb (hml.trans hl.1.symm) hown (hts _ ml_C_94) (hts _ st_Q_min) (hts _ in_Q) (hts _ cd_Q_min) (by decide) (Nat.le_of_ble_eq_true rfl) (by decide) (by decide) dC_join_48 ?_
        refine cj_ti (cj_min (by omega) (by omega)) ?_
        refine lv_istore_n (lv' := [(3, .int (nI (min ((co j_1) + (co j_3)) 100000))), (0, .ref (ad 0)), (1, .int (nI j_1)), (2, .int (nI j_3))]) hx hb dC_join_51 rfl hl (by decide) rfl (fun ls hl => ?_)
        refine lv_aload_n hx hb dC_join_52 rfl (lv_at hl 1 rfl) ?_
        refine lv_aload_n hx hb dC_join_53 rfl (lv_at hl 1 rfl) ?_
        refine gC 6 X V fl_C_34 (by decide) rfl dC_join_54 ?_
        refine lv_iload_n hx hb dC_join_57 rfl (lv_at hl 2 rfl) ?_
        refine rC_ed X V (by omega) dC_join_58 ?_
        have f_e_10 := hed j_1 (by omega)
        refine lv_iload_n hx hb dC_join_59 rfl (lv_at hl 0 rfl) ?_
        refine lv_aload_n hx hb dC_join_60 rfl (lv_at hl 1 rfl) ?_
        refine gC 8 X V fl_C_40 (by decide) rfl dC_join_61 ?_
        refine lv_iload_n hx hb dC_join_64 rfl (lv_at hl 2 rfl) ?_
        refine rC_hi X V (by omega) dC_join_65 ?_
        refine lv_aload_n hx hb dC_join_66 rfl (lv_at hl 1 rfl) ?_
        refine gC 8 X V fl_C_40 (by decide) rfl dC_join_67 ?_
        refine lv_iload_n hx hb dC_join_70 rfl (lv_at hl 3 rfl) ?_
        refine rC_hi X V (by omega) dC_join_71 ?_
        refine lv_lor hx hb dC_join_72 ?_
        refine cj_cvi X V (c_C_addRun l D kd ad (ed j_1) (min ((co j_1) + (co j_3)) 100000) ((hz j_1) ||| (hz j_3)) hR (by omega)) 0 1 rfl rfl rfl ml_C_72 im_C_addRun se_C_addRun in_C cd_C_addRun hd_C_addRun ⟨by decide, by decide⟩ ⟨Nat.le_refl _, Nat.le_refl _⟩ hl.1 rfl (Nat.le_of_ble_eq_true rfl) dC_join_73 (fun r_9 u_9 H locs hw V => ?_)
        obtain ⟨rfl, rfl⟩ := hw
        exact cj_reti _ X hr V (by refine ⟨?_, ?_⟩ <;> first | (simp only [o_join, if_true, if_false, ne_eq, ij_1, ij_3, c_7]; done) | (simp only [o_join, if_true, if_false, ne_eq, ij_1, ij_3, c_7]; rfl)) dC_join_76
      ·
        refine lv_iconst (v := (-1)) hx hb dC_join_31 (by decide) ?_
        exact cj_reti (rn, ed, co, hz, cl) X hr V (by refine ⟨?_, ?_⟩ <;> first | (simp only [o_join, if_true, if_false, ne_eq, ij_1, ij_3, c_7]; done) | (simp only [o_join, if_true, if_false, ne_eq, ij_1, ij_3, c_7]; rfl)) dC_join_32
    ·
      have ij_3 := cj_ix_f hj_3
      refine lv_if_eq (tgt := 31) hx hb dC_join_13 (by decide) (fun _ => ?_) (fun h => absurd (by decide) h)
      refine lv_iconst (v := (-1)) hx hb dC_join_31 (by decide) ?_
      exact cj_reti (rn, ed, co, hz, cl) X hr V (by refine ⟨?_, ?_⟩ <;> first | (simp only [o_join, if_true, if_false, ne_eq, ij_1, ij_3]; done) | (simp only [o_join, if_true, if_false, ne_eq, ij_1, ij_3]; rfl)) dC_join_32
  ·
    have ij_1 := cj_ix_f hj_1
    refine lv_if_eq (tgt := 31) hx hb dC_join_5 (by decide) (fun _ => ?_) (fun h => absurd (by decide) h)
    refine lv_iconst (v := (-1)) hx hb dC_join_31 (by decide) ?_
    exact cj_reti (rn, ed, co, hz, cl) X hr V (by refine ⟨?_, ?_⟩ <;> first | (simp only [o_join, if_true, if_false, ne_eq, ij_1]; done) | (simp only [o_join, if_true, if_false, ne_eq, ij_1]; rfl)) dC_join_32
set_option maxRecDepth 100000 in
set_option maxHeartbeats 4000000 in
theorem c_C_about (l : Launch) (D : va_G) (kd : Nat → ClassId) (ad : Nat → Nat) {E : Nat} {n : Nat → Nat} {cl : Nat → Bool} {con : Nat → Nat → Int32} {ow : Nat → Nat → Int64} {rn : Nat} {ed : Nat → Nat} {co : Nat → Nat} {hz : Nat → Int64} {mp : Nat → Nat → Nat} {pr : Nat → Int32} {cn : Nat} {hs : Nat → Int64} {wg : Nat → Int64} {rs : Nat → Int64} {ch : Int32} (hE : E ≤ 8) (hn : ∀ i, n i ≤ 40) (hR : rn ≤ 14) (hed : ∀ r, r < rn → ed r < E) (hco : ∀ r, co r ≤ 100000) (x y : Int32) : cj_Mi (S := Unit) l yC_about cC_about 3 (some .int) 1 D kd [.ref (ad 0), .int x, .int y] (wC kd ad E n cl con ow rn ed co hz mp pr cn hs wg rs ch) (fun r _ => r = f_about rn ed co hz x y) (fun _ => wC kd ad E n cl con ow rn ed co hz mp pr cn hs wg rs ch) := by
  refine cj_ofi (by decide) (Nat.le_of_ble_eq_true rfl) ?_
  intro p e s m below meth c A ls X hr V hl
  obtain ⟨⟨hx, hb, hml, hown, hts⟩, hK, hlk⟩ := id X
  have hl : lv_has ls 3 [(0, .ref (ad 0)), (1, .int x), (2, .int y)] := hl
  refine lv_aload_n hx hb dC_about_0 rfl (lv_at hl 0 rfl) ?_
  refine lv_iload_n hx hb dC_about_1 rfl (lv_at hl 1 rfl) ?_
  refine cj_cvi X V (c_C_isRun l D kd ad hR x) 0 1 rfl rfl rfl ml_C_76 im_C_isRun se_C_isRun in_C cd_C_isRun hd_C_isRun ⟨by decide, by decide⟩ ⟨Nat.le_refl _, Nat.le_refl _⟩ hl.1 rfl (Nat.le_of_ble_eq_true rfl) dC_about_2 (fun r_9 u_9 H locs hw V => ?_)
  rcases hw with ⟨rfl, j_1, hj_1, rfl⟩ | ⟨rfl, hj_1⟩
  ·
    have ij_1 := cj_ix_t hj_1 (show rn < 2 ^ 31 by omega)
    refine lv_if_ne (tgt := 10) hx hb dC_about_5 (by decide) (fun _ => ?_) (fun h => absurd h (by decide))
    refine lv_iload_n hx hb dC_about_10 rfl (lv_at hl 2 rfl) ?_
    by_cases c_3 : y = nI 0
    ·
      subst c_3
      refine lv_tableIn (off := 25) (tgt := 36) hx hb dC_about_11 (by decide) (by decide) (by decide) (by decide) ?_
      refine lv_aload_n hx hb dC_about_36 rfl (lv_at hl 0 rfl) ?_
      refine gC 6 X V fl_C_34 (by decide) rfl dC_about_37 ?_
      refine lv_iload_n hx hb dC_about_40 rfl (lv_at hl 1 rfl) ?_
      refine rC_ed X V (by omega) dC_about_41 ?_
      have f_e_4 := hed j_1 (by omega)
      exact cj_reti () X hr V (by simp only [f_about, if_true, ij_1]; repeat (first | rfl | rw [if_neg (by decide)])) dC_about_42
    by_cases c_5 : y = nI 1
    ·
      subst c_5
      refine lv_tableIn (off := 32) (tgt := 43) hx hb dC_about_11 (by decide) (by decide) (by decide) (by decide) ?_
      refine lv_aload_n hx hb dC_about_43 rfl (lv_at hl 0 rfl) ?_
      refine gC 7 X V fl_C_37 (by decide) rfl dC_about_44 ?_
      refine lv_iload_n hx hb dC_about_47 rfl (lv_at hl 1 rfl) ?_
      refine rC_co X V (by omega) dC_about_48 ?_
      have f_e_6 := hco j_1
      exact cj_reti () X hr V (by simp only [f_about, if_true, ij_1]; repeat (first | rfl | rw [if_neg (by decide)])) dC_about_49
    by_cases c_7 : y = nI 2
    ·
      subst c_7
      refine lv_tableIn (off := 39) (tgt := 50) hx hb dC_about_11 (by decide) (by decide) (by decide) (by decide) ?_
      refine lv_aload_n hx hb dC_about_50 rfl (lv_at hl 0 rfl) ?_
      refine gC 8 X V fl_C_40 (by decide) rfl dC_about_51 ?_
      refine lv_iload_n hx hb dC_about_54 rfl (lv_at hl 1 rfl) ?_
      refine rC_hi X V (by omega) dC_about_55 ?_
      refine cj_csi X V (c_J_bitCount l D kd _ (hz j_1)) ml_C_114 st_J_bitCount in_J cd_J_bitCount hd_J_bitCount ⟨by decide, by decide⟩ ⟨Nat.le_refl _, Nat.le_refl _⟩ hl.1 rfl (Nat.le_of_ble_eq_true rfl) dC_about_56 (fun r_9 u_9 H locs hw V => ?_)
      obtain rfl := hw
      have f_q_8 := cj_pop_le (hz j_1)
      exact cj_reti () X hr V (by simp only [f_about, if_true, ij_1]; repeat (first | rfl | rw [if_neg (by decide)])) dC_about_59
    refine lv_tableOut (tgt := 60) hx hb dC_about_11 (cj_sw3 c_3 c_5 c_7) (by decide) ?_
    refine lv_iconst (v := (-1)) hx hb dC_about_60 (by decide) ?_
    exact cj_reti () X hr V (by simp only [f_about, if_true, ij_1]; rw [if_neg c_3, if_neg c_5, if_neg c_7]) dC_about_61
  ·
    have ij_1 := cj_ix_f hj_1
    refine lv_if_ne (tgt := 10) hx hb dC_about_5 (by decide) (fun h => absurd (by decide) h) (fun _ => ?_)
    refine lv_iconst (v := (-1)) hx hb dC_about_8 (by decide) ?_
    exact cj_reti () X hr V (by simp only [f_about, ij_1]) dC_about_9
set_option maxRecDepth 100000 in
set_option maxHeartbeats 4000000 in
theorem c_C_share (l : Launch) (D : va_G) (kd : Nat → ClassId) (ad : Nat → Nat) {E : Nat} {n : Nat → Nat} {cl : Nat → Bool} {con : Nat → Nat → Int32} {ow : Nat → Nat → Int64} {rn : Nat} {ed : Nat → Nat} {co : Nat → Nat} {hz : Nat → Int64} {mp : Nat → Nat → Nat} {pr : Nat → Int32} {cn : Nat} {hs : Nat → Int64} {wg : Nat → Int64} {rs : Nat → Int64} {ch : Int32} (hE : E ≤ 8) (hn : ∀ i, n i ≤ 40) (hR : rn ≤ 14) (hed : ∀ r, r < rn → ed r < E) (hco : ∀ r, co r ≤ 100000) (x z : Int32) (b : Bool) : cj_Mi (S := Unit) l yC_share cC_share 4 (some .int) 2 D kd [.ref (ad 0), .int x, .int z, .int (bI b)] (wC kd ad E n cl con ow rn ed co hz mp pr cn hs wg rs ch) (fun r _ => r = f_shareC rn ed ow hz x z b) (fun _ => wC kd ad E n cl con ow rn ed co hz mp pr cn hs wg rs ch) := by
  refine cj_ofi (by decide) (Nat.le_of_ble_eq_true rfl) ?_
  intro p e s m below meth c A ls X hr V hl
  obtain ⟨⟨hx, hb, hml, hown, hts⟩, hK, hlk⟩ := id X
  have hl : lv_has ls 4 [(0, .ref (ad 0)), (1, .int x), (2, .int z), (3, .int (bI b))] := hl
  refine lv_aload_n hx hb dC_share_0 rfl (lv_at hl 0 rfl) ?_
  refine lv_iload_n hx hb dC_share_1 rfl (lv_at hl 1 rfl) ?_
  refine cj_cvi X V (c_C_isRun l D kd ad hR x) 0 1 rfl rfl rfl ml_C_76 im_C_isRun se_C_isRun in_C cd_C_isRun hd_C_isRun ⟨by decide, by decide⟩ ⟨Nat.le_refl _, Nat.le_refl _⟩ hl.1 rfl (Nat.le_of_ble_eq_true rfl) dC_share_2 (fun r_9 u_9 H locs hw V => ?_)
  rcases hw with ⟨rfl, j_1, hj_1, rfl⟩ | ⟨rfl, hj_1⟩
  ·
    have ij_1 := cj_ix_t hj_1 (show rn < 2 ^ 31 by omega)
    refine lv_if_eq (tgt := 15) hx hb dC_share_5 (by decide) (fun h => absurd h (by decide)) (fun _ => ?_)
    refine lv_iload_n hx hb dC_share_8 rfl (lv_at hl 2 rfl) ?_
    refine cj_csi X V (c_C_isOwner l D kd ad  z) ml_C_64 st_C_isOwner in_C cd_C_isOwner hd_C_isOwner ⟨by decide, by decide⟩ ⟨Nat.le_refl _, Nat.le_refl _⟩ hl.1 rfl (Nat.le_of_ble_eq_true rfl) dC_share_9 (fun r_9 u_9 H locs hw V => ?_)
    rcases hw with ⟨rfl, j_3, hj_3, rfl⟩ | ⟨rfl, hj_3⟩
    ·
      have ij_3 := cj_ix_t hj_3 (show 4 < 2 ^ 31 by omega)
      refine lv_if_ne (tgt := 17) hx hb dC_share_12 (by decide) (fun _ => ?_) (fun h => absurd h (by decide))
      refine lv_iload_n hx hb dC_share_17 rfl (lv_at hl 3 rfl) ?_
      refine cj_b_eq (tgt := 30) hx hb dC_share_18 (by decide) (fun c_5 => ?_) (fun c_5 => ?_)
      ·
        refine lv_aload_n hx hb dC_share_30 rfl (lv_at hl 0 rfl) ?_
        refine lv_iload_n hx hb dC_share_31 rfl (lv_at hl 1 rfl) ?_
        refine lv_iload_n hx hb dC_share_32 rfl (lv_at hl 2 rfl) ?_
        refine cj_cvi X V (c_C_wholeShare l D kd ad j_1 j_3 (by omega) (by omega) (by have := hed j_1 (by omega); omega)) 0 1 rfl rfl rfl ml_C_103 im_C_wholeShare se_C_wholeShare in_C cd_C_wholeShare hd_C_wholeShare ⟨by decide, by decide⟩ ⟨Nat.le_refl _, Nat.le_refl _⟩ hl.1 rfl (Nat.le_of_ble_eq_true rfl) dC_share_33 (fun r_9 u_9 H locs hw V => ?_)
        obtain rfl := hw
        have f_q_6 := cj_pop_le (ow (ed j_1) j_3)
        exact cj_reti () X hr V (by simp only [f_shareC, ij_1, ij_3, c_5, cond_true, cond_false]) dC_share_36
      ·
        refine lv_aload_n hx hb dC_share_21 rfl (lv_at hl 0 rfl) ?_
        refine lv_iload_n hx hb dC_share_22 rfl (lv_at hl 1 rfl) ?_
        refine lv_iload_n hx hb dC_share_23 rfl (lv_at hl 2 rfl) ?_
        refine cj_cvi X V (c_C_hitShare l D kd ad j_1 j_3 (by omega) (by omega) (by have := hed j_1 (by omega); omega)) 0 1 rfl rfl rfl ml_C_100 im_C_hitShare se_C_hitShare in_C cd_C_hitShare hd_C_hitShare ⟨by decide, by decide⟩ ⟨Nat.le_refl _, Nat.le_refl _⟩ hl.1 rfl (Nat.le_of_ble_eq_true rfl) dC_share_24 (fun r_9 u_9 H locs hw V => ?_)
        obtain rfl := hw
        have f_q_7 := cj_pop_le (ow (ed j_1) j_3 &&& hz j_1)
        refine lv_goto (tgt := 36) hx hb dC_share_27 (by decide) ?_
        exact cj_reti () X hr V (by simp only [f_shareC, ij_1, ij_3, c_5, cond_true, cond_false]) dC_share_36
    ·
      have ij_3 := cj_ix_f hj_3
      refine lv_if_ne (tgt := 17) hx hb dC_share_12 (by decide) (fun h => absurd (by decide) h) (fun _ => ?_)
      refine lv_iconst (v := (-1)) hx hb dC_share_15 (by decide) ?_
      exact cj_reti () X hr V (by simp only [f_shareC, ij_1, ij_3, cond_true, cond_false]) dC_share_16
  ·
    have ij_1 := cj_ix_f hj_1
    refine lv_if_eq (tgt := 15) hx hb dC_share_5 (by decide) (fun _ => ?_) (fun h => absurd (by decide) h)
    refine lv_iconst (v := (-1)) hx hb dC_share_15 (by decide) ?_
    exact cj_reti () X hr V (by simp only [f_shareC, ij_1, cond_true, cond_false]) dC_share_16
set_option maxRecDepth 100000 in
set_option maxHeartbeats 4000000 in
theorem c_C_falls (l : Launch) (D : va_G) (kd : Nat → ClassId) (ad : Nat → Nat) {E : Nat} {n : Nat → Nat} {cl : Nat → Bool} {con : Nat → Nat → Int32} {ow : Nat → Nat → Int64} {rn : Nat} {ed : Nat → Nat} {co : Nat → Nat} {hz : Nat → Int64} {mp : Nat → Nat → Nat} {pr : Nat → Int32} {cn : Nat} {hs : Nat → Int64} {wg : Nat → Int64} {rs : Nat → Int64} {ch : Int32} (hE : E ≤ 8) (hn : ∀ i, n i ≤ 40) (hR : rn ≤ 14) (hed : ∀ r, r < rn → ed r < E) (hco : ∀ r, co r ≤ 100000) (x y z : Int32) : cj_Mi (S := Unit) l yC_falls cC_falls 6 (some .int) 2 D kd [.ref (ad 0), .int x, .int y, .int z] (wC kd ad E n cl con ow rn ed co hz mp pr cn hs wg rs ch) (fun r _ => r = f_fallsC rn ed ow hz x y z) (fun _ => wC kd ad E n cl con ow rn ed co hz mp pr cn hs wg rs ch) := by
  refine cj_ofi (by decide) (Nat.le_of_ble_eq_true rfl) ?_
  intro p e s m below meth c A ls X hr V hl
  obtain ⟨⟨hx, hb, hml, hown, hts⟩, hK, hlk⟩ := id X
  have hl : lv_has ls 6 [(0, .ref (ad 0)), (1, .int x), (2, .int y), (3, .int z)] := hl
  refine lv_aload_n hx hb dC_falls_0 rfl (lv_at hl 0 rfl) ?_
  refine lv_iload_n hx hb dC_falls_1 rfl (lv_at hl 1 rfl) ?_
  refine cj_cvi X V (c_C_isRun l D kd ad hR x) 0 1 rfl rfl rfl ml_C_76 im_C_isRun se_C_isRun in_C cd_C_isRun hd_C_isRun ⟨by decide, by decide⟩ ⟨Nat.le_refl _, Nat.le_refl _⟩ hl.1 rfl (Nat.le_of_ble_eq_true rfl) dC_falls_2 (fun r_9 u_9 H locs hw V => ?_)
  rcases hw with ⟨rfl, j_1, hj_1, rfl⟩ | ⟨rfl, hj_1⟩
  ·
    have ij_1 := cj_ix_t hj_1 (show rn < 2 ^ 31 by omega)
    refine lv_if_eq (tgt := 23) hx hb dC_falls_5 (by decide) (fun h => absurd h (by decide)) (fun _ => ?_)
    refine lv_aload_n hx hb dC_falls_8 rfl (lv_at hl 0 rfl) ?_
    refine lv_iload_n hx hb dC_falls_9 rfl (lv_at hl 2 rfl) ?_
    refine cj_cvi X V (c_C_isRun l D kd ad hR y) 0 1 rfl rfl rfl ml_C_76 im_C_isRun se_C_isRun in_C cd_C_isRun hd_C_isRun ⟨by decide, by decide⟩ ⟨Nat.le_refl _, Nat.le_refl _⟩ hl.1 rfl (Nat.le_of_ble_eq_true rfl) dC_falls_10 (fun r_9 u_9 H locs hw V => ?_)
    rcases hw with ⟨rfl, j_3, hj_3, rfl⟩ | ⟨rfl, hj_3⟩
    ·
      have ij_3 := cj_ix_t hj_3 (show rn < 2 ^ 31 by omega)
      refine lv_if_eq (tgt := 23) hx hb dC_falls_13 (by decide) (fun h => absurd h (by decide)) (fun _ => ?_)
      refine lv_iload_n hx hb dC_falls_16 rfl (lv_at hl 3 rfl) ?_
      refine cj_csi X V (c_C_isOwner l D kd ad  z) ml_C_64 st_C_isOwner in_C cd_C_isOwner hd_C_isOwner ⟨by decide, by decide⟩ ⟨Nat.le_refl _, Nat.le_refl _⟩ hl.1 rfl (Nat.le_of_ble_eq_true rfl) dC_falls_17 (fun r_9 u_9 H locs hw V => ?_)
      rcases hw with ⟨rfl, j_5, hj_5, rfl⟩ | ⟨rfl, hj_5⟩
      ·
        have ij_5 := cj_ix_t hj_5 (show 4 < 2 ^ 31 by omega)
        refine lv_if_ne (tgt := 26) hx hb dC_falls_20 (by decide) (fun _ => ?_) (fun h => absurd h (by decide))
        refine lv_aload_n hx hb dC_falls_26 rfl (lv_at hl 0 rfl) ?_
        refine lv_iload_n hx hb dC_falls_27 rfl (lv_at hl 1 rfl) ?_
        refine lv_iload_n hx hb dC_falls_28 rfl (lv_at hl 3 rfl) ?_
        refine cj_cvi X V (c_C_wholeShare l D kd ad j_1 j_5 (by omega) (by omega) (by have := hed j_1 (by omega); omega)) 0 1 rfl rfl rfl ml_C_103 im_C_wholeShare se_C_wholeShare in_C cd_C_wholeShare hd_C_wholeShare ⟨by decide, by decide⟩ ⟨Nat.le_refl _, Nat.le_refl _⟩ hl.1 rfl (Nat.le_of_ble_eq_true rfl) dC_falls_29 (fun r_9 u_9 H locs hw V => ?_)
        obtain rfl := hw
        have f_q_7 := cj_pop_le (ow (ed j_1) j_5)
        refine lv_istore (lv' := [(4, .int (nI (cj_pop (ow (ed j_1) j_5)))), (0, .ref (ad 0)), (1, .int (nI j_1)), (2, .int (nI j_3)), (3, .int (nI j_5))]) hx hb dC_falls_32 hl (by decide) rfl (fun ls hl => ?_)
        refine lv_aload_n hx hb dC_falls_34 rfl (lv_at hl 1 rfl) ?_
        refine lv_iload_n hx hb dC_falls_35 rfl (lv_at hl 3 rfl) ?_
        refine lv_iload_n hx hb dC_falls_36 rfl (lv_at hl 4 rfl) ?_
        refine cj_cvi X V (c_C_wholeShare l D kd ad j_3 j_5 (by omega) (by omega) (by have := hed j_3 (by omega); omega)) 0 1 rfl rfl rfl ml_C_103 im_C_wholeShare se_C_wholeShare in_C cd_C_wholeShare hd_C_wholeShare ⟨by decide, by decide⟩ ⟨Nat.le_refl _, Nat.le_refl _⟩ hl.1 rfl (Nat.le_of_ble_eq_true rfl) dC_falls_37 (fun r_9 u_9 H locs hw V => ?_)
        obtain rfl := hw
        have f_q_8 := cj_pop_le (ow (ed j_3) j_5)
        refine lv_istore (lv' := [(5, .int (nI (cj_pop (ow (ed j_3) j_5)))), (4, .int (nI (cj_pop (ow (ed j_1) j_5)))), (0, .ref (ad 0)), (1, .int (nI j_1)), (2, .int (nI j_3)), (3, .int (nI j_5))]) hx hb dC_falls_40 hl (by decide) rfl (fun ls hl => ?_)
        refine lv_iload hx hb dC_falls_42 (lv_at hl 1 rfl) ?_
        refine cj_z_eq (tgt := 52) hx hb dC_falls_44 (by decide) (by omega) (fun c_9 => ?_) (fun c_9 => ?_)
        ·
          refine lv_iconst (v := (-1)) hx hb dC_falls_52 (by decide) ?_
          exact cj_reti () X hr V (by simp only [f_fallsC, ij_1, ij_3, ij_5]; (first | rw [if_pos c_9] | rw [if_neg c_9] | rw [if_pos (by omega)] | rw [if_neg (by omega)])) dC_falls_53
        ·
          refine lv_iload hx hb dC_falls_47 (lv_at hl 0 rfl) ?_
          refine cj_z_ne (tgt := 54) hx hb dC_falls_49 (by decide) (by omega) (fun c_10 => ?_) (fun c_10 => ?_)
          ·
            refine lv_aload_n hx hb dC_falls_54 rfl (lv_at hl 2 rfl) ?_
            refine lv_iload_n hx hb dC_falls_55 rfl (lv_at hl 3 rfl) ?_
            refine lv_iload_n hx hb dC_falls_56 rfl (lv_at hl 5 rfl) ?_
            refine cj_cvi X V (c_C_hitShare l D kd ad j_1 j_5 (by omega) (by omega) (by have := hed j_1 (by omega); omega)) 0 1 rfl rfl rfl ml_C_100 im_C_hitShare se_C_hitShare in_C cd_C_hitShare hd_C_hitShare ⟨by decide, by decide⟩ ⟨Nat.le_refl _, Nat.le_refl _⟩ hl.1 rfl (Nat.le_of_ble_eq_true rfl) dC_falls_57 (fun r_9 u_9 H locs hw V => ?_)
            obtain rfl := hw
            have f_q_11 := cj_pop_le (ow (ed j_1) j_5 &&& hz j_1)
            refine lv_iload hx hb dC_falls_60 (lv_at hl 0 rfl) ?_
            refine cj_imulN hx hb dC_falls_62 ?_
            refine lv_aload_n hx hb dC_falls_63 rfl (lv_at hl 2 rfl) ?_
            refine lv_iload_n hx hb dC_falls_64 rfl (lv_at hl 4 rfl) ?_
            refine lv_iload_n hx hb dC_falls_65 rfl (lv_at hl 5 rfl) ?_
            refine cj_cvi X V (c_C_hitShare l D kd ad j_3 j_5 (by omega) (by omega) (by have := hed j_3 (by omega); omega)) 0 1 rfl rfl rfl ml_C_100 im_C_hitShare se_C_hitShare in_C cd_C_hitShare hd_C_hitShare ⟨by decide, by decide⟩ ⟨Nat.le_refl _, Nat.le_refl _⟩ hl.1 rfl (Nat.le_of_ble_eq_true rfl) dC_falls_66 (fun r_9 u_9 H locs hw V => ?_)
            obtain rfl := hw
            have f_q_12 := cj_pop_le (ow (ed j_3) j_5 &&& hz j_3)
            refine lv_iload hx hb dC_falls_69 (lv_at hl 1 rfl) ?_
            refine cj_imulN hx hb dC_falls_71 ?_
            have g_0 : (cj_pop (ow (ed j_3) j_5 &&& hz j_3)) * (cj_pop (ow (ed j_1) j_5)) ≤ 64 * 64 := Nat.mul_le_mul (cj_pop_le _) (cj_pop_le _)
            have g_1 : (cj_pop (ow (ed j_1) j_5 &&& hz j_1)) * (cj_pop (ow (ed j_3) j_5)) ≤ 64 * 64 := Nat.mul_le_mul (cj_pop_le _) (cj_pop_le _)
            refine cj_n_ge (tgt := 79) hx hb dC_falls_72 (by decide) (by omega) (by omega) (fun c_13 => ?_) (fun c_13 => ?_)
            ·
              refine lv_iconst (v := nI 0) hx hb dC_falls_79 (by decide) ?_
              exact cj_reti () X hr V (by simp only [f_fallsC, ij_1, ij_3, ij_5]; (first | rw [if_pos c_9] | rw [if_neg c_9] | rw [if_pos (by omega)] | rw [if_neg (by omega)]); (first | rw [if_pos c_10] | rw [if_neg c_10] | rw [if_pos (by omega)] | rw [if_neg (by omega)]); (first | rw [if_pos c_13] | rw [if_neg c_13] | rw [if_pos (by omega)] | rw [if_neg (by omega)])) dC_falls_80
            ·
              refine lv_iconst (v := nI 1) hx hb dC_falls_75 (by decide) ?_
              refine lv_goto (tgt := 80) hx hb dC_falls_76 (by decide) ?_
              exact cj_reti () X hr V (by simp only [f_fallsC, ij_1, ij_3, ij_5]; (first | rw [if_pos c_9] | rw [if_neg c_9] | rw [if_pos (by omega)] | rw [if_neg (by omega)]); (first | rw [if_pos c_10] | rw [if_neg c_10] | rw [if_pos (by omega)] | rw [if_neg (by omega)]); (first | rw [if_pos c_13] | rw [if_neg c_13] | rw [if_pos (by omega)] | rw [if_neg (by omega)])) dC_falls_80
          ·
            refine lv_iconst (v := (-1)) hx hb dC_falls_52 (by decide) ?_
            exact cj_reti () X hr V (by simp only [f_fallsC, ij_1, ij_3, ij_5]; (first | rw [if_pos c_9] | rw [if_neg c_9] | rw [if_pos (by omega)] | rw [if_neg (by omega)]); (first | rw [if_pos c_10] | rw [if_neg c_10] | rw [if_pos (by omega)] | rw [if_neg (by omega)])) dC_falls_53
      ·
        have ij_5 := cj_ix_f hj_5
        refine lv_if_ne (tgt := 26) hx hb dC_falls_20 (by decide) (fun h => absurd (by decide) h) (fun _ => ?_)
        refine lv_bipush (v := (-2)) hx hb dC_falls_23 (by decide) ?_
        exact cj_reti () X hr V (by simp only [f_fallsC, ij_1, ij_3, ij_5]) dC_falls_25
    ·
      have ij_3 := cj_ix_f hj_3
      refine lv_if_eq (tgt := 23) hx hb dC_falls_13 (by decide) (fun _ => ?_) (fun h => absurd (by decide) h)
      refine lv_bipush (v := (-2)) hx hb dC_falls_23 (by decide) ?_
      exact cj_reti () X hr V (by simp only [f_fallsC, ij_1, ij_3]) dC_falls_25
  ·
    have ij_1 := cj_ix_f hj_1
    refine lv_if_eq (tgt := 23) hx hb dC_falls_5 (by decide) (fun _ => ?_) (fun h => absurd (by decide) h)
    refine lv_bipush (v := (-2)) hx hb dC_falls_23 (by decide) ?_
    exact cj_reti () X hr V (by simp only [f_fallsC, ij_1]) dC_falls_25
set_option maxRecDepth 100000 in
set_option maxHeartbeats 4000000 in
theorem c_C_line (l : Launch) (D : va_G) (kd : Nat → ClassId) (ad : Nat → Nat) {E : Nat} {n : Nat → Nat} {cl : Nat → Bool} {con : Nat → Nat → Int32} {ow : Nat → Nat → Int64} {rn : Nat} {ed : Nat → Nat} {co : Nat → Nat} {hz : Nat → Int64} {mp : Nat → Nat → Nat} {pr : Nat → Int32} {cn : Nat} {hs : Nat → Int64} {wg : Nat → Int64} {rs : Nat → Int64} {ch : Int32} (hE : E ≤ 8) (hn : ∀ i, n i ≤ 40) (hR : rn ≤ 14) (hed : ∀ r, r < rn → ed r < E) (hco : ∀ r, co r ≤ 100000) (x y z : Int32) (g : Bool) : cj_Mi (S := (Nat → Nat) × (Nat → Nat → Int32) × (Nat → Nat → Int64)) l yC_line cC_line 6 (some .int) 1 D kd [.ref (ad 0), .int x, .int y, .int z, .int (bI g)] (wC kd ad E n cl con ow rn ed co hz mp pr cn hs wg rs ch) (fun r u => r = f_line n (o_line E n cl x z) ∧ u = (l_n n (o_line E n cl x z), l_con n con y (o_line E n cl x z), l_ow n ow g (o_line E n cl x z))) (fun u => wC kd ad E u.1 cl u.2.1 u.2.2 rn ed co hz mp pr cn hs wg rs ch) := by
  refine cj_ofi (by decide) (Nat.le_of_ble_eq_true rfl) ?_
  intro p e s m below meth c A ls X hr V hl
  obtain ⟨⟨hx, hb, hml, hown, hts⟩, hK, hlk⟩ := id X
  have hl : lv_has ls 6 [(0, .ref (ad 0)), (1, .int x), (2, .int y), (3, .int z), (4, .int (bI g))] := hl
  refine lv_aload_n hx hb dC_line_0 rfl (lv_at hl 0 rfl) ?_
  refine lv_iload_n hx hb dC_line_1 rfl (lv_at hl 1 rfl) ?_
  refine cj_cvi X V (c_C_isEdition l D kd ad hE x) 0 1 rfl rfl rfl ml_C_60 im_C_isEdition se_C_isEdition in_C cd_C_isEdition hd_C_isEdition ⟨by decide, by decide⟩ ⟨Nat.le_refl _, Nat.le_refl _⟩ hl.1 rfl (Nat.le_of_ble_eq_true rfl) dC_line_2 (fun r_9 u_9 H locs hw V => ?_)
  rcases hw with ⟨rfl, j_1, hj_1, rfl⟩ | ⟨rfl, hj_1⟩
  ·
    have ij_1 := cj_ix_t hj_1 (show E < 2 ^ 31 by omega)
    refine lv_if_eq (tgt := 24) hx hb dC_line_5 (by decide) (fun h => absurd h (by decide)) (fun _ => ?_)
    refine lv_iload_n hx hb dC_line_8 rfl (lv_at hl 3 rfl) ?_
    refine cj_csi X V (c_C_isOwner l D kd ad  z) ml_C_64 st_C_isOwner in_C cd_C_isOwner hd_C_isOwner ⟨by decide, by decide⟩ ⟨Nat.le_refl _, Nat.le_refl _⟩ hl.1 rfl (Nat.le_of_ble_eq_true rfl) dC_line_9 (fun r_9 u_9 H locs hw V => ?_)
    rcases hw with ⟨rfl, j_3, hj_3, rfl⟩ | ⟨rfl, hj_3⟩
    ·
      have ij_3 := cj_ix_t hj_3 (show 4 < 2 ^ 31 by omega)
      refine lv_if_eq (tgt := 24) hx hb dC_line_12 (by decide) (fun h => absurd h (by decide)) (fun _ => ?_)
      refine lv_aload_n hx hb dC_line_15 rfl (lv_at hl 0 rfl) ?_
      refine gC 2 X V fl_C_17 (by decide) rfl dC_line_16 ?_
      refine lv_iload_n hx hb dC_line_19 rfl (lv_at hl 1 rfl) ?_
      refine rC_cl X V (by omega) dC_line_20 ?_
      refine cj_b_eq (tgt := 26) hx hb dC_line_21 (by decide) (fun c_5 => ?_) (fun c_5 => ?_)
      ·
        refine lv_aload_n hx hb dC_line_26 rfl (lv_at hl 0 rfl) ?_
        refine gC 1 X V fl_C_13 (by decide) rfl dC_line_27 ?_
        refine lv_iload_n hx hb dC_line_30 rfl (lv_at hl 1 rfl) ?_
        refine rC_n X V (by omega) dC_line_31 ?_
        have f_e_6 := hn j_1
        refine lv_istore (lv' := [(5, .int (nI (n j_1))), (0, .ref (ad 0)), (1, .int (nI j_1)), (2, .int y), (3, .int (nI j_3)), (4, .int (bI g))]) hx hb dC_line_32 hl (by decide) rfl (fun ls hl => ?_)
        refine lv_iload hx hb dC_line_34 (lv_at hl 0 rfl) ?_
        refine lv_bipush (v := nI 40) hx hb dC_line_36 (by decide) ?_
        refine cj_n_lt (tgt := 43) hx hb dC_line_38 (by decide) (by omega) (by omega) (fun c_7 => ?_) (fun c_7 => ?_)
        ·
          refine lv_aload_n hx hb dC_line_43 rfl (lv_at hl 1 rfl) ?_
          refine gC 3 X V fl_C_23 (by decide) rfl dC_line_44 ?_
          refine lv_iload_n hx hb dC_line_47 rfl (lv_at hl 2 rfl) ?_
          refine rC_conO X V (by omega) dC_line_48 ?_
          refine lv_iload hx hb dC_line_49 (lv_at hl 0 rfl) ?_
          refine lv_iload_n hx hb dC_line_51 rfl (lv_at hl 3 rfl) ?_
          refine sC_conR X V (by omega) (by omega) dC_line_52 (fun H locs V => ?_)
          refine lv_iload hx hb dC_line_53 (lv_at hl 5 rfl) ?_
          refine cj_b_ne (tgt := 74) hx hb dC_line_55 (by decide) (fun c_8 => ?_) (fun c_8 => ?_)
          ·
            refine lv_aload_n hx hb dC_line_74 rfl (lv_at hl 1 rfl) ?_
            refine gC 1 X V fl_C_13 (by decide) rfl dC_line_75 ?_
            refine lv_iload_n hx hb dC_line_78 rfl (lv_at hl 2 rfl) ?_
            refine lv_iload hx hb dC_line_79 (lv_at hl 0 rfl) ?_
            refine lv_iconst (v := nI 1) hx hb dC_line_81 (by decide) ?_
            refine cj_iaddN hx hb dC_line_82 ?_
            refine sC_n X V (by omega) dC_line_83 (fun H locs V => ?_)
            refine lv_iload hx hb dC_line_84 (lv_at hl 0 rfl) ?_
            exact cj_reti (va_up n j_1 ((n j_1) + 1), va_up con j_1 (va_up (con j_1) (n j_1) y), ow) X hr V (by refine ⟨?_, ?_⟩ <;> first | (simp only [o_line, l_ow, l_con, l_n, f_line, cond_true, cond_false, ij_1, ij_3, c_5, c_8]; (first | rw [if_pos c_7] | rw [if_neg (by omega)]); done) | (simp only [o_line, l_ow, l_con, l_n, f_line, cond_true, cond_false, ij_1, ij_3, c_5, c_8]; (first | rw [if_pos c_7] | rw [if_neg (by omega)]); rfl)) dC_line_86
          ·
            refine lv_aload_n hx hb dC_line_58 rfl (lv_at hl 1 rfl) ?_
            refine gC 4 X V fl_C_28 (by decide) rfl dC_line_59 ?_
            refine lv_iload_n hx hb dC_line_62 rfl (lv_at hl 2 rfl) ?_
            refine rC_owO X V (by omega) dC_line_63 ?_
            refine lv_iload_n hx hb dC_line_64 rfl (lv_at hl 4 rfl) ?_
            refine lv_dup2_11 hx hb dC_line_65 rfl rfl ?_
            refine rC_owR X V (by omega) (by omega) dC_line_66 ?_
            refine lv_iload hx hb dC_line_67 (lv_at hl 0 rfl) ?_
            refine cj_csl X V (c_C_bitOf l D kd ad (n j_1) (by omega)) ml_C_67 st_C_bitOf in_C cd_C_bitOf hd_C_bitOf ⟨by decide, by decide⟩ ⟨Nat.le_refl _, Nat.le_refl _⟩ hl.1 rfl (Nat.le_of_ble_eq_true rfl) dC_line_69 (fun r_9 u_9 H locs hw V => ?_)
            obtain rfl := hw
            refine lv_lor hx hb dC_line_72 ?_
            refine sC_owR X V (by omega) (by omega) dC_line_73 (fun H locs V => ?_)
            refine lv_aload_n hx hb dC_line_74 rfl (lv_at hl 1 rfl) ?_
            refine gC 1 X V fl_C_13 (by decide) rfl dC_line_75 ?_
            refine lv_iload_n hx hb dC_line_78 rfl (lv_at hl 2 rfl) ?_
            refine lv_iload hx hb dC_line_79 (lv_at hl 0 rfl) ?_
            refine lv_iconst (v := nI 1) hx hb dC_line_81 (by decide) ?_
            refine cj_iaddN hx hb dC_line_82 ?_
            refine sC_n X V (by omega) dC_line_83 (fun H locs V => ?_)
            refine lv_iload hx hb dC_line_84 (lv_at hl 0 rfl) ?_
            exact cj_reti (va_up n j_1 ((n j_1) + 1), va_up con j_1 (va_up (con j_1) (n j_1) y), va_up ow j_1 (va_up (ow j_1) j_3 ((ow j_1 j_3) ||| (cj_bit (n j_1))))) X hr V (by refine ⟨?_, ?_⟩ <;> first | (simp only [o_line, l_ow, l_con, l_n, f_line, cond_true, cond_false, ij_1, ij_3, c_5, c_8]; (first | rw [if_pos c_7] | rw [if_neg (by omega)]); done) | (simp only [o_line, l_ow, l_con, l_n, f_line, cond_true, cond_false, ij_1, ij_3, c_5, c_8]; (first | rw [if_pos c_7] | rw [if_neg (by omega)]); rfl)) dC_line_86
        ·
          refine lv_iconst (v := (-1)) hx hb dC_line_41 (by decide) ?_
          exact cj_reti (n, con, ow) X hr V (by refine ⟨?_, ?_⟩ <;> first | (simp only [o_line, l_ow, l_con, l_n, f_line, cond_true, cond_false, ij_1, ij_3, c_5]; (first | rw [if_pos c_7] | rw [if_neg (by omega)]); done) | (simp only [o_line, l_ow, l_con, l_n, f_line, cond_true, cond_false, ij_1, ij_3, c_5]; (first | rw [if_pos c_7] | rw [if_neg (by omega)]); rfl)) dC_line_42
      ·
        refine lv_iconst (v := (-1)) hx hb dC_line_24 (by decide) ?_
        exact cj_reti (n, con, ow) X hr V (by refine ⟨?_, ?_⟩ <;> first | (simp only [o_line, l_ow, l_con, l_n, f_line, cond_true, cond_false, ij_1, ij_3, c_5]; done) | (simp only [o_line, l_ow, l_con, l_n, f_line, cond_true, cond_false, ij_1, ij_3, c_5]; rfl)) dC_line_25
    ·
      have ij_3 := cj_ix_f hj_3
      refine lv_if_eq (tgt := 24) hx hb dC_line_12 (by decide) (fun _ => ?_) (fun h => absurd (by decide) h)
      refine lv_iconst (v := (-1)) hx hb dC_line_24 (by decide) ?_
      exact cj_reti (n, con, ow) X hr V (by refine ⟨?_, ?_⟩ <;> first | (simp only [o_line, l_ow, l_con, l_n, f_line, cond_true, cond_false, ij_1, ij_3]; done) | (simp only [o_line, l_ow, l_con, l_n, f_line, cond_true, cond_false, ij_1, ij_3]; rfl)) dC_line_25
  ·
    have ij_1 := cj_ix_f hj_1
    refine lv_if_eq (tgt := 24) hx hb dC_line_5 (by decide) (fun _ => ?_) (fun h => absurd (by decide) h)
    refine lv_iconst (v := (-1)) hx hb dC_line_24 (by decide) ?_
    exact cj_reti (n, con, ow) X hr V (by refine ⟨?_, ?_⟩ <;> first | (simp only [o_line, l_ow, l_con, l_n, f_line, cond_true, cond_false, ij_1]; done) | (simp only [o_line, l_ow, l_con, l_n, f_line, cond_true, cond_false, ij_1]; rfl)) dC_line_25
end
section
-- PURE: what the class's loops compute
/-- a place, or none -/
def oI (o : Option Nat) : Int32 := match o with
  | none => -1
  | some q => nI q
theorem cj_subp (a : Nat) : nI a - nI 1 = cj_p a := rfl
theorem cj_nm1 {q : Nat} (h : q < 2 ^ 31) : ¬ nI q = -1 := fun e => by
  have h1 := nI_pos h
  rw [e] at h1
  exact h1 (by decide)
/-- the lines of an edition that count, of the first k owners -/
def cj_ug (ow : Nat → Nat → Int64) (ea : Nat) : Nat → Int64
  | 0 => 0
  | k + 1 => cj_ug ow ea k ||| ow ea k
/-- the pairs of some lines, of the first i -/
def cj_po (pp : Nat → Option Nat) (sm : Int64) : Nat → Int64
  | 0 => 0
  | i + 1 => bif cj_tb sm i then (match pp i with | none => cj_po pp sm i | some q => cj_po pp sm i ||| cj_bit q) else cj_po pp sm i
theorem cj_po_f {pp : Nat → Option Nat} {sm : Int64} {i : Nat} (h : cj_tb sm i = false) : cj_po pp sm (i + 1) = cj_po pp sm i := by
  show (bif cj_tb sm i then _ else _) = _
  rw [h]
  rfl
theorem cj_po_n {pp : Nat → Option Nat} {sm : Int64} {i : Nat} (h : pp i = none) : cj_po pp sm (i + 1) = cj_po pp sm i := by
  show (bif cj_tb sm i then (match pp i with | none => cj_po pp sm i | some q => cj_po pp sm i ||| cj_bit q) else cj_po pp sm i) = _
  rw [h]
  cases cj_tb sm i <;> rfl
theorem cj_po_s {pp : Nat → Option Nat} {sm : Int64} {i q : Nat} (h : cj_tb sm i = true) (h2 : pp i = some q) : cj_po pp sm (i + 1) = cj_po pp sm i ||| cj_bit q := by
  show (bif cj_tb sm i then (match pp i with | none => cj_po pp sm i | some q => cj_po pp sm i ||| cj_bit q) else cj_po pp sm i) = _
  rw [h, h2]
  rfl
/-- the least place from f on, of d, with that content -/
def cj_fd (b : Nat → Int32) (x : Int32) : Nat → Nat → Option Nat
  | 0, _ => none
  | d + 1, f => if b f = x then some f else cj_fd b x d (f + 1)
theorem cj_fd_lt {b : Nat → Int32} {x : Int32} : ∀ {d f q : Nat}, cj_fd b x d f = some q → f ≤ q ∧ q < f + d ∧ b q = x
  | 0, _, _, h => by cases h
  | d + 1, f, q, h => by
    unfold cj_fd at h
    by_cases hb : b f = x
    · rw [if_pos hb] at h
      cases h
      exact ⟨Nat.le_refl _, by omega, hb⟩
    · rw [if_neg hb] at h
      have := cj_fd_lt h
      exact ⟨by omega, by omega, this.2.2⟩
theorem cj_fd_t {b : Nat → Int32} {x : Int32} {d f : Nat} (h : b f = x) : cj_fd b x (d + 1) f = some f := if_pos h
theorem cj_fd_f {b : Nat → Int32} {x : Int32} {d f : Nat} (h : ¬ b f = x) : cj_fd b x (d + 1) f = cj_fd b x d (f + 1) := if_neg h
/-- what the runs of an edition before r hit; which of them add nothing -/
def cj_sn (ed : Nat → Nat) (hz : Nat → Int64) (ea : Nat) : Nat → Int64
  | 0 => 0
  | r + 1 => if ed r = ea then cj_sn ed hz ea r ||| hz r else cj_sn ed hz ea r
def cj_dd (ed : Nat → Nat) (hz : Nat → Int64) (ea : Nat) : Nat → Int32
  | 0 => nI 0
  | r + 1 => if ed r = ea then (if hz r &&& (cj_sn ed hz ea r ^^^ (-1)) = 0 then cj_dd ed hz ea r ||| (nI 1 <<< (nI r &&& 31)) else cj_dd ed hz ea r) else cj_dd ed hz ea r
def f_dead (E rn : Nat) (ed : Nat → Nat) (hz : Nat → Int64) (x : Int32) : Int32 := match cj_ix x E with
  | none => nI 0
  | some ea => cj_dd ed hz ea rn
section CJP1
variable {ed : Nat → Nat} {hz : Nat → Int64} {ea r : Nat}
theorem cj_sn_t (h : ed r = ea) : cj_sn ed hz ea (r + 1) = cj_sn ed hz ea r ||| hz r := if_pos h
theorem cj_sn_f (h : ed r ≠ ea) : cj_sn ed hz ea (r + 1) = cj_sn ed hz ea r := if_neg h
theorem cj_dd_f (h : ed r ≠ ea) : cj_dd ed hz ea (r + 1) = cj_dd ed hz ea r := if_neg h
theorem cj_dd_0 (h : ed r = ea) (h0 : hz r &&& (cj_sn ed hz ea r ^^^ (-1)) = 0) : cj_dd ed hz ea (r + 1) = cj_dd ed hz ea r ||| (nI 1 <<< (nI r &&& 31)) := (if_pos h).trans (if_pos h0)
theorem cj_dd_1 (h : ed r = ea) (h0 : ¬ hz r &&& (cj_sn ed hz ea r ^^^ (-1)) = 0) : cj_dd ed hz ea (r + 1) = cj_dd ed hz ea r := (if_pos h).trans (if_neg h0)
end CJP1
end
section
set_option maxRecDepth 100000 in
set_option maxHeartbeats 4000000 in
theorem lp_C_ungen {p : Program} {l : Launch} {e : Env} {s : State} {m : MethodId} {args : Array Value} {below : List Frame} {meth : Method} {c : Code} {Q : State → Prop} {D : va_G} {kd : Nat → ClassId} {A : Nat → Prop} {H0 : Heap} {ad : Nat → Nat} {E : Nat} {n : Nat → Nat} {cl : Nat → Bool} {con : Nat → Nat → Int32} {ow : Nat → Nat → Int64} {rn : Nat} {ed : Nat → Nat} {co : Nat → Nat} {hz : Nat → Int64} {mp : Nat → Nat → Nat} {pr : Nat → Int32} {cn : Nat} {hs : Nat → Int64} {wg : Nat → Int64} {rs : Nat → Int64} {ch : Int32} (X : cj_X p s m args c meth cC_ungenerated 5 RC D kd) (ea : Nat) (he : ea < 8) : ∀ (d i : Nat) (H : Heap) (locs : List Loc) (ls : Array Slot), i + d = 4 → cj_V D A H0 (wC kd ad E n cl con ow rn ed co hz mp pr cn hs wg rs ch) H locs → lv_has ls 5 [(4, .int (nI i)), (2, .long (cj_ug ow ea i)), (0, .ref (ad 0)), (1, .int (nI ea))] → (∀ (H : Heap) (locs : List Loc) (ls : Array Slot), cj_V D A H0 (wC kd ad E n cl con ow rn ed co hz mp pr cn hs wg rs ch) H locs → lv_has ls 5 [(4, .int (nI 4)), (2, .long (cj_ug ow ea 4)), (0, .ref (ad 0)), (1, .int (nI ea))] → W p l e (cj_rm 0) s m args below meth c H locs 0 0 Q (F0 m 29 ls [])) → W p l e (cj_rm 0) s m args below meth c H locs 0 0 Q (F0 m 5 ls []) := by
  obtain ⟨⟨hx, hb, hml, hown, hts⟩, hK, hlk⟩ := id X
  intro d
  induction d with
  | zero =>
    intro i H locs ls hi V hl kont
    refine lv_iload hx hb dC_ungenerated_5 (lv_at hl 0 rfl) ?_
    refine lv_iconst (v := nI 4) hx hb dC_ungenerated_7 (by decide) ?_
    refine cj_n_ge (tgt := 29) hx hb dC_ungenerated_8 (by decide) (by omega) (by omega) (fun c_1 => ?_) (fun c_1 => ?_)
    ·
      obtain rfl : i = 4 := by omega
      exact kont _ _ _ V (lv_sub hl [0, 1, 2, 3] rfl)
    ·
      exact absurd c_1 (by omega)
  | succ d ih =>
    intro i H locs ls hi V hl kont
    refine lv_iload hx hb dC_ungenerated_5 (lv_at hl 0 rfl) ?_
    refine lv_iconst (v := nI 4) hx hb dC_ungenerated_7 (by decide) ?_
    refine cj_n_ge (tgt := 29) hx hb dC_ungenerated_8 (by decide) (by omega) (by omega) (fun c_1 => ?_) (fun c_1 => ?_)
    ·
      exact absurd c_1 (by omega)
    ·
      refine lv_lload_n hx hb dC_ungenerated_11 rfl (lv_at hl 1 rfl) ?_
      refine lv_aload_n hx hb dC_ungenerated_12 rfl (lv_at hl 2 rfl) ?_
      refine gC 4 X V fl_C_28 (by decide) rfl dC_ungenerated_13 ?_
      refine lv_iload_n hx hb dC_ungenerated_16 rfl (lv_at hl 3 rfl) ?_
      refine rC_owO X V (by omega) dC_ungenerated_17 ?_
      refine lv_iload hx hb dC_ungenerated_18 (lv_at hl 0 rfl) ?_
      refine rC_owR X V (by omega) (by omega) dC_ungenerated_20 ?_
      refine lv_lor hx hb dC_ungenerated_21 ?_
      refine lv_lstore_n (lv' := [(2, .long ((cj_ug ow ea i) ||| (ow ea i))), (4, .int (nI i)), (0, .ref (ad 0)), (1, .int (nI ea))]) hx hb dC_ungenerated_22 rfl hl (by decide) rfl (fun ls hl => ?_)
      refine lv_iinc (v := nI (i + 1)) (lv' := [(4, .int (nI (i + 1))), (2, .long ((cj_ug ow ea i) ||| (ow ea i))), (0, .ref (ad 0)), (1, .int (nI ea))]) hx hb dC_ungenerated_23 hl (k := 1) rfl (cj_inc _) (by decide) rfl (fun ls hl => ?_)
      refine lv_goto (tgt := 5) hx hb dC_ungenerated_26 (by decide) ?_
      exact ih (i + 1) _ _ ls (by omega) V (lv_sub hl [0, 1, 2, 3] rfl) kont
set_option maxRecDepth 100000 in
set_option maxHeartbeats 4000000 in
theorem c_C_ungenerated (l : Launch) (D : va_G) (kd : Nat → ClassId) (ad : Nat → Nat) {E : Nat} {n : Nat → Nat} {cl : Nat → Bool} {con : Nat → Nat → Int32} {ow : Nat → Nat → Int64} {rn : Nat} {ed : Nat → Nat} {co : Nat → Nat} {hz : Nat → Int64} {mp : Nat → Nat → Nat} {pr : Nat → Int32} {cn : Nat} {hs : Nat → Int64} {wg : Nat → Int64} {rs : Nat → Int64} {ch : Int32} (ea : Nat) (he : ea < 8) : cj_Ml (S := Unit) l yC_ungenerated cC_ungenerated 5 (some .long) 0 D kd [.ref (ad 0), .int (nI ea)] (wC kd ad E n cl con ow rn ed co hz mp pr cn hs wg rs ch) (fun r _ => r = cj_ug ow ea 4) (fun _ => wC kd ad E n cl con ow rn ed co hz mp pr cn hs wg rs ch) := by
  refine cj_ofl (by decide) (Nat.le_of_ble_eq_true rfl) ?_
  intro p e s m below meth c A ls X hr V hl
  obtain ⟨⟨hx, hb, hml, hown, hts⟩, hK, hlk⟩ := id X
  have hl : lv_has ls 5 [(0, .ref (ad 0)), (1, .int (nI ea))] := hl
  refine lv_lconst (v := 0) hx hb dC_ungenerated_0 (by decide) ?_
  refine lv_lstore_n (lv' := [(2, .long 0), (0, .ref (ad 0)), (1, .int (nI ea))]) hx hb dC_ungenerated_1 rfl hl (by decide) rfl (fun ls hl => ?_)
  refine lv_iconst (v := nI 0) hx hb dC_ungenerated_2 (by decide) ?_
  refine lv_istore (lv' := [(4, .int (nI 0)), (2, .long 0), (0, .ref (ad 0)), (1, .int (nI ea))]) hx hb dC_ungenerated_3 hl (by decide) rfl (fun ls hl => ?_)
  refine lp_C_ungen X ea he 4 0 _ _ ls rfl V (lv_sub hl [0, 1, 2, 3] rfl) (fun H locs ls V hl => ?_)
  refine lv_lload_n hx hb dC_ungenerated_29 rfl (lv_at hl 1 rfl) ?_
  exact cj_retl () X hr V rfl dC_ungenerated_30
set_option maxRecDepth 100000 in
set_option maxHeartbeats 4000000 in
theorem lp_C_pairsOf {p : Program} {l : Launch} {e : Env} {s : State} {m : MethodId} {args : Array Value} {below : List Frame} {meth : Method} {c : Code} {Q : State → Prop} {D : va_G} {kd : Nat → ClassId} {A : Nat → Prop} {H0 : Heap} {ad : Nat → Nat} {E : Nat} {n : Nat → Nat} {cl : Nat → Bool} {con : Nat → Nat → Int32} {ow : Nat → Nat → Int64} {rn : Nat} {ed : Nat → Nat} {co : Nat → Nat} {hz : Nat → Int64} {mp : Nat → Nat → Nat} {pr : Nat → Int32} {cn : Nat} {hs : Nat → Int64} {wg : Nat → Int64} {rs : Nat → Int64} {ch : Int32} (X : cj_X p s m args c meth cC_pairsOf 7 RC D kd) (ea : Nat) (he : ea < 8) (sm : Int64) (pp : Nat → Option Nat) (hn : ∀ i, n i ≤ 40) (hpr : ∀ i, i < n ea → pr i = oI (pp i)) (hpp : ∀ i q, pp i = some q → q < 40) : ∀ (d i : Nat) (H : Heap) (locs : List Loc) (ls : Array Slot), i + d = n ea → cj_V D A H0 (wC kd ad E n cl con ow rn ed co hz mp pr cn hs wg rs ch) H locs → lv_has ls 7 [(6, .int (nI i)), (4, .long (cj_po pp sm i)), (0, .ref (ad 0)), (1, .int (nI ea)), (2, .long sm)] → (∀ (H : Heap) (locs : List Loc) (ls : Array Slot), cj_V D A H0 (wC kd ad E n cl con ow rn ed co hz mp pr cn hs wg rs ch) H locs → lv_has ls 7 [(6, .int (nI (n ea))), (4, .long (cj_po pp sm (n ea))), (0, .ref (ad 0)), (1, .int (nI ea)), (2, .long sm)] → W p l e (cj_rm 1) s m args below meth c H locs 0 0 Q (F0 m 61 ls [])) → W p l e (cj_rm 1) s m args below meth c H locs 0 0 Q (F0 m 6 ls []) := by
  obtain ⟨⟨hx, hb, hml, hown, hts⟩, hK, hlk⟩ := id X
  intro d
  induction d with
  | zero =>
    intro i H locs ls hi V hl kont
    refine lv_iload hx hb dC_pairsOf_6 (lv_at hl 0 rfl) ?_
    refine lv_aload_n hx hb dC_pairsOf_8 rfl (lv_at hl 2 rfl) ?_
    refine gC 1 X V fl_C_13 (by decide) rfl dC_pairsOf_9 ?_
    refine lv_iload_n hx hb dC_pairsOf_12 rfl (lv_at hl 3 rfl) ?_
    refine rC_n X V (by omega) dC_pairsOf_13 ?_
    have f_e_1 := hn ea
    refine cj_n_ge (tgt := 61) hx hb dC_pairsOf_14 (by decide) (by omega) (by omega) (fun c_2 => ?_) (fun c_2 => ?_)
    ·
      obtain rfl : i = n ea := by omega
      exact kont _ _ _ V (lv_sub hl [0, 1, 2, 3, 4] rfl)
    ·
      exact absurd c_2 (by omega)
  | succ d ih =>
    intro i H locs ls hi V hl kont
    refine lv_iload hx hb dC_pairsOf_6 (lv_at hl 0 rfl) ?_
    refine lv_aload_n hx hb dC_pairsOf_8 rfl (lv_at hl 2 rfl) ?_
    refine gC 1 X V fl_C_13 (by decide) rfl dC_pairsOf_9 ?_
    refine lv_iload_n hx hb dC_pairsOf_12 rfl (lv_at hl 3 rfl) ?_
    refine rC_n X V (by omega) dC_pairsOf_13 ?_
    have f_e_1 := hn ea
    refine cj_n_ge (tgt := 61) hx hb dC_pairsOf_14 (by decide) (by omega) (by omega) (fun c_2 => ?_) (fun c_2 => ?_)
    ·
      exact absurd c_2 (by omega)
    ·
      refine lv_lload_n hx hb dC_pairsOf_17 rfl (lv_at hl 4 rfl) ?_
      refine lv_iload hx hb dC_pairsOf_18 (lv_at hl 0 rfl) ?_
      refine cj_csl X V (c_C_bitOf l D kd ad i (by omega)) ml_C_67 st_C_bitOf in_C cd_C_bitOf hd_C_bitOf ⟨by decide, by decide⟩ ⟨Nat.le_refl _, Nat.le_refl _⟩ hl.1 rfl (Nat.le_of_ble_eq_true rfl) dC_pairsOf_20 (fun r_9 u_9 H locs hw V => ?_)
      obtain rfl := hw
      refine lv_land hx hb dC_pairsOf_23 ?_
      refine lv_lconst (v := 0) hx hb dC_pairsOf_24 (by decide) ?_
      refine cj_l_eq (tgt := 55) hx hb dC_pairsOf_25 dC_pairsOf_26 (by decide) (fun c_3 => ?_) (fun c_3 => ?_)
      ·
        refine lv_iinc (v := nI (i + 1)) (lv' := [(6, .int (nI (i + 1))), (4, .long (cj_po pp sm i)), (0, .ref (ad 0)), (1, .int (nI ea)), (2, .long sm)]) hx hb dC_pairsOf_55 hl (k := 0) rfl (cj_inc _) (by decide) rfl (fun ls hl => ?_)
        refine lv_goto (tgt := 6) hx hb dC_pairsOf_58 (by decide) ?_
        exact ih (i + 1) _ _ ls (by omega) V (lv_sub hl [0, 1, 2, 3, 4] (by rw [cj_po_f (cj_ab_f (by omega) c_3)]; rfl)) kont
      ·
        rcases hq : pp i with _ | q
        ·
          have hpi : pr i = (-1) := by rw [hpr i (by omega), hq]; rfl
          refine lv_aload_n hx hb dC_pairsOf_29 rfl (lv_at hl 2 rfl) ?_
          refine gC 10 X V fl_C_47 (by decide) rfl dC_pairsOf_30 ?_
          refine lv_iload hx hb dC_pairsOf_33 (lv_at hl 0 rfl) ?_
          refine rC_pr X V (by omega) dC_pairsOf_35 ?_
          refine cj_ti hpi ?_
          refine lv_iconst (v := (-1)) hx hb dC_pairsOf_36 (by decide) ?_
          refine lv_icmp_eq (tgt := 55) hx hb dC_pairsOf_37 (by decide) (fun _ => ?_) (fun h => absurd rfl h)
          refine lv_iinc (v := nI (i + 1)) (lv' := [(6, .int (nI (i + 1))), (4, .long (cj_po pp sm i)), (0, .ref (ad 0)), (1, .int (nI ea)), (2, .long sm)]) hx hb dC_pairsOf_55 hl (k := 0) rfl (cj_inc _) (by decide) rfl (fun ls hl => ?_)
          refine lv_goto (tgt := 6) hx hb dC_pairsOf_58 (by decide) ?_
          exact ih (i + 1) _ _ ls (by omega) V (lv_sub hl [0, 1, 2, 3, 4] (by rw [cj_po_n hq]; rfl)) kont
        ·
          have hpi : pr i = nI q := by rw [hpr i (by omega), hq]; rfl
          have hq40 := hpp i q hq
          refine lv_aload_n hx hb dC_pairsOf_29 rfl (lv_at hl 2 rfl) ?_
          refine gC 10 X V fl_C_47 (by decide) rfl dC_pairsOf_30 ?_
          refine lv_iload hx hb dC_pairsOf_33 (lv_at hl 0 rfl) ?_
          refine rC_pr X V (by omega) dC_pairsOf_35 ?_
          refine cj_ti hpi ?_
          refine lv_iconst (v := (-1)) hx hb dC_pairsOf_36 (by decide) ?_
          refine lv_icmp_eq (tgt := 55) hx hb dC_pairsOf_37 (by decide) (fun h => absurd h (cj_nm1 (by omega))) (fun _ => ?_)
          refine lv_lload hx hb dC_pairsOf_40 (lv_at hl 1 rfl) ?_
          refine lv_aload_n hx hb dC_pairsOf_42 rfl (lv_at hl 2 rfl) ?_
          refine gC 10 X V fl_C_47 (by decide) rfl dC_pairsOf_43 ?_
          refine lv_iload hx hb dC_pairsOf_46 (lv_at hl 0 rfl) ?_
          refine rC_pr X V (by omega) dC_pairsOf_48 ?_
          refine cj_ti hpi ?_
          refine cj_csl X V (c_C_bitOf l D kd ad q (by omega)) ml_C_67 st_C_bitOf in_C cd_C_bitOf hd_C_bitOf ⟨by decide, by decide⟩ ⟨Nat.le_refl _, Nat.le_refl _⟩ hl.1 rfl (Nat.le_of_ble_eq_true rfl) dC_pairsOf_49 (fun r_9 u_9 H locs hw V => ?_)
          obtain rfl := hw
          refine lv_lor hx hb dC_pairsOf_52 ?_
          refine lv_lstore (lv' := [(4, .long ((cj_po pp sm i) ||| (cj_bit q))), (6, .int (nI i)), (0, .ref (ad 0)), (1, .int (nI ea)), (2, .long sm)]) hx hb dC_pairsOf_53 hl (by decide) rfl (fun ls hl => ?_)
          refine lv_iinc (v := nI (i + 1)) (lv' := [(6, .int (nI (i + 1))), (4, .long ((cj_po pp sm i) ||| (cj_bit q))), (0, .ref (ad 0)), (1, .int (nI ea)), (2, .long sm)]) hx hb dC_pairsOf_55 hl (k := 1) rfl (cj_inc _) (by decide) rfl (fun ls hl => ?_)
          refine lv_goto (tgt := 6) hx hb dC_pairsOf_58 (by decide) ?_
          exact ih (i + 1) _ _ ls (by omega) V (lv_sub hl [0, 1, 2, 3, 4] (by rw [cj_po_s (cj_ab_t (by omega) c_3) hq]; rfl)) kont
set_option maxRecDepth 100000 in
set_option maxHeartbeats 4000000 in
theorem c_C_pairsOf (l : Launch) (D : va_G) (kd : Nat → ClassId) (ad : Nat → Nat) {E : Nat} {n : Nat → Nat} {cl : Nat → Bool} {con : Nat → Nat → Int32} {ow : Nat → Nat → Int64} {rn : Nat} {ed : Nat → Nat} {co : Nat → Nat} {hz : Nat → Int64} {mp : Nat → Nat → Nat} {pr : Nat → Int32} {cn : Nat} {hs : Nat → Int64} {wg : Nat → Int64} {rs : Nat → Int64} {ch : Int32} (ea : Nat) (he : ea < 8) (sm : Int64) (pp : Nat → Option Nat) (hn : ∀ i, n i ≤ 40) (hpr : ∀ i, i < n ea → pr i = oI (pp i)) (hpp : ∀ i q, pp i = some q → q < 40) : cj_Ml (S := Unit) l yC_pairsOf cC_pairsOf 7 (some .long) 1 D kd [.ref (ad 0), .int (nI ea), .long sm] (wC kd ad E n cl con ow rn ed co hz mp pr cn hs wg rs ch) (fun r _ => r = cj_po pp sm (n ea)) (fun _ => wC kd ad E n cl con ow rn ed co hz mp pr cn hs wg rs ch) := by
  refine cj_ofl (by decide) (Nat.le_of_ble_eq_true rfl) ?_
  intro p e s m below meth c A ls X hr V hl
  obtain ⟨⟨hx, hb, hml, hown, hts⟩, hK, hlk⟩ := id X
  have hl : lv_has ls 7 [(0, .ref (ad 0)), (1, .int (nI ea)), (2, .long sm)] := hl
  refine lv_lconst (v := 0) hx hb dC_pairsOf_0 (by decide) ?_
  refine lv_lstore (lv' := [(4, .long 0), (0, .ref (ad 0)), (1, .int (nI ea)), (2, .long sm)]) hx hb dC_pairsOf_1 hl (by decide) rfl (fun ls hl => ?_)
  refine lv_iconst (v := nI 0) hx hb dC_pairsOf_3 (by decide) ?_
  refine lv_istore (lv' := [(6, .int (nI 0)), (4, .long 0), (0, .ref (ad 0)), (1, .int (nI ea)), (2, .long sm)]) hx hb dC_pairsOf_4 hl (by decide) rfl (fun ls hl => ?_)
  refine lp_C_pairsOf X ea he sm pp hn hpr hpp (n ea) 0 _ _ ls (by omega) V (lv_sub hl [0, 1, 2, 3, 4] rfl) (fun H locs ls V hl => ?_)
  refine lv_lload hx hb dC_pairsOf_61 (lv_at hl 1 rfl) ?_
  exact cj_retl () X hr V rfl dC_pairsOf_63
set_option maxRecDepth 100000 in
set_option maxHeartbeats 4000000 in
theorem lp_C_placeOf {p : Program} {l : Launch} {e : Env} {s : State} {m : MethodId} {args : Array Value} {below : List Frame} {meth : Method} {c : Code} {Q : State → Prop} {D : va_G} {kd : Nat → ClassId} {A : Nat → Prop} {H0 : Heap} {ad : Nat → Nat} {E : Nat} {n : Nat → Nat} {cl : Nat → Bool} {con : Nat → Nat → Int32} {ow : Nat → Nat → Int64} {rn : Nat} {ed : Nat → Nat} {co : Nat → Nat} {hz : Nat → Int64} {mp : Nat → Nat → Nat} {pr : Nat → Int32} {cn : Nat} {hs : Nat → Int64} {wg : Nat → Int64} {rs : Nat → Int64} {ch : Int32} (X : cj_X p s m args c meth cC_placeOf 5 RC D kd) (x : Int32) (ea : Nat) (he : ea < 8) (hn : ∀ i, n i ≤ 40) : ∀ (d i : Nat) (H : Heap) (locs : List Loc) (ls : Array Slot), i + d = n ea → (∀ (q : Nat) (H : Heap) (locs : List Loc) (ls : Array Slot), cj_fd (con ea) x d i = some q → cj_V D A H0 (wC kd ad E n cl con ow rn ed co hz mp pr cn hs wg rs ch) H locs → lv_has ls 5 [(4, .int (nI q)), (0, .ref (ad 0)), (1, .int x), (2, .int (nI ea))] → W p l e (cj_rm 0) s m args below meth c H locs 0 0 Q (F0 m 27 ls [])) → cj_V D A H0 (wC kd ad E n cl con ow rn ed co hz mp pr cn hs wg rs ch) H locs → lv_has ls 5 [(4, .int (nI i)), (0, .ref (ad 0)), (1, .int x), (2, .int (nI ea))] → (∀ (H : Heap) (locs : List Loc) (ls : Array Slot), cj_fd (con ea) x d i = none → cj_V D A H0 (wC kd ad E n cl con ow rn ed co hz mp pr cn hs wg rs ch) H locs → lv_has ls 5 [(4, .int (nI (n ea))), (0, .ref (ad 0)), (1, .int x), (2, .int (nI ea))] → W p l e (cj_rm 0) s m args below meth c H locs 0 0 Q (F0 m 36 ls [])) → W p l e (cj_rm 0) s m args below meth c H locs 0 0 Q (F0 m 3 ls []) := by
  obtain ⟨⟨hx, hb, hml, hown, hts⟩, hK, hlk⟩ := id X
  intro d
  induction d with
  | zero =>
    intro i H locs ls hi kq V hl kont
    refine lv_iload hx hb dC_placeOf_3 (lv_at hl 0 rfl) ?_
    refine lv_aload_n hx hb dC_placeOf_5 rfl (lv_at hl 1 rfl) ?_
    refine gC 1 X V fl_C_13 (by decide) rfl dC_placeOf_6 ?_
    refine lv_iload_n hx hb dC_placeOf_9 rfl (lv_at hl 3 rfl) ?_
    refine rC_n X V (by omega) dC_placeOf_10 ?_
    have f_e_1 := hn ea
    refine cj_n_ge (tgt := 36) hx hb dC_placeOf_11 (by decide) (by omega) (by omega) (fun c_2 => ?_) (fun c_2 => ?_)
    ·
      obtain rfl : i = n ea := by omega
      exact kont _ _ _ rfl V (lv_sub hl [0, 1, 2, 3] rfl)
    ·
      exact absurd c_2 (by omega)
  | succ d ih =>
    intro i H locs ls hi kq V hl kont
    refine lv_iload hx hb dC_placeOf_3 (lv_at hl 0 rfl) ?_
    refine lv_aload_n hx hb dC_placeOf_5 rfl (lv_at hl 1 rfl) ?_
    refine gC 1 X V fl_C_13 (by decide) rfl dC_placeOf_6 ?_
    refine lv_iload_n hx hb dC_placeOf_9 rfl (lv_at hl 3 rfl) ?_
    refine rC_n X V (by omega) dC_placeOf_10 ?_
    have f_e_1 := hn ea
    refine cj_n_ge (tgt := 36) hx hb dC_placeOf_11 (by decide) (by omega) (by omega) (fun c_2 => ?_) (fun c_2 => ?_)
    ·
      exact absurd c_2 (by omega)
    ·
      refine lv_aload_n hx hb dC_placeOf_14 rfl (lv_at hl 1 rfl) ?_
      refine gC 3 X V fl_C_23 (by decide) rfl dC_placeOf_15 ?_
      refine lv_iload_n hx hb dC_placeOf_18 rfl (lv_at hl 3 rfl) ?_
      refine rC_conO X V (by omega) dC_placeOf_19 ?_
      refine lv_iload hx hb dC_placeOf_20 (lv_at hl 0 rfl) ?_
      refine rC_conR X V (by omega) (by omega) dC_placeOf_22 ?_
      refine lv_iload_n hx hb dC_placeOf_23 rfl (lv_at hl 2 rfl) ?_
      refine lv_icmp_ne (tgt := 30) hx hb dC_placeOf_24 (by decide) (fun c_3 => ?_) (fun c_3 => ?_)
      ·
        refine lv_iinc (v := nI (i + 1)) (lv' := [(4, .int (nI (i + 1))), (0, .ref (ad 0)), (1, .int x), (2, .int (nI ea))]) hx hb dC_placeOf_30 hl (k := 0) rfl (cj_inc _) (by decide) rfl (fun ls hl => ?_)
        refine lv_goto (tgt := 3) hx hb dC_placeOf_33 (by decide) ?_
        exact ih (i + 1) _ _ ls (by omega) (fun q H locs ls h => kq q H locs ls (by rw [cj_fd_f c_3]; exact h)) V (lv_sub hl [0, 1, 2, 3] rfl) (fun H locs ls h => kont H locs ls (by rw [cj_fd_f c_3]; exact h))
      ·
        exact kq i _ _ ls (cj_fd_t c_3) V (lv_sub hl [0, 1, 2, 3] rfl)
set_option maxRecDepth 100000 in
set_option maxHeartbeats 4000000 in
theorem c_C_placeOf (l : Launch) (D : va_G) (kd : Nat → ClassId) (ad : Nat → Nat) {E : Nat} {n : Nat → Nat} {cl : Nat → Bool} {con : Nat → Nat → Int32} {ow : Nat → Nat → Int64} {rn : Nat} {ed : Nat → Nat} {co : Nat → Nat} {hz : Nat → Int64} {mp : Nat → Nat → Nat} {pr : Nat → Int32} {cn : Nat} {hs : Nat → Int64} {wg : Nat → Int64} {rs : Nat → Int64} {ch : Int32} (x : Int32) (ea : Nat) (he : ea < 8) (hn : ∀ i, n i ≤ 40) (f : Nat) (hf : f ≤ n ea) : cj_Mi (S := Unit) l yC_placeOf cC_placeOf 5 (some .int) 0 D kd [.ref (ad 0), .int x, .int (nI ea), .int (nI f)] (wC kd ad E n cl con ow rn ed co hz mp pr cn hs wg rs ch) (fun r _ => r = oI (cj_fd (con ea) x (n ea - f) f)) (fun _ => wC kd ad E n cl con ow rn ed co hz mp pr cn hs wg rs ch) := by
  refine cj_ofi (by decide) (Nat.le_of_ble_eq_true rfl) ?_
  intro p e s m below meth c A ls X hr V hl
  obtain ⟨⟨hx, hb, hml, hown, hts⟩, hK, hlk⟩ := id X
  have hl : lv_has ls 5 [(0, .ref (ad 0)), (1, .int x), (2, .int (nI ea)), (3, .int (nI f))] := hl
  refine lv_iload_n hx hb dC_placeOf_0 rfl (lv_at hl 3 rfl) ?_
  refine lv_istore (lv' := [(4, .int (nI f)), (0, .ref (ad 0)), (1, .int x), (2, .int (nI ea)), (3, .int (nI f))]) hx hb dC_placeOf_1 hl (by decide) rfl (fun ls hl => ?_)
  have hni := hn ea
  refine lp_C_placeOf X x ea he hn (n ea - f) f _ _ ls (by omega) (fun q H locs ls hq V hl => ?_) V (lv_sub hl [0, 1, 2, 3] rfl) (fun H locs ls hq V hl => ?_)
  ·
    refine lv_iload hx hb dC_placeOf_27 (lv_at hl 0 rfl) ?_
    exact cj_reti () X hr V (by rw [hq]; rfl) dC_placeOf_29
  ·
    refine lv_iconst (v := (-1)) hx hb dC_placeOf_36 (by decide) ?_
    exact cj_reti () X hr V (by rw [hq]; rfl) dC_placeOf_37
set_option maxRecDepth 100000 in
set_option maxHeartbeats 4000000 in
theorem lp_C_dead {p : Program} {l : Launch} {e : Env} {s : State} {m : MethodId} {args : Array Value} {below : List Frame} {meth : Method} {c : Code} {Q : State → Prop} {D : va_G} {kd : Nat → ClassId} {A : Nat → Prop} {H0 : Heap} {ad : Nat → Nat} {E : Nat} {n : Nat → Nat} {cl : Nat → Bool} {con : Nat → Nat → Int32} {ow : Nat → Nat → Int64} {rn : Nat} {ed : Nat → Nat} {co : Nat → Nat} {hz : Nat → Int64} {mp : Nat → Nat → Nat} {pr : Nat → Int32} {cn : Nat} {hs : Nat → Int64} {wg : Nat → Int64} {rs : Nat → Int64} {ch : Int32} (X : cj_X p s m args c meth cC_dead 6 RC D kd) (hR : rn ≤ 14) (ea : Nat) (he : ea < 8) (hed : ∀ r, r < rn → ed r < 8) : ∀ (d i : Nat) (H : Heap) (locs : List Loc) (ls : Array Slot), i + d = rn → cj_V D A H0 (wC kd ad E n cl con ow rn ed co hz mp pr cn hs wg rs ch) H locs → lv_has ls 6 [(5, .int (nI i)), (4, .int (cj_dd ed hz ea i)), (2, .long (cj_sn ed hz ea i)), (0, .ref (ad 0)), (1, .int (nI ea))] → (∀ (H : Heap) (locs : List Loc) (ls : Array Slot), cj_V D A H0 (wC kd ad E n cl con ow rn ed co hz mp pr cn hs wg rs ch) H locs → lv_has ls 6 [(5, .int (nI rn)), (4, .int (cj_dd ed hz ea rn)), (2, .long (cj_sn ed hz ea rn)), (0, .ref (ad 0)), (1, .int (nI ea))] → W p l e (cj_rm 1) s m args below meth c H locs 0 0 Q (F0 m 81 ls [])) → W p l e (cj_rm 1) s m args below meth c H locs 0 0 Q (F0 m 18 ls []) := by
  obtain ⟨⟨hx, hb, hml, hown, hts⟩, hK, hlk⟩ := id X
  intro d
  induction d with
  | zero =>
    intro i H locs ls hi V hl kont
    refine lv_iload hx hb dC_dead_18 (lv_at hl 0 rfl) ?_
    refine lv_aload_n hx hb dC_dead_20 rfl (lv_at hl 3 rfl) ?_
    refine gC 5 X V fl_C_31 (by decide) rfl dC_dead_21 ?_
    refine cj_n_ge (tgt := 81) hx hb dC_dead_24 (by decide) (by omega) (by omega) (fun c_1 => ?_) (fun c_1 => ?_)
    ·
      obtain rfl : i = rn := by omega
      exact kont _ _ _ V (lv_sub hl [0, 1, 2, 3, 4] rfl)
    ·
      exact absurd c_1 (by omega)
  | succ d ih =>
    intro i H locs ls hi V hl kont
    refine lv_iload hx hb dC_dead_18 (lv_at hl 0 rfl) ?_
    refine lv_aload_n hx hb dC_dead_20 rfl (lv_at hl 3 rfl) ?_
    refine gC 5 X V fl_C_31 (by decide) rfl dC_dead_21 ?_
    refine cj_n_ge (tgt := 81) hx hb dC_dead_24 (by decide) (by omega) (by omega) (fun c_1 => ?_) (fun c_1 => ?_)
    ·
      exact absurd c_1 (by omega)
    ·
      refine lv_aload_n hx hb dC_dead_27 rfl (lv_at hl 3 rfl) ?_
      refine gC 6 X V fl_C_34 (by decide) rfl dC_dead_28 ?_
      refine lv_iload hx hb dC_dead_31 (lv_at hl 0 rfl) ?_
      refine rC_ed X V (by omega) dC_dead_33 ?_
      have f_e_2 := hed i (by omega)
      refine lv_iload_n hx hb dC_dead_34 rfl (lv_at hl 4 rfl) ?_
      refine cj_n_ne (tgt := 75) hx hb dC_dead_35 (by decide) (by omega) (by omega) (fun c_3 => ?_) (fun c_3 => ?_)
      ·
        refine lv_iinc (v := nI (i + 1)) (lv' := [(5, .int (nI (i + 1))), (4, .int (cj_dd ed hz ea i)), (2, .long (cj_sn ed hz ea i)), (0, .ref (ad 0)), (1, .int (nI ea))]) hx hb dC_dead_75 hl (k := 0) rfl (cj_inc _) (by decide) rfl (fun ls hl => ?_)
        refine lv_goto (tgt := 18) hx hb dC_dead_78 (by decide) ?_
        exact ih (i + 1) _ _ ls (by omega) V (lv_sub hl [0, 1, 2, 3, 4] (by rw [cj_dd_f c_3, cj_sn_f c_3]; rfl)) kont
      ·
        refine lv_aload_n hx hb dC_dead_38 rfl (lv_at hl 3 rfl) ?_
        refine gC 8 X V fl_C_40 (by decide) rfl dC_dead_39 ?_
        refine lv_iload hx hb dC_dead_42 (lv_at hl 0 rfl) ?_
        refine rC_hi X V (by omega) dC_dead_44 ?_
        refine lv_lload_n hx hb dC_dead_45 rfl (lv_at hl 2 rfl) ?_
        refine lv_ldc2 hx hb hown (hts _ kl_C_112) dC_dead_46 ?_
        refine lv_lxor hx hb dC_dead_49 ?_
        refine lv_land hx hb dC_dead_50 ?_
        refine lv_lconst (v := 0) hx hb dC_dead_51 (by decide) ?_
        refine cj_l_ne (tgt := 65) hx hb dC_dead_52 dC_dead_53 (by decide) (fun c_4 => ?_) (fun c_4 => ?_)
        ·
          refine lv_lload_n hx hb dC_dead_65 rfl (lv_at hl 2 rfl) ?_
          refine lv_aload_n hx hb dC_dead_66 rfl (lv_at hl 3 rfl) ?_
          refine gC 8 X V fl_C_40 (by decide) rfl dC_dead_67 ?_
          refine lv_iload hx hb dC_dead_70 (lv_at hl 0 rfl) ?_
          refine rC_hi X V (by omega) dC_dead_72 ?_
          refine lv_lor hx hb dC_dead_73 ?_
          refine lv_lstore_n (lv' := [(2, .long ((cj_sn ed hz ea i) ||| (hz i))), (5, .int (nI i)), (4, .int (cj_dd ed hz ea i)), (0, .ref (ad 0)), (1, .int (nI ea))]) hx hb dC_dead_74 rfl hl (by decide) rfl (fun ls hl => ?_)
          refine lv_iinc (v := nI (i + 1)) (lv' := [(5, .int (nI (i + 1))), (2, .long ((cj_sn ed hz ea i) ||| (hz i))), (4, .int (cj_dd ed hz ea i)), (0, .ref (ad 0)), (1, .int (nI ea))]) hx hb dC_dead_75 hl (k := 1) rfl (cj_inc _) (by decide) rfl (fun ls hl => ?_)
          refine lv_goto (tgt := 18) hx hb dC_dead_78 (by decide) ?_
          exact ih (i + 1) _ _ ls (by omega) V (lv_sub hl [0, 2, 1, 3, 4] (by rw [cj_dd_1 c_3 c_4, cj_sn_t c_3]; rfl)) kont
        ·
          refine lv_iload hx hb dC_dead_56 (lv_at hl 1 rfl) ?_
          refine lv_iconst (v := nI 1) hx hb dC_dead_58 (by decide) ?_
          refine lv_iload hx hb dC_dead_59 (lv_at hl 0 rfl) ?_
          refine lv_ishl hx hb dC_dead_61 ?_
          refine lv_ior hx hb dC_dead_62 ?_
          refine lv_istore (lv' := [(4, .int ((cj_dd ed hz ea i) ||| ((nI 1) <<< ((nI i) &&& 31)))), (5, .int (nI i)), (2, .long (cj_sn ed hz ea i)), (0, .ref (ad 0)), (1, .int (nI ea))]) hx hb dC_dead_63 hl (by decide) rfl (fun ls hl => ?_)
          refine lv_lload_n hx hb dC_dead_65 rfl (lv_at hl 2 rfl) ?_
          refine lv_aload_n hx hb dC_dead_66 rfl (lv_at hl 3 rfl) ?_
          refine gC 8 X V fl_C_40 (by decide) rfl dC_dead_67 ?_
          refine lv_iload hx hb dC_dead_70 (lv_at hl 1 rfl) ?_
          refine rC_hi X V (by omega) dC_dead_72 ?_
          refine lv_lor hx hb dC_dead_73 ?_
          refine lv_lstore_n (lv' := [(2, .long ((cj_sn ed hz ea i) ||| (hz i))), (4, .int ((cj_dd ed hz ea i) ||| ((nI 1) <<< ((nI i) &&& 31)))), (5, .int (nI i)), (0, .ref (ad 0)), (1, .int (nI ea))]) hx hb dC_dead_74 rfl hl (by decide) rfl (fun ls hl => ?_)
          refine lv_iinc (v := nI (i + 1)) (lv' := [(5, .int (nI (i + 1))), (2, .long ((cj_sn ed hz ea i) ||| (hz i))), (4, .int ((cj_dd ed hz ea i) ||| ((nI 1) <<< ((nI i) &&& 31)))), (0, .ref (ad 0)), (1, .int (nI ea))]) hx hb dC_dead_75 hl (k := 2) rfl (cj_inc _) (by decide) rfl (fun ls hl => ?_)
          refine lv_goto (tgt := 18) hx hb dC_dead_78 (by decide) ?_
          exact ih (i + 1) _ _ ls (by omega) V (lv_sub hl [0, 2, 1, 3, 4] (by rw [cj_dd_0 c_3 c_4, cj_sn_t c_3]; rfl)) kont
set_option maxRecDepth 100000 in
set_option maxHeartbeats 4000000 in
theorem c_C_dead (l : Launch) (D : va_G) (kd : Nat → ClassId) (ad : Nat → Nat) {E : Nat} {n : Nat → Nat} {cl : Nat → Bool} {con : Nat → Nat → Int32} {ow : Nat → Nat → Int64} {rn : Nat} {ed : Nat → Nat} {co : Nat → Nat} {hz : Nat → Int64} {mp : Nat → Nat → Nat} {pr : Nat → Int32} {cn : Nat} {hs : Nat → Int64} {wg : Nat → Int64} {rs : Nat → Int64} {ch : Int32} (hE : E ≤ 8) (hn : ∀ i, n i ≤ 40) (hR : rn ≤ 14) (hed : ∀ r, r < rn → ed r < E) (hco : ∀ r, co r ≤ 100000) (x : Int32) : cj_Mi (S := Unit) l yC_dead cC_dead 6 (some .int) 1 D kd [.ref (ad 0), .int x] (wC kd ad E n cl con ow rn ed co hz mp pr cn hs wg rs ch) (fun r _ => r = f_dead E rn ed hz x) (fun _ => wC kd ad E n cl con ow rn ed co hz mp pr cn hs wg rs ch) := by
  refine cj_ofi (by decide) (Nat.le_of_ble_eq_true rfl) ?_
  intro p e s m below meth c A ls X hr V hl
  obtain ⟨⟨hx, hb, hml, hown, hts⟩, hK, hlk⟩ := id X
  have hl : lv_has ls 6 [(0, .ref (ad 0)), (1, .int x)] := hl
  refine lv_aload_n hx hb dC_dead_0 rfl (lv_at hl 0 rfl) ?_
  refine lv_iload_n hx hb dC_dead_1 rfl (lv_at hl 1 rfl) ?_
  refine cj_cvi X V (c_C_isEdition l D kd ad hE x) 0 1 rfl rfl rfl ml_C_60 im_C_isEdition se_C_isEdition in_C cd_C_isEdition hd_C_isEdition ⟨by decide, by decide⟩ ⟨Nat.le_refl _, Nat.le_refl _⟩ hl.1 rfl (Nat.le_of_ble_eq_true rfl) dC_dead_2 (fun r_9 u_9 H locs hw V => ?_)
  rcases hw with ⟨rfl, j_1, hj_1, rfl⟩ | ⟨rfl, hj_1⟩
  ·
    have ij_1 := cj_ix_t hj_1 (show E < 2 ^ 31 by omega)
    refine lv_if_ne (tgt := 10) hx hb dC_dead_5 (by decide) (fun _ => ?_) (fun h => absurd h (by decide))
    refine lv_lconst (v := 0) hx hb dC_dead_10 (by decide) ?_
    refine lv_lstore_n (lv' := [(2, .long 0), (0, .ref (ad 0)), (1, .int (nI j_1))]) hx hb dC_dead_11 rfl hl (by decide) rfl (fun ls hl => ?_)
    refine lv_iconst (v := nI 0) hx hb dC_dead_12 (by decide) ?_
    refine lv_istore (lv' := [(4, .int (nI 0)), (2, .long 0), (0, .ref (ad 0)), (1, .int (nI j_1))]) hx hb dC_dead_13 hl (by decide) rfl (fun ls hl => ?_)
    refine lv_iconst (v := nI 0) hx hb dC_dead_15 (by decide) ?_
    refine lv_istore (lv' := [(5, .int (nI 0)), (4, .int (nI 0)), (2, .long 0), (0, .ref (ad 0)), (1, .int (nI j_1))]) hx hb dC_dead_16 hl (by decide) rfl (fun ls hl => ?_)
    refine lp_C_dead X hR j_1 (by omega) (fun r h => by have := hed r h; omega) rn 0 _ _ ls (by omega) V (lv_sub hl [0, 1, 2, 3, 4] rfl) (fun H locs ls V hl => ?_)
    refine lv_iload hx hb dC_dead_81 (lv_at hl 1 rfl) ?_
    exact cj_reti () X hr V (by simp only [f_dead, ij_1]) dC_dead_83
  ·
    have ij_1 := cj_ix_f hj_1
    refine lv_if_ne (tgt := 10) hx hb dC_dead_5 (by decide) (fun h => absurd (by decide) h) (fun _ => ?_)
    refine lv_iconst (v := nI 0) hx hb dC_dead_8 (by decide) ?_
    exact cj_reti () X hr V (by simp only [f_dead, ij_1]) dC_dead_9
end
section
-- PURE: how many pairs two rows of contents can have from places on
def cj_row (x : Int32) (b : Nat → Int32) (w : Nat) (prev : Nat → Nat) : Nat → Nat
  | 0 => 0
  | q + 1 => if x = b (w - (q + 1)) then prev q + 1 else max (prev (q + 1)) (cj_row x b w prev q)
def cj_lcs (a b : Nat → Int32) (h w : Nat) : Nat → Nat → Nat
  | 0 => fun _ => 0
  | k + 1 => cj_row (a (h - (k + 1))) b w (cj_lcs a b h w k)
def cj_T (a b : Nat → Int32) (h w i j : Nat) : Nat := cj_lcs a b h w (h - i) (w - j)
section CJP2
variable {a b : Nat → Int32} {h w : Nat}
theorem cj_lcs_q0 : ∀ k : Nat, cj_lcs a b h w k 0 = 0
  | 0 => rfl
  | _ + 1 => rfl
theorem cj_T_h (j : Nat) : cj_T a b h w h j = 0 := by
  unfold cj_T
  rw [Nat.sub_self]
  rfl
theorem cj_T_w (i : Nat) : cj_T a b h w i w = 0 := by
  unfold cj_T
  rw [Nat.sub_self]
  exact cj_lcs_q0 _
theorem cj_T_step {i j : Nat} (hi : i < h) (hj : j < w) : cj_T a b h w i j = if a i = b j then cj_T a b h w (i + 1) (j + 1) + 1 else max (cj_T a b h w (i + 1) j) (cj_T a b h w i (j + 1)) := by
  unfold cj_T
  obtain ⟨k, hk⟩ : ∃ k, h - i = k + 1 := ⟨h - i - 1, by omega⟩
  obtain ⟨q, hq⟩ : ∃ q, w - j = q + 1 := ⟨w - j - 1, by omega⟩
  rw [hk, hq, show h - (i + 1) = k by omega, show w - (j + 1) = q by omega]
  show (if a (h - (k + 1)) = b (w - (q + 1)) then cj_lcs a b h w k q + 1 else max (cj_lcs a b h w k (q + 1)) (cj_row (a (h - (k + 1))) b w (cj_lcs a b h w k) q)) = _
  rw [show h - (k + 1) = i by omega, show w - (q + 1) = j by omega]
  congr 2
  show cj_row (a i) b w (cj_lcs a b h w k) q = cj_row (a (h - (k + 1))) b w (cj_lcs a b h w k) q
  rw [show h - (k + 1) = i by omega]
theorem cj_T_le : ∀ (k i j : Nat), h - i ≤ k → i ≤ h → j ≤ w → cj_T a b h w i j ≤ k := by
  intro k
  induction k with
  | zero =>
    intro i j hk hi hj
    rw [show i = h by omega, cj_T_h]
    exact Nat.le_refl 0
  | succ k ih =>
    intro i j hk hi hj
    obtain ⟨q, hq⟩ : ∃ q, w = j + q := ⟨w - j, by omega⟩
    induction q generalizing j with
    | zero =>
      rw [show j = w by omega, cj_T_w]
      exact Nat.zero_le _
    | succ q ihq =>
      by_cases e : i = h
      · rw [e, cj_T_h]
        exact Nat.zero_le _
      · rw [cj_T_step (by omega) (by omega)]
        split
        · have := ih (i + 1) (j + 1) (by omega) (by omega) (by omega)
          omega
        · have h1 := ih (i + 1) j (by omega) (by omega) (by omega)
          have h2 := ihq (j + 1) (by omega) (by omega)
          omega
theorem cj_T_le40 {i j : Nat} (hh : h ≤ 40) (hi : i ≤ h) (hj : j ≤ w) : cj_T a b h w i j ≤ 40 := Nat.le_trans (cj_T_le (h - i) i j (Nat.le_refl _) hi hj) (by omega)
end CJP2
/-- the table holds the counts of the rows from r on; and of row r from q on -/
def cj_J (a b : Nat → Int32) (h w : Nat) (mp : Nat → Nat → Nat) (r : Nat) : Prop := ∀ i, r ≤ i → i ≤ h → ∀ j, j ≤ w → mp i j = cj_T a b h w i j
def cj_J2 (a b : Nat → Int32) (h w : Nat) (mp : Nat → Nat → Nat) (r q : Nat) : Prop := cj_J a b h w mp (r + 1) ∧ ∀ j, q ≤ j → j ≤ w → mp r j = cj_T a b h w r j
def cj_J0 (h : Nat) (mp : Nat → Nat → Nat) (i : Nat) : Prop := ∀ j, j < i → mp h j = 0
section CJP3
variable {a b : Nat → Int32} {h w : Nat} {mp : Nat → Nat → Nat}
theorem cj_J0_step {i : Nat} (H : cj_J0 h mp i) : cj_J0 h (va_up mp h (va_up (mp h) i 0)) (i + 1) := by
  intro j hj
  rw [va_up_self]
  by_cases e : j = i
  · rw [e, va_up_self]
  · rw [va_up_ne _ _ e]
    exact H j (by omega)
theorem cj_J_start (H : cj_J0 h mp (w + 1)) : cj_J a b h w mp h := by
  intro i h1 h2 j hj
  rw [show i = h by omega, cj_T_h]
  exact H j (by omega)
theorem cj_J2_start {r : Nat} (hr : r < h) (H : cj_J a b h w mp (r + 1)) : cj_J2 a b h w (va_up mp r (va_up (mp r) w 0)) r w := by
  refine ⟨fun i h1 h2 j hj => ?_, fun j h1 h2 => ?_⟩
  · rw [va_up_ne _ _ (by omega)]
    exact H i h1 h2 j hj
  · rw [show j = w by omega, va_up_self, va_up_self, cj_T_w]
theorem cj_J2_step {r q v : Nat} (hr : r < h) (hq : q < w) (H : cj_J2 a b h w mp r (q + 1)) (hv : v = if a r = b q then mp (r + 1) (q + 1) + 1 else max (mp (r + 1) q) (mp r (q + 1))) : cj_J2 a b h w (va_up mp r (va_up (mp r) q v)) r q := by
  refine ⟨fun i h1 h2 j hj => ?_, fun j h1 h2 => ?_⟩
  · rw [va_up_ne _ _ (by omega)]
    exact H.1 i h1 h2 j hj
  · rw [va_up_self]
    by_cases e : j = q
    · rw [e, va_up_self, hv, cj_T_step hr hq, H.1 (r + 1) (Nat.le_refl _) (by omega) (q + 1) (by omega), H.1 (r + 1) (Nat.le_refl _) (by omega) q (by omega), H.2 (q + 1) (Nat.le_refl _) (by omega)]
    · rw [va_up_ne _ _ e]
      exact H.2 j (by omega) h2
theorem cj_J2_end {r : Nat} (H : cj_J2 a b h w mp r 0) : cj_J a b h w mp r := by
  intro i h1 h2 j hj
  by_cases e : i = r
  · rw [e]
    exact H.2 j (Nat.zero_le _) hj
  · exact H.1 i (by omega) h2 j hj
theorem cj_J_le {r i j : Nat} (H : cj_J a b h w mp r) (hh : h ≤ 40) (h1 : r ≤ i) (h2 : i ≤ h) (hj : j ≤ w) : mp i j ≤ 40 := by
  rw [H i h1 h2 j hj]
  exact cj_T_le40 hh h2 hj
theorem cj_J2_le {r q j : Nat} (H : cj_J2 a b h w mp r q) (hh : h ≤ 40) (hr : r ≤ h) (h1 : q ≤ j) (hj : j ≤ w) : mp r j ≤ 40 := by
  rw [H.2 j h1 hj]
  exact cj_T_le40 hh hr hj
end CJP3
end
section
set_option maxRecDepth 100000 in
set_option maxHeartbeats 4000000 in
theorem lp_C_cnt0 {p : Program} {l : Launch} {e : Env} {s : State} {m : MethodId} {args : Array Value} {below : List Frame} {meth : Method} {c : Code} {Q : State → Prop} {D : va_G} {kd : Nat → ClassId} {A : Nat → Prop} {H0 : Heap} {ad : Nat → Nat} {E : Nat} {n : Nat → Nat} {cl : Nat → Bool} {con : Nat → Nat → Int32} {ow : Nat → Nat → Int64} {rn : Nat} {ed : Nat → Nat} {co : Nat → Nat} {hz : Nat → Int64} {pr : Nat → Int32} {cn : Nat} {hs : Nat → Int64} {wg : Nat → Int64} {rs : Nat → Int64} {ch : Int32} (X : cj_X p s m args c meth cC_countPairs 7 RC D kd) (fa ga : Nat) (hf : fa < 8) (hg : ga < 8) (hnf : n fa ≤ 40) (hng : n ga ≤ 40) : ∀ (d i : Nat) (mp : Nat → Nat → Nat) (H : Heap) (locs : List Loc) (ls : Array Slot), i + d = n ga + 1 → cj_J0 (n fa) mp i → cj_V D A H0 (wC kd ad E n cl con ow rn ed co hz mp pr cn hs wg rs ch) H locs → lv_has ls 7 [(5, .int (nI i)), (4, .int (nI (n ga))), (3, .int (nI (n fa))), (0, .ref (ad 0)), (1, .int (nI fa)), (2, .int (nI ga))] → (∀ (mp : Nat → Nat → Nat) (H : Heap) (locs : List Loc) (ls : Array Slot), cj_J0 (n fa) mp (n ga + 1) → cj_V D A H0 (wC kd ad E n cl con ow rn ed co hz mp pr cn hs wg rs ch) H locs → lv_has ls 7 [(4, .int (nI (n ga))), (3, .int (nI (n fa))), (0, .ref (ad 0)), (1, .int (nI fa)), (2, .int (nI ga))] → W p l e (cj_rm 1) s m args below meth c H locs 0 0 Q (F0 m 41 ls [])) → W p l e (cj_rm 1) s m args below meth c H locs 0 0 Q (F0 m 18 ls []) := by
  obtain ⟨⟨hx, hb, hml, hown, hts⟩, hK, hlk⟩ := id X
  intro d
  induction d with
  | zero =>
    intro i mp H locs ls hi hJ V hl kont
    refine lv_iload hx hb dC_countPairs_18 (lv_at hl 0 rfl) ?_
    refine lv_iload hx hb dC_countPairs_20 (lv_at hl 1 rfl) ?_
    refine cj_n_gt (tgt := 41) hx hb dC_countPairs_22 (by decide) (by omega) (by omega) (fun c_1 => ?_) (fun c_1 => ?_)
    ·
      obtain rfl : i = n ga + 1 := by omega
      exact kont _ _ _ _ hJ V (lv_sub hl [1, 2, 3, 4, 5] rfl)
    ·
      exact absurd c_1 (by omega)
  | succ d ih =>
    intro i mp H locs ls hi hJ V hl kont
    refine lv_iload hx hb dC_countPairs_18 (lv_at hl 0 rfl) ?_
    refine lv_iload hx hb dC_countPairs_20 (lv_at hl 1 rfl) ?_
    refine cj_n_gt (tgt := 41) hx hb dC_countPairs_22 (by decide) (by omega) (by omega) (fun c_1 => ?_) (fun c_1 => ?_)
    ·
      exact absurd c_1 (by omega)
    ·
      refine lv_aload_n hx hb dC_countPairs_25 rfl (lv_at hl 3 rfl) ?_
      refine gC 9 X V fl_C_44 (by decide) rfl dC_countPairs_26 ?_
      refine lv_iload_n hx hb dC_countPairs_29 rfl (lv_at hl 2 rfl) ?_
      refine rC_mpO X V (by omega) dC_countPairs_30 ?_
      refine lv_iload hx hb dC_countPairs_31 (lv_at hl 0 rfl) ?_
      refine lv_iconst (v := nI 0) hx hb dC_countPairs_33 (by decide) ?_
      refine sC_mpR X V (by omega) (by omega) dC_countPairs_34 (fun H locs V => ?_)
      refine lv_iinc (v := nI (i + 1)) (lv' := [(5, .int (nI (i + 1))), (4, .int (nI (n ga))), (3, .int (nI (n fa))), (0, .ref (ad 0)), (1, .int (nI fa)), (2, .int (nI ga))]) hx hb dC_countPairs_35 hl (k := 0) rfl (cj_inc _) (by decide) rfl (fun ls hl => ?_)
      refine lv_goto (tgt := 18) hx hb dC_countPairs_38 (by decide) ?_
      exact ih (i + 1) _ _ _ ls (by omega) (cj_J0_step hJ) V (lv_sub hl [0, 1, 2, 3, 4, 5] rfl) kont
set_option maxRecDepth 100000 in
set_option maxHeartbeats 4000000 in
theorem lp_C_cnt2 {p : Program} {l : Launch} {e : Env} {s : State} {m : MethodId} {args : Array Value} {below : List Frame} {meth : Method} {c : Code} {Q : State → Prop} {D : va_G} {kd : Nat → ClassId} {A : Nat → Prop} {H0 : Heap} {ad : Nat → Nat} {E : Nat} {n : Nat → Nat} {cl : Nat → Bool} {con : Nat → Nat → Int32} {ow : Nat → Nat → Int64} {rn : Nat} {ed : Nat → Nat} {co : Nat → Nat} {hz : Nat → Int64} {pr : Nat → Int32} {cn : Nat} {hs : Nat → Int64} {wg : Nat → Int64} {rs : Nat → Int64} {ch : Int32} (X : cj_X p s m args c meth cC_countPairs 7 RC D kd) (fa ga : Nat) (hf : fa < 8) (hg : ga < 8) (hnf : n fa ≤ 40) (hng : n ga ≤ 40) (ra : Nat) (hra : ra < n fa) : ∀ (a : Nat) (mp : Nat → Nat → Nat) (H : Heap) (locs : List Loc) (ls : Array Slot), a ≤ n ga → cj_J2 (con fa) (con ga) (n fa) (n ga) mp ra a → cj_V D A H0 (wC kd ad E n cl con ow rn ed co hz mp pr cn hs wg rs ch) H locs → lv_has ls 7 [(6, .int (cj_p a)), (5, .int (nI ra)), (4, .int (nI (n ga))), (3, .int (nI (n fa))), (0, .ref (ad 0)), (1, .int (nI fa)), (2, .int (nI ga))] → (∀ (mp : Nat → Nat → Nat) (H : Heap) (locs : List Loc) (ls : Array Slot), cj_J2 (con fa) (con ga) (n fa) (n ga) mp ra 0 → cj_V D A H0 (wC kd ad E n cl con ow rn ed co hz mp pr cn hs wg rs ch) H locs → lv_has ls 7 [(5, .int (nI ra)), (4, .int (nI (n ga))), (3, .int (nI (n fa))), (0, .ref (ad 0)), (1, .int (nI fa)), (2, .int (nI ga))] → W p l e (cj_rm 1) s m args below meth c H locs 0 0 Q (F0 m 156 ls [])) → W p l e (cj_rm 1) s m args below meth c H locs 0 0 Q (F0 m 68 ls []) := by
  obtain ⟨⟨hx, hb, hml, hown, hts⟩, hK, hlk⟩ := id X
  intro a
  induction a with
  | zero =>
    intro mp H locs ls hag hJ V hl kont
    rw [cj_p0] at hl
    refine lv_iload hx hb dC_countPairs_68 (lv_at hl 0 rfl) ?_
    refine lv_if_lt (tgt := 156) hx hb dC_countPairs_70 (by decide) (fun _ => ?_) (fun h => absurd (by decide) h)
    exact kont _ _ _ _ hJ V (lv_sub hl [1, 2, 3, 4, 5, 6] rfl)
  | succ a ih =>
    intro mp H locs ls hag hJ V hl kont
    rw [cj_ps] at hl
    refine lv_iload hx hb dC_countPairs_68 (lv_at hl 0 rfl) ?_
    refine cj_z_lt (tgt := 156) hx hb dC_countPairs_70 (by omega) (by decide) ?_
    refine lv_aload_n hx hb dC_countPairs_73 rfl (lv_at hl 4 rfl) ?_
    refine gC 9 X V fl_C_44 (by decide) rfl dC_countPairs_74 ?_
    refine lv_iload hx hb dC_countPairs_77 (lv_at hl 1 rfl) ?_
    refine rC_mpO X V (by omega) dC_countPairs_79 ?_
    refine lv_iload hx hb dC_countPairs_80 (lv_at hl 0 rfl) ?_
    refine lv_aload_n hx hb dC_countPairs_82 rfl (lv_at hl 4 rfl) ?_
    refine gC 3 X V fl_C_23 (by decide) rfl dC_countPairs_83 ?_
    refine lv_iload_n hx hb dC_countPairs_86 rfl (lv_at hl 5 rfl) ?_
    refine rC_conO X V (by omega) dC_countPairs_87 ?_
    refine lv_iload hx hb dC_countPairs_88 (lv_at hl 1 rfl) ?_
    refine rC_conR X V (by omega) (by omega) dC_countPairs_90 ?_
    refine lv_aload_n hx hb dC_countPairs_91 rfl (lv_at hl 4 rfl) ?_
    refine gC 3 X V fl_C_23 (by decide) rfl dC_countPairs_92 ?_
    refine lv_iload_n hx hb dC_countPairs_95 rfl (lv_at hl 6 rfl) ?_
    refine rC_conO X V (by omega) dC_countPairs_96 ?_
    refine lv_iload hx hb dC_countPairs_97 (lv_at hl 0 rfl) ?_
    refine rC_conR X V (by omega) (by omega) dC_countPairs_99 ?_
    refine lv_icmp_ne (tgt := 122) hx hb dC_countPairs_100 (by decide) (fun c_2 => ?_) (fun c_2 => ?_)
    ·
      refine lv_aload_n hx hb dC_countPairs_122 rfl (lv_at hl 4 rfl) ?_
      refine gC 9 X V fl_C_44 (by decide) rfl dC_countPairs_123 ?_
      refine lv_iload hx hb dC_countPairs_126 (lv_at hl 1 rfl) ?_
      refine lv_iconst (v := nI 1) hx hb dC_countPairs_128 (by decide) ?_
      refine cj_iaddN hx hb dC_countPairs_129 ?_
      refine rC_mpO X V (by omega) dC_countPairs_130 ?_
      refine lv_iload hx hb dC_countPairs_131 (lv_at hl 0 rfl) ?_
      refine rC_mpR X V (by omega) (by omega) dC_countPairs_133 ?_
      have f_e_3 := cj_J_le hJ.1 hnf (i := (ra + 1)) (j := a) (by omega) (by omega) (by omega)
      refine lv_aload_n hx hb dC_countPairs_134 rfl (lv_at hl 4 rfl) ?_
      refine gC 9 X V fl_C_44 (by decide) rfl dC_countPairs_135 ?_
      refine lv_iload hx hb dC_countPairs_138 (lv_at hl 1 rfl) ?_
      refine rC_mpO X V (by omega) dC_countPairs_140 ?_
      refine lv_iload hx hb dC_countPairs_141 (lv_at hl 0 rfl) ?_
      refine lv_iconst (v := nI 1) hx hb dC_countPairs_143 (by decide) ?_
      refine cj_iaddN hx hb dC_countPairs_144 ?_
      refine rC_mpR X V (by omega) (by omega) dC_countPairs_145 ?_
      have f_e_4 := cj_J2_le hJ hnf (by omega) (j := a + 1) (by omega) (by omega)
      refine va_mmax hx hb (hml.trans hl.1.symm) hown (hts _ ml_C_141) (hts _ st_Q_max) (hts _ in_Q) (hts _ cd_Q_max) (by decide) (Nat.le_of_ble_eq_true rfl) (by decide) (by decide) dC_countPairs_146 ?_
      refine cj_ti (cj_max (by omega) (by omega)) ?_
      refine sC_mpR X V (by omega) (by omega) dC_countPairs_149 (fun H locs V => ?_)
      refine lv_iinc (v := cj_p a) (lv' := [(6, .int (cj_p a)), (5, .int (nI ra)), (4, .int (nI (n ga))), (3, .int (nI (n fa))), (0, .ref (ad 0)), (1, .int (nI fa)), (2, .int (nI ga))]) hx hb dC_countPairs_150 hl (k := 0) rfl (cj_dp _) (by decide) rfl (fun ls hl => ?_)
      refine lv_goto (tgt := 68) hx hb dC_countPairs_153 (by decide) ?_
      exact ih _ _ _ ls (by omega) (cj_J2_step hra (by omega) hJ (by rw [if_neg c_2])) V (lv_sub hl [0, 1, 2, 3, 4, 5, 6] rfl) kont
    ·
      refine lv_aload_n hx hb dC_countPairs_103 rfl (lv_at hl 4 rfl) ?_
      refine gC 9 X V fl_C_44 (by decide) rfl dC_countPairs_104 ?_
      refine lv_iload hx hb dC_countPairs_107 (lv_at hl 1 rfl) ?_
      refine lv_iconst (v := nI 1) hx hb dC_countPairs_109 (by decide) ?_
      refine cj_iaddN hx hb dC_countPairs_110 ?_
      refine rC_mpO X V (by omega) dC_countPairs_111 ?_
      refine lv_iload hx hb dC_countPairs_112 (lv_at hl 0 rfl) ?_
      refine lv_iconst (v := nI 1) hx hb dC_countPairs_114 (by decide) ?_
      refine cj_iaddN hx hb dC_countPairs_115 ?_
      refine rC_mpR X V (by omega) (by omega) dC_countPairs_116 ?_
      have f_e_5 := cj_J_le hJ.1 hnf (i := (ra + 1)) (j := a + 1) (by omega) (by omega) (by omega)
      refine lv_iconst (v := nI 1) hx hb dC_countPairs_117 (by decide) ?_
      refine cj_iaddN hx hb dC_countPairs_118 ?_
      refine lv_goto (tgt := 149) hx hb dC_countPairs_119 (by decide) ?_
      refine sC_mpR X V (by omega) (by omega) dC_countPairs_149 (fun H locs V => ?_)
      refine lv_iinc (v := cj_p a) (lv' := [(6, .int (cj_p a)), (5, .int (nI ra)), (4, .int (nI (n ga))), (3, .int (nI (n fa))), (0, .ref (ad 0)), (1, .int (nI fa)), (2, .int (nI ga))]) hx hb dC_countPairs_150 hl (k := 0) rfl (cj_dp _) (by decide) rfl (fun ls hl => ?_)
      refine lv_goto (tgt := 68) hx hb dC_countPairs_153 (by decide) ?_
      exact ih _ _ _ ls (by omega) (cj_J2_step hra (by omega) hJ (by rw [if_pos c_2])) V (lv_sub hl [0, 1, 2, 3, 4, 5, 6] rfl) kont
set_option maxRecDepth 100000 in
set_option maxHeartbeats 4000000 in
theorem lp_C_cnt1 {p : Program} {l : Launch} {e : Env} {s : State} {m : MethodId} {args : Array Value} {below : List Frame} {meth : Method} {c : Code} {Q : State → Prop} {D : va_G} {kd : Nat → ClassId} {A : Nat → Prop} {H0 : Heap} {ad : Nat → Nat} {E : Nat} {n : Nat → Nat} {cl : Nat → Bool} {con : Nat → Nat → Int32} {ow : Nat → Nat → Int64} {rn : Nat} {ed : Nat → Nat} {co : Nat → Nat} {hz : Nat → Int64} {pr : Nat → Int32} {cn : Nat} {hs : Nat → Int64} {wg : Nat → Int64} {rs : Nat → Int64} {ch : Int32} (X : cj_X p s m args c meth cC_countPairs 7 RC D kd) (fa ga : Nat) (hf : fa < 8) (hg : ga < 8) (hnf : n fa ≤ 40) (hng : n ga ≤ 40) : ∀ (a : Nat) (mp : Nat → Nat → Nat) (H : Heap) (locs : List Loc) (ls : Array Slot), a ≤ n fa → cj_J (con fa) (con ga) (n fa) (n ga) mp a → cj_V D A H0 (wC kd ad E n cl con ow rn ed co hz mp pr cn hs wg rs ch) H locs → lv_has ls 7 [(5, .int (cj_p a)), (4, .int (nI (n ga))), (3, .int (nI (n fa))), (0, .ref (ad 0)), (1, .int (nI fa)), (2, .int (nI ga))] → (∀ (mp : Nat → Nat → Nat) (H : Heap) (locs : List Loc) (ls : Array Slot), cj_J (con fa) (con ga) (n fa) (n ga) mp 0 → cj_V D A H0 (wC kd ad E n cl con ow rn ed co hz mp pr cn hs wg rs ch) H locs → lv_has ls 7 [(4, .int (nI (n ga))), (3, .int (nI (n fa))), (0, .ref (ad 0)), (1, .int (nI fa)), (2, .int (nI ga))] → W p l e (cj_rm 1) s m args below meth c H locs 0 0 Q (F0 m 162 ls [])) → W p l e (cj_rm 1) s m args below meth c H locs 0 0 Q (F0 m 46 ls []) := by
  obtain ⟨⟨hx, hb, hml, hown, hts⟩, hK, hlk⟩ := id X
  intro a
  induction a with
  | zero =>
    intro mp H locs ls haf hJ V hl kont
    rw [cj_p0] at hl
    refine lv_iload hx hb dC_countPairs_46 (lv_at hl 0 rfl) ?_
    refine lv_if_lt (tgt := 162) hx hb dC_countPairs_48 (by decide) (fun _ => ?_) (fun h => absurd (by decide) h)
    exact kont _ _ _ _ hJ V (lv_sub hl [1, 2, 3, 4, 5] rfl)
  | succ a ih =>
    intro mp H locs ls haf hJ V hl kont
    rw [cj_ps] at hl
    refine lv_iload hx hb dC_countPairs_46 (lv_at hl 0 rfl) ?_
    refine cj_z_lt (tgt := 162) hx hb dC_countPairs_48 (by omega) (by decide) ?_
    refine lv_aload_n hx hb dC_countPairs_51 rfl (lv_at hl 3 rfl) ?_
    refine gC 9 X V fl_C_44 (by decide) rfl dC_countPairs_52 ?_
    refine lv_iload hx hb dC_countPairs_55 (lv_at hl 0 rfl) ?_
    refine rC_mpO X V (by omega) dC_countPairs_57 ?_
    refine lv_iload hx hb dC_countPairs_58 (lv_at hl 1 rfl) ?_
    refine lv_iconst (v := nI 0) hx hb dC_countPairs_60 (by decide) ?_
    refine sC_mpR X V (by omega) (by omega) dC_countPairs_61 (fun H locs V => ?_)
    refine lv_iload hx hb dC_countPairs_62 (lv_at hl 1 rfl) ?_
    refine lv_iconst (v := nI 1) hx hb dC_countPairs_64 (by decide) ?_
    refine lv_isub hx hb dC_countPairs_65 ?_
    refine cj_ti (cj_subp (n ga)) ?_
    refine lv_istore (lv' := [(6, .int (cj_p (n ga))), (5, .int (nI a)), (4, .int (nI (n ga))), (3, .int (nI (n fa))), (0, .ref (ad 0)), (1, .int (nI fa)), (2, .int (nI ga))]) hx hb dC_countPairs_66 hl (by decide) rfl (fun ls hl => ?_)
    refine lp_C_cnt2 X fa ga hf hg hnf hng a (by omega) (n ga) _ _ _ ls (Nat.le_refl _) (cj_J2_start (by omega) hJ) V (lv_sub hl [0, 1, 2, 3, 4, 5, 6] rfl) (fun mp H locs ls hJ V hl => ?_)
    refine lv_iinc (v := cj_p a) (lv' := [(5, .int (cj_p a)), (4, .int (nI (n ga))), (3, .int (nI (n fa))), (0, .ref (ad 0)), (1, .int (nI fa)), (2, .int (nI ga))]) hx hb dC_countPairs_156 hl (k := 0) rfl (cj_dp _) (by decide) rfl (fun ls hl => ?_)
    refine lv_goto (tgt := 46) hx hb dC_countPairs_159 (by decide) ?_
    exact ih _ _ _ ls (by omega) (cj_J2_end hJ) V (lv_sub hl [0, 1, 2, 3, 4, 5] rfl) kont
set_option maxRecDepth 100000 in
set_option maxHeartbeats 4000000 in
theorem c_C_countPairs (l : Launch) (D : va_G) (kd : Nat → ClassId) (ad : Nat → Nat) {E : Nat} {n : Nat → Nat} {cl : Nat → Bool} {con : Nat → Nat → Int32} {ow : Nat → Nat → Int64} {rn : Nat} {ed : Nat → Nat} {co : Nat → Nat} {hz : Nat → Int64} {mp : Nat → Nat → Nat} {pr : Nat → Int32} {cn : Nat} {hs : Nat → Int64} {wg : Nat → Int64} {rs : Nat → Int64} {ch : Int32} (fa ga : Nat) (hf : fa < 8) (hg : ga < 8) (hnf : n fa ≤ 40) (hng : n ga ≤ 40) : cj_Mv (S := Nat → Nat → Nat) l yC_countPairs cC_countPairs 7 none 1 D kd [.ref (ad 0), .int (nI fa), .int (nI ga)] (wC kd ad E n cl con ow rn ed co hz mp pr cn hs wg rs ch) (fun mp => cj_J (con fa) (con ga) (n fa) (n ga) mp 0) (fun mp => wC kd ad E n cl con ow rn ed co hz mp pr cn hs wg rs ch) := by
  refine cj_ofv (by decide) (Nat.le_of_ble_eq_true rfl) ?_
  intro p e s m below meth c A ls X hr V hl
  obtain ⟨⟨hx, hb, hml, hown, hts⟩, hK, hlk⟩ := id X
  have hl : lv_has ls 7 [(0, .ref (ad 0)), (1, .int (nI fa)), (2, .int (nI ga))] := hl
  refine lv_aload_n hx hb dC_countPairs_0 rfl (lv_at hl 0 rfl) ?_
  refine gC 1 X V fl_C_13 (by decide) rfl dC_countPairs_1 ?_
  refine lv_iload_n hx hb dC_countPairs_4 rfl (lv_at hl 1 rfl) ?_
  refine rC_n X V (by omega) dC_countPairs_5 ?_
  refine lv_istore_n (lv' := [(3, .int (nI (n fa))), (0, .ref (ad 0)), (1, .int (nI fa)), (2, .int (nI ga))]) hx hb dC_countPairs_6 rfl hl (by decide) rfl (fun ls hl => ?_)
  refine lv_aload_n hx hb dC_countPairs_7 rfl (lv_at hl 1 rfl) ?_
  refine gC 1 X V fl_C_13 (by decide) rfl dC_countPairs_8 ?_
  refine lv_iload_n hx hb dC_countPairs_11 rfl (lv_at hl 3 rfl) ?_
  refine rC_n X V (by omega) dC_countPairs_12 ?_
  refine lv_istore (lv' := [(4, .int (nI (n ga))), (3, .int (nI (n fa))), (0, .ref (ad 0)), (1, .int (nI fa)), (2, .int (nI ga))]) hx hb dC_countPairs_13 hl (by decide) rfl (fun ls hl => ?_)
  refine lv_iconst (v := nI 0) hx hb dC_countPairs_15 (by decide) ?_
  refine lv_istore (lv' := [(5, .int (nI 0)), (4, .int (nI (n ga))), (3, .int (nI (n fa))), (0, .ref (ad 0)), (1, .int (nI fa)), (2, .int (nI ga))]) hx hb dC_countPairs_16 hl (by decide) rfl (fun ls hl => ?_)
  refine lp_C_cnt0 X fa ga hf hg hnf hng (n ga + 1) 0 _ _ _ ls (by omega) (fun _ h => absurd h (Nat.not_lt_zero _)) V (lv_sub hl [0, 1, 2, 3, 4, 5] rfl) (fun mp H locs ls hJ V hl => ?_)
  refine lv_iload_n hx hb dC_countPairs_41 rfl (lv_at hl 1 rfl) ?_
  refine lv_iconst (v := nI 1) hx hb dC_countPairs_42 (by decide) ?_
  refine lv_isub hx hb dC_countPairs_43 ?_
  refine cj_ti (cj_subp (n fa)) ?_
  refine lv_istore (lv' := [(5, .int (cj_p (n fa))), (4, .int (nI (n ga))), (3, .int (nI (n fa))), (0, .ref (ad 0)), (1, .int (nI fa)), (2, .int (nI ga))]) hx hb dC_countPairs_44 hl (by decide) rfl (fun ls hl => ?_)
  refine lp_C_cnt1 X fa ga hf hg hnf hng (n fa) _ _ _ ls (Nat.le_refl _) (cj_J_start hJ) V (lv_sub hl [0, 1, 2, 3, 4, 5] rfl) (fun mp H locs ls hJ V hl => ?_)
  exact cj_retv mp X hr V hJ dC_countPairs_162
end
section
-- PURE: which pairs are chosen
/-- the pair of line i, if the lines of the second from f on are left -/
def cj_pk (a b : Nat → Int32) (h w i f : Nat) : Option Nat := match cj_fd b (a i) (w - f) f with
  | none => none
  | some q => if cj_T a b h w (i + 1) (q + 1) + 1 = cj_T a b h w i f then some q else none
/-- from where on lines of the second are left for line i -/
def cj_pf (a b : Nat → Int32) (h w : Nat) : Nat → Nat
  | 0 => 0
  | i + 1 => match cj_pk a b h w i (cj_pf a b h w i) with
    | none => cj_pf a b h w i
    | some q => q + 1
def cj_pp (a b : Nat → Int32) (h w i : Nat) : Option Nat := cj_pk a b h w i (cj_pf a b h w i)
theorem cj_oI_cases {r : Int32} {o : Option Nat} (h : r = oI o) : (r = -1 ∧ o = none) ∨ ∃ q, o = some q ∧ r = nI q := by
  cases o with
  | none => exact Or.inl ⟨h, rfl⟩
  | some q => exact Or.inr ⟨q, rfl, h⟩
section CJP4
variable {a b : Nat → Int32} {h w i f : Nat}
theorem cj_pk_n (h1 : cj_fd b (a i) (w - f) f = none) : cj_pk a b h w i f = none := by
  unfold cj_pk
  rw [h1]
theorem cj_pk_s {q : Nat} (h1 : cj_fd b (a i) (w - f) f = some q) (h2 : cj_T a b h w (i + 1) (q + 1) + 1 = cj_T a b h w i f) : cj_pk a b h w i f = some q := by
  unfold cj_pk
  rw [h1]
  exact if_pos h2
theorem cj_pk_f {q : Nat} (h1 : cj_fd b (a i) (w - f) f = some q) (h2 : ¬ cj_T a b h w (i + 1) (q + 1) + 1 = cj_T a b h w i f) : cj_pk a b h w i f = none := by
  unfold cj_pk
  rw [h1]
  exact if_neg h2
theorem cj_pk_lt {q : Nat} (h1 : cj_pk a b h w i f = some q) : f ≤ q ∧ q < w := by
  unfold cj_pk at h1
  cases hc : cj_fd b (a i) (w - f) f with
  | none => rw [hc] at h1; cases h1
  | some p =>
    rw [hc] at h1
    dsimp only at h1
    split at h1
    · cases h1
      have := cj_fd_lt hc
      omega
    · cases h1
theorem cj_pf_n (h1 : cj_pp a b h w i = none) : cj_pf a b h w (i + 1) = cj_pf a b h w i := by
  show (match cj_pk a b h w i (cj_pf a b h w i) with | none => cj_pf a b h w i | some q => q + 1) = _
  rw [show cj_pk a b h w i (cj_pf a b h w i) = none from h1]
theorem cj_pf_s {q : Nat} (h1 : cj_pp a b h w i = some q) : cj_pf a b h w (i + 1) = q + 1 := by
  show (match cj_pk a b h w i (cj_pf a b h w i) with | none => cj_pf a b h w i | some q => q + 1) = _
  rw [show cj_pk a b h w i (cj_pf a b h w i) = some q from h1]
theorem cj_pf_le : ∀ i : Nat, cj_pf a b h w i ≤ w
  | 0 => Nat.zero_le _
  | i + 1 => by
    cases hc : cj_pp a b h w i with
    | none => rw [cj_pf_n hc]; exact cj_pf_le i
    | some q =>
      rw [cj_pf_s hc]
      have := (cj_pk_lt hc).2
      omega
theorem cj_pp_lt {q : Nat} (h1 : cj_pp a b h w i = some q) : q < w := (cj_pk_lt h1).2
end CJP4
theorem cj_prs {pr : Nat → Int32} {pp : Nat → Option Nat} {i : Nat} {v : Int32} (hP : ∀ j, j < i → pr j = oI (pp j)) (hv : v = oI (pp i)) : ∀ j, j < i + 1 → va_up pr i v j = oI (pp j) := by
  intro j hj
  by_cases e : j = i
  · rw [e, va_up_self, hv]
  · rw [va_up_ne _ _ e]
    exact hP j (by omega)
end
section
set_option maxRecDepth 100000 in
set_option maxHeartbeats 4000000 in
theorem lp_C_choose {p : Program} {l : Launch} {e : Env} {s : State} {m : MethodId} {args : Array Value} {below : List Frame} {meth : Method} {c : Code} {Q : State → Prop} {D : va_G} {kd : Nat → ClassId} {A : Nat → Prop} {H0 : Heap} {ad : Nat → Nat} {E : Nat} {n : Nat → Nat} {cl : Nat → Bool} {con : Nat → Nat → Int32} {ow : Nat → Nat → Int64} {rn : Nat} {ed : Nat → Nat} {co : Nat → Nat} {hz : Nat → Int64} {mp : Nat → Nat → Nat} {cn : Nat} {hs : Nat → Int64} {wg : Nat → Int64} {rs : Nat → Int64} {ch : Int32} (X : cj_X p s m args c meth cC_choosePairs 6 RC D kd) (fa ga : Nat) (hf : fa < 8) (hg : ga < 8) (hn : ∀ i, n i ≤ 40) (hJ : cj_J (con fa) (con ga) (n fa) (n ga) mp 0) : ∀ (d i : Nat) (pr : Nat → Int32) (H : Heap) (locs : List Loc) (ls : Array Slot), i + d = n fa → (∀ j, j < i → pr j = oI (cj_pp (con fa) (con ga) (n fa) (n ga) j)) → cj_V D A H0 (wC kd ad E n cl con ow rn ed co hz mp pr cn hs wg rs ch) H locs → lv_has ls 6 [(4, .int (nI i)), (3, .int (nI (cj_pf (con fa) (con ga) (n fa) (n ga) i))), (0, .ref (ad 0)), (1, .int (nI fa)), (2, .int (nI ga))] → (∀ (pr : Nat → Int32) (H : Heap) (locs : List Loc) (ls : Array Slot), (∀ j, j < n fa → pr j = oI (cj_pp (con fa) (con ga) (n fa) (n ga) j)) → cj_V D A H0 (wC kd ad E n cl con ow rn ed co hz mp pr cn hs wg rs ch) H locs → lv_has ls 6 [(4, .int (nI (n fa))), (3, .int (nI (cj_pf (con fa) (con ga) (n fa) (n ga) (n fa)))), (0, .ref (ad 0)), (1, .int (nI fa)), (2, .int (nI ga))] → W p l e (cj_rm 1) s m args below meth c H locs 0 0 Q (F0 m 98 ls [])) → W p l e (cj_rm 1) s m args below meth c H locs 0 0 Q (F0 m 5 ls []) := by
  obtain ⟨⟨hx, hb, hml, hown, hts⟩, hK, hlk⟩ := id X
  intro d
  induction d with
  | zero =>
    intro i pr H locs ls hi hP V hl kont
    have hnf := hn fa
    have hng := hn ga
    have hpf := cj_pf_le (a := con fa) (b := con ga) (h := n fa) (w := n ga) i
    refine lv_iload hx hb dC_choosePairs_5 (lv_at hl 0 rfl) ?_
    refine lv_aload_n hx hb dC_choosePairs_7 rfl (lv_at hl 2 rfl) ?_
    refine gC 1 X V fl_C_13 (by decide) rfl dC_choosePairs_8 ?_
    refine lv_iload_n hx hb dC_choosePairs_11 rfl (lv_at hl 3 rfl) ?_
    refine rC_n X V (by omega) dC_choosePairs_12 ?_
    refine cj_n_ge (tgt := 98) hx hb dC_choosePairs_13 (by decide) (by omega) (by omega) (fun c_1 => ?_) (fun c_1 => ?_)
    ·
      obtain rfl : i = n fa := by omega
      exact kont _ _ _ _ hP V (lv_sub hl [0, 1, 2, 3, 4] rfl)
    ·
      exact absurd c_1 (by omega)
  | succ d ih =>
    intro i pr H locs ls hi hP V hl kont
    have hnf := hn fa
    have hng := hn ga
    have hpf := cj_pf_le (a := con fa) (b := con ga) (h := n fa) (w := n ga) i
    refine lv_iload hx hb dC_choosePairs_5 (lv_at hl 0 rfl) ?_
    refine lv_aload_n hx hb dC_choosePairs_7 rfl (lv_at hl 2 rfl) ?_
    refine gC 1 X V fl_C_13 (by decide) rfl dC_choosePairs_8 ?_
    refine lv_iload_n hx hb dC_choosePairs_11 rfl (lv_at hl 3 rfl) ?_
    refine rC_n X V (by omega) dC_choosePairs_12 ?_
    refine cj_n_ge (tgt := 98) hx hb dC_choosePairs_13 (by decide) (by omega) (by omega) (fun c_1 => ?_) (fun c_1 => ?_)
    ·
      exact absurd c_1 (by omega)
    ·
      refine lv_aload_n hx hb dC_choosePairs_16 rfl (lv_at hl 2 rfl) ?_
      refine lv_aload_n hx hb dC_choosePairs_17 rfl (lv_at hl 2 rfl) ?_
      refine gC 3 X V fl_C_23 (by decide) rfl dC_choosePairs_18 ?_
      refine lv_iload_n hx hb dC_choosePairs_21 rfl (lv_at hl 3 rfl) ?_
      refine rC_conO X V (by omega) dC_choosePairs_22 ?_
      refine lv_iload hx hb dC_choosePairs_23 (lv_at hl 0 rfl) ?_
      refine rC_conR X V (by omega) (by omega) dC_choosePairs_25 ?_
      refine lv_iload_n hx hb dC_choosePairs_26 rfl (lv_at hl 4 rfl) ?_
      refine lv_iload_n hx hb dC_choosePairs_27 rfl (lv_at hl 1 rfl) ?_
      refine cj_cvi X V (c_C_placeOf l D kd ad (con fa i) ga hg hn (cj_pf (con fa) (con ga) (n fa) (n ga) i) (cj_pf_le _)) 0 1 rfl rfl rfl ml_C_144 im_C_placeOf se_C_placeOf in_C cd_C_placeOf hd_C_placeOf ⟨by decide, by decide⟩ ⟨Nat.le_refl _, Nat.le_refl _⟩ hl.1 rfl (Nat.le_of_ble_eq_true rfl) dC_choosePairs_28 (fun r_9 u_9 H locs hw V => ?_)
      replace hw := cj_oI_cases hw
      rcases hw with ⟨rfl, hfd⟩ | ⟨q_2, hfd, rfl⟩
      ·
        refine lv_istore (lv' := [(5, .int (-1)), (4, .int (nI i)), (3, .int (nI (cj_pf (con fa) (con ga) (n fa) (n ga) i))), (0, .ref (ad 0)), (1, .int (nI fa)), (2, .int (nI ga))]) hx hb dC_choosePairs_31 hl (by decide) rfl (fun ls hl => ?_)
        refine lv_iload hx hb dC_choosePairs_33 (lv_at hl 0 rfl) ?_
        refine lv_iconst (v := (-1)) hx hb dC_choosePairs_35 (by decide) ?_
        refine lv_icmp_eq (tgt := 84) hx hb dC_choosePairs_36 (by decide) (fun _ => ?_) (fun h => absurd rfl h)
        refine lv_aload_n hx hb dC_choosePairs_84 rfl (lv_at hl 3 rfl) ?_
        refine gC 10 X V fl_C_47 (by decide) rfl dC_choosePairs_85 ?_
        refine lv_iload hx hb dC_choosePairs_88 (lv_at hl 1 rfl) ?_
        refine lv_iconst (v := (-1)) hx hb dC_choosePairs_90 (by decide) ?_
        refine sC_pr X V (by omega) dC_choosePairs_91 (fun H locs V => ?_)
        refine lv_iinc (v := nI (i + 1)) (lv' := [(4, .int (nI (i + 1))), (5, .int (-1)), (3, .int (nI (cj_pf (con fa) (con ga) (n fa) (n ga) i))), (0, .ref (ad 0)), (1, .int (nI fa)), (2, .int (nI ga))]) hx hb dC_choosePairs_92 hl (k := 1) rfl (cj_inc _) (by decide) rfl (fun ls hl => ?_)
        refine lv_goto (tgt := 5) hx hb dC_choosePairs_95 (by decide) ?_
        have hk : cj_pp (con fa) (con ga) (n fa) (n ga) i = none := cj_pk_n hfd
        exact ih (i + 1) _ _ _ ls (by omega) (cj_prs hP (by rw [hk]; rfl)) V (lv_sub hl [0, 2, 3, 4, 5] (by rw [cj_pf_n hk]; rfl)) kont
      ·
        have hq1 := cj_fd_lt hfd
        refine lv_istore (lv' := [(5, .int (nI q_2)), (4, .int (nI i)), (3, .int (nI (cj_pf (con fa) (con ga) (n fa) (n ga) i))), (0, .ref (ad 0)), (1, .int (nI fa)), (2, .int (nI ga))]) hx hb dC_choosePairs_31 hl (by decide) rfl (fun ls hl => ?_)
        refine lv_iload hx hb dC_choosePairs_33 (lv_at hl 0 rfl) ?_
        refine lv_iconst (v := (-1)) hx hb dC_choosePairs_35 (by decide) ?_
        refine lv_icmp_eq (tgt := 84) hx hb dC_choosePairs_36 (by decide) (fun h => absurd h (cj_nm1 (by omega))) (fun _ => ?_)
        refine lv_aload_n hx hb dC_choosePairs_39 rfl (lv_at hl 3 rfl) ?_
        refine gC 9 X V fl_C_44 (by decide) rfl dC_choosePairs_40 ?_
        refine lv_iload hx hb dC_choosePairs_43 (lv_at hl 1 rfl) ?_
        refine lv_iconst (v := nI 1) hx hb dC_choosePairs_45 (by decide) ?_
        refine cj_iaddN hx hb dC_choosePairs_46 ?_
        refine rC_mpO X V (by omega) dC_choosePairs_47 ?_
        refine lv_iload hx hb dC_choosePairs_48 (lv_at hl 0 rfl) ?_
        refine lv_iconst (v := nI 1) hx hb dC_choosePairs_50 (by decide) ?_
        refine cj_iaddN hx hb dC_choosePairs_51 ?_
        refine rC_mpR X V (by omega) (by omega) dC_choosePairs_52 ?_
        have f_e_5 := cj_J_le hJ hnf (i := (i + 1)) (j := q_2 + 1) (by omega) (by omega) (by omega)
        refine lv_iconst (v := nI 1) hx hb dC_choosePairs_53 (by decide) ?_
        refine cj_iaddN hx hb dC_choosePairs_54 ?_
        refine lv_aload_n hx hb dC_choosePairs_55 rfl (lv_at hl 3 rfl) ?_
        refine gC 9 X V fl_C_44 (by decide) rfl dC_choosePairs_56 ?_
        refine lv_iload hx hb dC_choosePairs_59 (lv_at hl 1 rfl) ?_
        refine rC_mpO X V (by omega) dC_choosePairs_61 ?_
        refine lv_iload_n hx hb dC_choosePairs_62 rfl (lv_at hl 2 rfl) ?_
        refine rC_mpR X V (by omega) (by omega) dC_choosePairs_63 ?_
        have f_e_6 := cj_J_le hJ hnf (i := i) (j := cj_pf (con fa) (con ga) (n fa) (n ga) i) (by omega) (by omega) (by omega)
        refine cj_n_ne (tgt := 84) hx hb dC_choosePairs_64 (by decide) (by omega) (by omega) (fun c_7 => ?_) (fun c_7 => ?_)
        ·
          refine lv_aload_n hx hb dC_choosePairs_84 rfl (lv_at hl 3 rfl) ?_
          refine gC 10 X V fl_C_47 (by decide) rfl dC_choosePairs_85 ?_
          refine lv_iload hx hb dC_choosePairs_88 (lv_at hl 1 rfl) ?_
          refine lv_iconst (v := (-1)) hx hb dC_choosePairs_90 (by decide) ?_
          refine sC_pr X V (by omega) dC_choosePairs_91 (fun H locs V => ?_)
          refine lv_iinc (v := nI (i + 1)) (lv' := [(4, .int (nI (i + 1))), (5, .int (nI q_2)), (3, .int (nI (cj_pf (con fa) (con ga) (n fa) (n ga) i))), (0, .ref (ad 0)), (1, .int (nI fa)), (2, .int (nI ga))]) hx hb dC_choosePairs_92 hl (k := 1) rfl (cj_inc _) (by decide) rfl (fun ls hl => ?_)
          refine lv_goto (tgt := 5) hx hb dC_choosePairs_95 (by decide) ?_
          rw [hJ (i + 1) (by omega) (by omega) (q_2 + 1) (by omega), hJ i (by omega) (by omega) _ (cj_pf_le i)] at c_7
          have hk : cj_pp (con fa) (con ga) (n fa) (n ga) i = none := cj_pk_f hfd c_7
          exact ih (i + 1) _ _ _ ls (by omega) (cj_prs hP (by rw [hk]; rfl)) V (lv_sub hl [0, 2, 3, 4, 5] (by rw [cj_pf_n hk]; rfl)) kont
        ·
          refine lv_aload_n hx hb dC_choosePairs_67 rfl (lv_at hl 3 rfl) ?_
          refine gC 10 X V fl_C_47 (by decide) rfl dC_choosePairs_68 ?_
          refine lv_iload hx hb dC_choosePairs_71 (lv_at hl 1 rfl) ?_
          refine lv_iload hx hb dC_choosePairs_73 (lv_at hl 0 rfl) ?_
          refine sC_pr X V (by omega) dC_choosePairs_75 (fun H locs V => ?_)
          refine lv_iload hx hb dC_choosePairs_76 (lv_at hl 0 rfl) ?_
          refine lv_iconst (v := nI 1) hx hb dC_choosePairs_78 (by decide) ?_
          refine cj_iaddN hx hb dC_choosePairs_79 ?_
          refine lv_istore_n (lv' := [(3, .int (nI (q_2 + 1))), (5, .int (nI q_2)), (4, .int (nI i)), (0, .ref (ad 0)), (1, .int (nI fa)), (2, .int (nI ga))]) hx hb dC_choosePairs_80 rfl hl (by decide) rfl (fun ls hl => ?_)
          refine lv_goto (tgt := 92) hx hb dC_choosePairs_81 (by decide) ?_
          refine lv_iinc (v := nI (i + 1)) (lv' := [(4, .int (nI (i + 1))), (3, .int (nI (q_2 + 1))), (5, .int (nI q_2)), (0, .ref (ad 0)), (1, .int (nI fa)), (2, .int (nI ga))]) hx hb dC_choosePairs_92 hl (k := 2) rfl (cj_inc _) (by decide) rfl (fun ls hl => ?_)
          refine lv_goto (tgt := 5) hx hb dC_choosePairs_95 (by decide) ?_
          rw [hJ (i + 1) (by omega) (by omega) (q_2 + 1) (by omega), hJ i (by omega) (by omega) _ (cj_pf_le i)] at c_7
          have hk : cj_pp (con fa) (con ga) (n fa) (n ga) i = some q_2 := cj_pk_s hfd c_7
          exact ih (i + 1) _ _ _ ls (by omega) (cj_prs hP (by rw [hk]; rfl)) V (lv_sub hl [0, 1, 3, 4, 5] (by rw [cj_pf_s hk]; rfl)) kont
set_option maxRecDepth 100000 in
set_option maxHeartbeats 4000000 in
theorem c_C_choosePairs (l : Launch) (D : va_G) (kd : Nat → ClassId) (ad : Nat → Nat) {E : Nat} {n : Nat → Nat} {cl : Nat → Bool} {con : Nat → Nat → Int32} {ow : Nat → Nat → Int64} {rn : Nat} {ed : Nat → Nat} {co : Nat → Nat} {hz : Nat → Int64} {mp : Nat → Nat → Nat} {pr : Nat → Int32} {cn : Nat} {hs : Nat → Int64} {wg : Nat → Int64} {rs : Nat → Int64} {ch : Int32} (fa ga : Nat) (hf : fa < 8) (hg : ga < 8) (hn : ∀ i, n i ≤ 40) (hJ : cj_J (con fa) (con ga) (n fa) (n ga) mp 0) : cj_Mv (S := Nat → Int32) l yC_choosePairs cC_choosePairs 6 none 1 D kd [.ref (ad 0), .int (nI fa), .int (nI ga)] (wC kd ad E n cl con ow rn ed co hz mp pr cn hs wg rs ch) (fun pr => ∀ j, j < n fa → pr j = oI (cj_pp (con fa) (con ga) (n fa) (n ga) j)) (fun pr => wC kd ad E n cl con ow rn ed co hz mp pr cn hs wg rs ch) := by
  refine cj_ofv (by decide) (Nat.le_of_ble_eq_true rfl) ?_
  intro p e s m below meth c A ls X hr V hl
  obtain ⟨⟨hx, hb, hml, hown, hts⟩, hK, hlk⟩ := id X
  have hl : lv_has ls 6 [(0, .ref (ad 0)), (1, .int (nI fa)), (2, .int (nI ga))] := hl
  refine lv_iconst (v := nI 0) hx hb dC_choosePairs_0 (by decide) ?_
  refine lv_istore_n (lv' := [(3, .int (nI 0)), (0, .ref (ad 0)), (1, .int (nI fa)), (2, .int (nI ga))]) hx hb dC_choosePairs_1 rfl hl (by decide) rfl (fun ls hl => ?_)
  refine lv_iconst (v := nI 0) hx hb dC_choosePairs_2 (by decide) ?_
  refine lv_istore (lv' := [(4, .int (nI 0)), (3, .int (nI 0)), (0, .ref (ad 0)), (1, .int (nI fa)), (2, .int (nI ga))]) hx hb dC_choosePairs_3 hl (by decide) rfl (fun ls hl => ?_)
  refine lp_C_choose X fa ga hf hg hn hJ (n fa) 0 _ _ _ ls (by omega) (fun _ h => absurd h (Nat.not_lt_zero _)) V (lv_sub hl [0, 1, 2, 3, 4] rfl) (fun pr H locs ls hP V hl => ?_)
  exact cj_retv pr X hr V hP dC_choosePairs_98
set_option maxRecDepth 100000 in
set_option maxHeartbeats 4000000 in
theorem c_C_compare (l : Launch) (D : va_G) (kd : Nat → ClassId) (ad : Nat → Nat) {E : Nat} {n : Nat → Nat} {cl : Nat → Bool} {con : Nat → Nat → Int32} {ow : Nat → Nat → Int64} {rn : Nat} {ed : Nat → Nat} {co : Nat → Nat} {hz : Nat → Int64} {mp : Nat → Nat → Nat} {pr : Nat → Int32} {cn : Nat} {hs : Nat → Int64} {wg : Nat → Int64} {rs : Nat → Int64} {ch : Int32} (fa ga : Nat) (hf : fa < 8) (hg : ga < 8) (hn : ∀ i, n i ≤ 40) : cj_Mv (S := (Nat → Nat → Nat) × (Nat → Int32)) l yC_compare cC_compare 3 none 2 D kd [.ref (ad 0), .int (nI fa), .int (nI ga)] (wC kd ad E n cl con ow rn ed co hz mp pr cn hs wg rs ch) (fun u => ∀ j, j < n fa → u.2 j = oI (cj_pp (con fa) (con ga) (n fa) (n ga) j)) (fun u => wC kd ad E n (va_up (va_up cl fa true) ga true) con ow rn ed co hz u.1 u.2 cn hs wg rs ch) := by
  refine cj_ofv (by decide) (Nat.le_of_ble_eq_true rfl) ?_
  intro p e s m below meth c A ls X hr V hl
  obtain ⟨⟨hx, hb, hml, hown, hts⟩, hK, hlk⟩ := id X
  have hl : lv_has ls 3 [(0, .ref (ad 0)), (1, .int (nI fa)), (2, .int (nI ga))] := hl
  refine lv_aload_n hx hb dC_compare_0 rfl (lv_at hl 0 rfl) ?_
  refine gC 2 X V fl_C_17 (by decide) rfl dC_compare_1 ?_
  refine lv_iload_n hx hb dC_compare_4 rfl (lv_at hl 1 rfl) ?_
  refine lv_iconst (v := nI 1) hx hb dC_compare_5 (by decide) ?_
  refine sC_cl (x := true) X V (by omega) dC_compare_6 (fun H locs V => ?_)
  refine lv_aload_n hx hb dC_compare_7 rfl (lv_at hl 0 rfl) ?_
  refine gC 2 X V fl_C_17 (by decide) rfl dC_compare_8 ?_
  refine lv_iload_n hx hb dC_compare_11 rfl (lv_at hl 2 rfl) ?_
  refine lv_iconst (v := nI 1) hx hb dC_compare_12 (by decide) ?_
  refine sC_cl (x := true) X V (by omega) dC_compare_13 (fun H locs V => ?_)
  refine lv_aload_n hx hb dC_compare_14 rfl (lv_at hl 0 rfl) ?_
  refine lv_iload_n hx hb dC_compare_15 rfl (lv_at hl 1 rfl) ?_
  refine lv_iload_n hx hb dC_compare_16 rfl (lv_at hl 2 rfl) ?_
  refine cj_cvv X V (c_C_countPairs l D kd ad fa ga hf hg (hn fa) (hn ga)) 0 1 rfl rfl rfl ml_C_135 im_C_countPairs se_C_countPairs in_C cd_C_countPairs hd_C_countPairs ⟨by decide, by decide⟩ ⟨Nat.le_refl _, Nat.le_refl _⟩ hl.1 rfl (Nat.le_of_ble_eq_true rfl) dC_compare_17 (fun u_9 H locs hw V => ?_)
  have hJ := hw
  obtain ⟨u_8, eu⟩ : ∃ z, z = u_9 := ⟨_, rfl⟩
  rw [← eu] at V hJ
  refine lv_aload_n hx hb dC_compare_20 rfl (lv_at hl 0 rfl) ?_
  refine lv_iload_n hx hb dC_compare_21 rfl (lv_at hl 1 rfl) ?_
  refine lv_iload_n hx hb dC_compare_22 rfl (lv_at hl 2 rfl) ?_
  refine cj_cvv X V (c_C_choosePairs l D kd ad fa ga hf hg hn hJ) 0 1 rfl rfl rfl ml_C_138 im_C_choosePairs se_C_choosePairs in_C cd_C_choosePairs hd_C_choosePairs ⟨by decide, by decide⟩ ⟨Nat.le_refl _, Nat.le_refl _⟩ hl.1 rfl (Nat.le_of_ble_eq_true rfl) dC_compare_23 (fun u_9 H locs hw V => ?_)
  have hP := hw
  exact cj_retv (u_8, u_9) X hr V hP dC_compare_26
end
section
-- WHAT map, same, fresh ANSWER
/-- two editions that a call compares: they get no lines any more -/
def k_cl (cl : Nat → Bool) (q : Option (Nat × Nat)) : Nat → Bool := match q with
  | none => cl
  | some (f, g) => va_up (va_up cl f true) g true
def q_map (E rn : Nat) (ed : Nat → Nat) (x y : Int32) : Option (Nat × Nat) := match cj_ix x rn with
  | none => none
  | some j => match cj_ix y E with
    | none => none
    | some e => if rn < 14 then some (ed j, e) else none
def o_map (E rn : Nat) (n : Nat → Nat) (con : Nat → Nat → Int32) (ed co : Nat → Nat) (hz : Nat → Int64) (x y : Int32) : cj_new := match cj_ix x rn with
  | none => none
  | some j => match cj_ix y E with
    | none => none
    | some e => if rn < 14 then some (e, co j, cj_po (cj_pp (con (ed j)) (con e) (n (ed j)) (n e)) (hz j) (n (ed j))) else none
def q_same (E : Nat) (n : Nat → Nat) (x y z : Int32) : Option (Nat × Nat) := match cj_ix x E with
  | none => none
  | some f => match cj_ix y E with
    | none => none
    | some g => match cj_ix z (n f) with
      | none => none
      | some _ => some (f, g)
def f_same (E : Nat) (n : Nat → Nat) (con : Nat → Nat → Int32) (x y z : Int32) : Int32 := match cj_ix x E with
  | none => -1
  | some f => match cj_ix y E with
    | none => -1
    | some g => match cj_ix z (n f) with
      | none => -1
      | some i => oI (cj_pp (con f) (con g) (n f) (n g) i)
def q_fresh (E rn : Nat) (ed : Nat → Nat) (x y : Int32) : Option (Nat × Nat) := match cj_ix x rn with
  | none => none
  | some j => match cj_ix y E with
    | none => none
    | some e => some (e, ed j)
def f_freshC (E rn : Nat) (n : Nat → Nat) (con : Nat → Nat → Int32) (ow : Nat → Nat → Int64) (ed : Nat → Nat) (hz : Nat → Int64) (x y : Int32) (b : Bool) : Int32 := match cj_ix x rn with
  | none => -1
  | some j => match cj_ix y E with
    | none => -1
    | some e => bif b then nI (cj_pop ((cj_ug ow (ed j) 4 &&& (cj_po (cj_pp (con e) (con (ed j)) (n e) (n (ed j))) (cj_bit (n e) - lN 1) (n e) ^^^ (-1))) &&& hz j)) else nI (cj_pop (cj_ug ow (ed j) 4 &&& (cj_po (cj_pp (con e) (con (ed j)) (n e) (n (ed j))) (cj_bit (n e) - lN 1) (n e) ^^^ (-1))))
end
section
set_option maxRecDepth 100000 in
set_option maxHeartbeats 4000000 in
theorem c_C_map (l : Launch) (D : va_G) (kd : Nat → ClassId) (ad : Nat → Nat) {E : Nat} {n : Nat → Nat} {cl : Nat → Bool} {con : Nat → Nat → Int32} {ow : Nat → Nat → Int64} {rn : Nat} {ed : Nat → Nat} {co : Nat → Nat} {hz : Nat → Int64} {mp : Nat → Nat → Nat} {pr : Nat → Int32} {cn : Nat} {hs : Nat → Int64} {wg : Nat → Int64} {rs : Nat → Int64} {ch : Int32} (hE : E ≤ 8) (hn : ∀ i, n i ≤ 40) (hR : rn ≤ 14) (hed : ∀ r, r < rn → ed r < E) (hco : ∀ r, co r ≤ 100000) (x y : Int32) : cj_Mi (S := Nat × (Nat → Nat) × (Nat → Nat) × (Nat → Int64) × (Nat → Bool) × (Nat → Nat → Nat) × (Nat → Int32)) l yC_map cC_map 3 (some .int) 3 D kd [.ref (ad 0), .int x, .int y] (wC kd ad E n cl con ow rn ed co hz mp pr cn hs wg rs ch) (fun r u => r = f_add rn (o_map E rn n con ed co hz x y) ∧ u.1 = a_rn rn (o_map E rn n con ed co hz x y) ∧ u.2.1 = a_ed rn ed (o_map E rn n con ed co hz x y) ∧ u.2.2.1 = a_co rn co (o_map E rn n con ed co hz x y) ∧ u.2.2.2.1 = a_hz rn hz (o_map E rn n con ed co hz x y) ∧ u.2.2.2.2.1 = a_cl (k_cl cl (q_map E rn ed x y)) (o_map E rn n con ed co hz x y)) (fun u => wC kd ad E n u.2.2.2.2.1 con ow u.1 u.2.1 u.2.2.1 u.2.2.2.1 u.2.2.2.2.2.1 u.2.2.2.2.2.2 cn hs wg rs ch) := by
  refine cj_ofi (by decide) (Nat.le_of_ble_eq_true rfl) ?_
  intro p e s m below meth c A ls X hr V hl
  obtain ⟨⟨hx, hb, hml, hown, hts⟩, hK, hlk⟩ := id X
  have hl : lv_has ls 3 [(0, .ref (ad 0)), (1, .int x), (2, .int y)] := hl
  refine lv_aload_n hx hb dC_map_0 rfl (lv_at hl 0 rfl) ?_
  refine lv_iload_n hx hb dC_map_1 rfl (lv_at hl 1 rfl) ?_
  refine cj_cvi X V (c_C_isRun l D kd ad hR x) 0 1 rfl rfl rfl ml_C_76 im_C_isRun se_C_isRun in_C cd_C_isRun hd_C_isRun ⟨by decide, by decide⟩ ⟨Nat.le_refl _, Nat.le_refl _⟩ hl.1 rfl (Nat.le_of_ble_eq_true rfl) dC_map_2 (fun r_9 u_9 H locs hw V => ?_)
  rcases hw with ⟨rfl, j_1, hj_1, rfl⟩ | ⟨rfl, hj_1⟩
  ·
    have ij_1 := cj_ix_t hj_1 (show rn < 2 ^ 31 by omega)
    refine lv_if_eq (tgt := 25) hx hb dC_map_5 (by decide) (fun h => absurd h (by decide)) (fun _ => ?_)
    refine lv_aload_n hx hb dC_map_8 rfl (lv_at hl 0 rfl) ?_
    refine lv_iload_n hx hb dC_map_9 rfl (lv_at hl 2 rfl) ?_
    refine cj_cvi X V (c_C_isEdition l D kd ad hE y) 0 1 rfl rfl rfl ml_C_60 im_C_isEdition se_C_isEdition in_C cd_C_isEdition hd_C_isEdition ⟨by decide, by decide⟩ ⟨Nat.le_refl _, Nat.le_refl _⟩ hl.1 rfl (Nat.le_of_ble_eq_true rfl) dC_map_10 (fun r_9 u_9 H locs hw V => ?_)
    rcases hw with ⟨rfl, j_3, hj_3, rfl⟩ | ⟨rfl, hj_3⟩
    ·
      have ij_3 := cj_ix_t hj_3 (show E < 2 ^ 31 by omega)
      refine lv_if_eq (tgt := 25) hx hb dC_map_13 (by decide) (fun h => absurd h (by decide)) (fun _ => ?_)
      refine lv_aload_n hx hb dC_map_16 rfl (lv_at hl 0 rfl) ?_
      refine gC 5 X V fl_C_31 (by decide) rfl dC_map_17 ?_
      refine lv_bipush (v := nI 14) hx hb dC_map_20 (by decide) ?_
      refine cj_n_lt (tgt := 27) hx hb dC_map_22 (by decide) (by omega) (by omega) (fun c_5 => ?_) (fun c_5 => ?_)
      ·
        refine lv_aload_n hx hb dC_map_27 rfl (lv_at hl 0 rfl) ?_
        refine lv_aload_n hx hb dC_map_28 rfl (lv_at hl 0 rfl) ?_
        refine gC 6 X V fl_C_34 (by decide) rfl dC_map_29 ?_
        refine lv_iload_n hx hb dC_map_32 rfl (lv_at hl 1 rfl) ?_
        refine rC_ed X V (by omega) dC_map_33 ?_
        have f_e_6 := hed j_1 (by omega)
        refine lv_iload_n hx hb dC_map_34 rfl (lv_at hl 2 rfl) ?_
        refine cj_cvv X V (c_C_compare l D kd ad (ed j_1) j_3 (by omega) (by omega) hn) 0 1 rfl rfl rfl ml_C_86 im_C_compare se_C_compare in_C cd_C_compare hd_C_compare ⟨by decide, by decide⟩ ⟨Nat.le_refl _, Nat.le_refl _⟩ hl.1 rfl (Nat.le_of_ble_eq_true rfl) dC_map_35 (fun uc H locs hw V => ?_)
        have hP := hw
        refine lv_aload_n hx hb dC_map_38 rfl (lv_at hl 0 rfl) ?_
        refine lv_iload_n hx hb dC_map_39 rfl (lv_at hl 2 rfl) ?_
        refine lv_aload_n hx hb dC_map_40 rfl (lv_at hl 0 rfl) ?_
        refine gC 7 X V fl_C_37 (by decide) rfl dC_map_41 ?_
        refine lv_iload_n hx hb dC_map_44 rfl (lv_at hl 1 rfl) ?_
        refine rC_co X V (by omega) dC_map_45 ?_
        have f_e_7 := hco j_1
        refine lv_aload_n hx hb dC_map_46 rfl (lv_at hl 0 rfl) ?_
        refine lv_aload_n hx hb dC_map_47 rfl (lv_at hl 0 rfl) ?_
        refine gC 6 X V fl_C_34 (by decide) rfl dC_map_48 ?_
        refine lv_iload_n hx hb dC_map_51 rfl (lv_at hl 1 rfl) ?_
        refine rC_ed X V (by omega) dC_map_52 ?_
        have f_e_8 := hed j_1 (by omega)
        refine lv_aload_n hx hb dC_map_53 rfl (lv_at hl 0 rfl) ?_
        refine gC 8 X V fl_C_40 (by decide) rfl dC_map_54 ?_
        refine lv_iload_n hx hb dC_map_57 rfl (lv_at hl 1 rfl) ?_
        refine rC_hi X V (by omega) dC_map_58 ?_
        refine cj_cvl X V (c_C_pairsOf l D kd ad (ed j_1) (by omega) (hz j_1) (cj_pp (con (ed j_1)) (con j_3) (n (ed j_1)) (n j_3)) hn hP (fun i q h => by have h1 := cj_pp_lt h; have h2 := hn j_3; omega)) 0 1 rfl rfl rfl ml_C_90 im_C_pairsOf se_C_pairsOf in_C cd_C_pairsOf hd_C_pairsOf ⟨by decide, by decide⟩ ⟨Nat.le_refl _, Nat.le_refl _⟩ hl.1 rfl (Nat.le_of_ble_eq_true rfl) dC_map_59 (fun r_9 u_9 H locs hw V => ?_)
        obtain rfl := hw
        refine cj_cvi X V (c_C_addRun l D kd ad j_3 (co j_1) (cj_po (cj_pp (con (ed j_1)) (con j_3) (n (ed j_1)) (n j_3)) (hz j_1) (n (ed j_1))) hR (by omega)) 0 1 rfl rfl rfl ml_C_72 im_C_addRun se_C_addRun in_C cd_C_addRun hd_C_addRun ⟨by decide, by decide⟩ ⟨Nat.le_refl _, Nat.le_refl _⟩ hl.1 rfl (Nat.le_of_ble_eq_true rfl) dC_map_62 (fun r_9 ua H locs hw V => ?_)
        obtain ⟨rfl, rfl⟩ := hw
        exact cj_reti (a_rn rn (o_room rn j_3 (co j_1) (cj_po (cj_pp (con (ed j_1)) (con j_3) (n (ed j_1)) (n j_3)) (hz j_1) (n (ed j_1)))), a_ed rn ed (o_room rn j_3 (co j_1) (cj_po (cj_pp (con (ed j_1)) (con j_3) (n (ed j_1)) (n j_3)) (hz j_1) (n (ed j_1)))), a_co rn co (o_room rn j_3 (co j_1) (cj_po (cj_pp (con (ed j_1)) (con j_3) (n (ed j_1)) (n j_3)) (hz j_1) (n (ed j_1)))), a_hz rn hz (o_room rn j_3 (co j_1) (cj_po (cj_pp (con (ed j_1)) (con j_3) (n (ed j_1)) (n j_3)) (hz j_1) (n (ed j_1)))), a_cl (va_up (va_up cl (ed j_1) true) j_3 true) (o_room rn j_3 (co j_1) (cj_po (cj_pp (con (ed j_1)) (con j_3) (n (ed j_1)) (n j_3)) (hz j_1) (n (ed j_1)))), uc.1, uc.2) X hr V (by simp only [o_map, q_map, o_room, ij_1, ij_3, c_5, if_true]; refine ⟨?_, ?_, ?_, ?_, ?_, ?_⟩ <;> first | rfl | trivial) dC_map_65
      ·
        refine lv_iconst (v := (-1)) hx hb dC_map_25 (by decide) ?_
        exact cj_reti (rn, ed, co, hz, cl, mp, pr) X hr V (by simp only [o_map, q_map, ij_1, ij_3]; rw [if_neg (by omega), if_neg (by omega)]; refine ⟨?_, ?_, ?_, ?_, ?_, ?_⟩ <;> first | rfl | trivial) dC_map_26
    ·
      have ij_3 := cj_ix_f hj_3
      refine lv_if_eq (tgt := 25) hx hb dC_map_13 (by decide) (fun _ => ?_) (fun h => absurd (by decide) h)
      refine lv_iconst (v := (-1)) hx hb dC_map_25 (by decide) ?_
      exact cj_reti (rn, ed, co, hz, cl, mp, pr) X hr V (by simp only [o_map, q_map, ij_1, ij_3]; refine ⟨?_, ?_, ?_, ?_, ?_, ?_⟩ <;> first | rfl | trivial) dC_map_26
  ·
    have ij_1 := cj_ix_f hj_1
    refine lv_if_eq (tgt := 25) hx hb dC_map_5 (by decide) (fun _ => ?_) (fun h => absurd (by decide) h)
    refine lv_iconst (v := (-1)) hx hb dC_map_25 (by decide) ?_
    exact cj_reti (rn, ed, co, hz, cl, mp, pr) X hr V (by simp only [o_map, q_map, ij_1]; refine ⟨?_, ?_, ?_, ?_, ?_, ?_⟩ <;> first | rfl | trivial) dC_map_26
set_option maxRecDepth 100000 in
set_option maxHeartbeats 4000000 in
theorem c_C_same (l : Launch) (D : va_G) (kd : Nat → ClassId) (ad : Nat → Nat) {E : Nat} {n : Nat → Nat} {cl : Nat → Bool} {con : Nat → Nat → Int32} {ow : Nat → Nat → Int64} {rn : Nat} {ed : Nat → Nat} {co : Nat → Nat} {hz : Nat → Int64} {mp : Nat → Nat → Nat} {pr : Nat → Int32} {cn : Nat} {hs : Nat → Int64} {wg : Nat → Int64} {rs : Nat → Int64} {ch : Int32} (hE : E ≤ 8) (hn : ∀ i, n i ≤ 40) (hR : rn ≤ 14) (hed : ∀ r, r < rn → ed r < E) (hco : ∀ r, co r ≤ 100000) (x y z : Int32) : cj_Mi (S := (Nat → Bool) × (Nat → Nat → Nat) × (Nat → Int32)) l yC_same cC_same 4 (some .int) 3 D kd [.ref (ad 0), .int x, .int y, .int z] (wC kd ad E n cl con ow rn ed co hz mp pr cn hs wg rs ch) (fun r u => r = f_same E n con x y z ∧ u.1 = k_cl cl (q_same E n x y z)) (fun u => wC kd ad E n u.1 con ow rn ed co hz u.2.1 u.2.2 cn hs wg rs ch) := by
  refine cj_ofi (by decide) (Nat.le_of_ble_eq_true rfl) ?_
  intro p e s m below meth c A ls X hr V hl
  obtain ⟨⟨hx, hb, hml, hown, hts⟩, hK, hlk⟩ := id X
  have hl : lv_has ls 4 [(0, .ref (ad 0)), (1, .int x), (2, .int y), (3, .int z)] := hl
  refine lv_aload_n hx hb dC_same_0 rfl (lv_at hl 0 rfl) ?_
  refine lv_iload_n hx hb dC_same_1 rfl (lv_at hl 1 rfl) ?_
  refine cj_cvi X V (c_C_isEdition l D kd ad hE x) 0 1 rfl rfl rfl ml_C_60 im_C_isEdition se_C_isEdition in_C cd_C_isEdition hd_C_isEdition ⟨by decide, by decide⟩ ⟨Nat.le_refl _, Nat.le_refl _⟩ hl.1 rfl (Nat.le_of_ble_eq_true rfl) dC_same_2 (fun r_9 u_9 H locs hw V => ?_)
  rcases hw with ⟨rfl, j_1, hj_1, rfl⟩ | ⟨rfl, hj_1⟩
  ·
    have ij_1 := cj_ix_t hj_1 (show E < 2 ^ 31 by omega)
    refine lv_if_eq (tgt := 25) hx hb dC_same_5 (by decide) (fun h => absurd h (by decide)) (fun _ => ?_)
    refine lv_aload_n hx hb dC_same_8 rfl (lv_at hl 0 rfl) ?_
    refine lv_iload_n hx hb dC_same_9 rfl (lv_at hl 2 rfl) ?_
    refine cj_cvi X V (c_C_isEdition l D kd ad hE y) 0 1 rfl rfl rfl ml_C_60 im_C_isEdition se_C_isEdition in_C cd_C_isEdition hd_C_isEdition ⟨by decide, by decide⟩ ⟨Nat.le_refl _, Nat.le_refl _⟩ hl.1 rfl (Nat.le_of_ble_eq_true rfl) dC_same_10 (fun r_9 u_9 H locs hw V => ?_)
    rcases hw with ⟨rfl, j_3, hj_3, rfl⟩ | ⟨rfl, hj_3⟩
    ·
      have ij_3 := cj_ix_t hj_3 (show E < 2 ^ 31 by omega)
      refine lv_if_eq (tgt := 25) hx hb dC_same_13 (by decide) (fun h => absurd h (by decide)) (fun _ => ?_)
      refine lv_aload_n hx hb dC_same_16 rfl (lv_at hl 0 rfl) ?_
      refine lv_iload_n hx hb dC_same_17 rfl (lv_at hl 1 rfl) ?_
      refine lv_iload_n hx hb dC_same_18 rfl (lv_at hl 3 rfl) ?_
      refine cj_cvi X V (c_C_isLine l D kd ad j_1 (by omega) (hn _) z) 0 1 rfl rfl rfl ml_C_79 im_C_isLine se_C_isLine in_C cd_C_isLine hd_C_isLine ⟨by decide, by decide⟩ ⟨Nat.le_refl _, Nat.le_refl _⟩ hl.1 rfl (Nat.le_of_ble_eq_true rfl) dC_same_19 (fun r_9 u_9 H locs hw V => ?_)
      rcases hw with ⟨rfl, j_5, hj_5, rfl⟩ | ⟨rfl, hj_5⟩
      ·
        have fj_5 := hn j_1
        have ij_5 := cj_ix_t hj_5 (show n j_1 < 2 ^ 31 by omega)
        refine lv_if_ne (tgt := 27) hx hb dC_same_22 (by decide) (fun _ => ?_) (fun h => absurd h (by decide))
        refine lv_aload_n hx hb dC_same_27 rfl (lv_at hl 0 rfl) ?_
        refine lv_iload_n hx hb dC_same_28 rfl (lv_at hl 1 rfl) ?_
        refine lv_iload_n hx hb dC_same_29 rfl (lv_at hl 2 rfl) ?_
        refine cj_cvv X V (c_C_compare l D kd ad j_1 j_3 (by omega) (by omega) hn) 0 1 rfl rfl rfl ml_C_86 im_C_compare se_C_compare in_C cd_C_compare hd_C_compare ⟨by decide, by decide⟩ ⟨Nat.le_refl _, Nat.le_refl _⟩ hl.1 rfl (Nat.le_of_ble_eq_true rfl) dC_same_30 (fun uc H locs hw V => ?_)
        have hP := hw
        refine lv_aload_n hx hb dC_same_33 rfl (lv_at hl 0 rfl) ?_
        refine gC 10 X V fl_C_47 (by decide) rfl dC_same_34 ?_
        refine lv_iload_n hx hb dC_same_37 rfl (lv_at hl 3 rfl) ?_
        refine rC_pr X V (by omega) dC_same_38 ?_
        exact cj_reti (va_up (va_up cl j_1 true) j_3 true, uc.1, uc.2) X hr V (by refine ⟨?_, ?_⟩; · { simp only [f_same, ij_1, ij_3, ij_5]; exact hP j_5 (by omega) }; · { simp only [q_same, ij_1, ij_3, ij_5]; rfl }) dC_same_39
      ·
        have ij_5 := cj_ix_f hj_5
        refine lv_if_ne (tgt := 27) hx hb dC_same_22 (by decide) (fun h => absurd (by decide) h) (fun _ => ?_)
        refine lv_iconst (v := (-1)) hx hb dC_same_25 (by decide) ?_
        exact cj_reti (cl, mp, pr) X hr V (by refine ⟨?_, ?_⟩; · { simp only [f_same, ij_1, ij_3, ij_5] }; · { simp only [q_same, ij_1, ij_3, ij_5]; rfl }) dC_same_26
    ·
      have ij_3 := cj_ix_f hj_3
      refine lv_if_eq (tgt := 25) hx hb dC_same_13 (by decide) (fun _ => ?_) (fun h => absurd (by decide) h)
      refine lv_iconst (v := (-1)) hx hb dC_same_25 (by decide) ?_
      exact cj_reti (cl, mp, pr) X hr V (by refine ⟨?_, ?_⟩; · { simp only [f_same, ij_1, ij_3] }; · { simp only [q_same, ij_1, ij_3]; rfl }) dC_same_26
  ·
    have ij_1 := cj_ix_f hj_1
    refine lv_if_eq (tgt := 25) hx hb dC_same_5 (by decide) (fun _ => ?_) (fun h => absurd (by decide) h)
    refine lv_iconst (v := (-1)) hx hb dC_same_25 (by decide) ?_
    exact cj_reti (cl, mp, pr) X hr V (by refine ⟨?_, ?_⟩; · { simp only [f_same, ij_1] }; · { simp only [q_same, ij_1]; rfl }) dC_same_26
set_option maxRecDepth 100000 in
set_option maxHeartbeats 4000000 in
theorem c_C_fresh (l : Launch) (D : va_G) (kd : Nat → ClassId) (ad : Nat → Nat) {E : Nat} {n : Nat → Nat} {cl : Nat → Bool} {con : Nat → Nat → Int32} {ow : Nat → Nat → Int64} {rn : Nat} {ed : Nat → Nat} {co : Nat → Nat} {hz : Nat → Int64} {mp : Nat → Nat → Nat} {pr : Nat → Int32} {cn : Nat} {hs : Nat → Int64} {wg : Nat → Int64} {rs : Nat → Int64} {ch : Int32} (hE : E ≤ 8) (hn : ∀ i, n i ≤ 40) (hR : rn ≤ 14) (hed : ∀ r, r < rn → ed r < E) (hco : ∀ r, co r ≤ 100000) (x y : Int32) (b : Bool) : cj_Mi (S := (Nat → Bool) × (Nat → Nat → Nat) × (Nat → Int32)) l yC_fresh cC_fresh 7 (some .int) 3 D kd [.ref (ad 0), .int x, .int y, .int (bI b)] (wC kd ad E n cl con ow rn ed co hz mp pr cn hs wg rs ch) (fun r u => r = f_freshC E rn n con ow ed hz x y b ∧ u.1 = k_cl cl (q_fresh E rn ed x y)) (fun u => wC kd ad E n u.1 con ow rn ed co hz u.2.1 u.2.2 cn hs wg rs ch) := by
  refine cj_ofi (by decide) (Nat.le_of_ble_eq_true rfl) ?_
  intro p e s m below meth c A ls X hr V hl
  obtain ⟨⟨hx, hb, hml, hown, hts⟩, hK, hlk⟩ := id X
  have hl : lv_has ls 7 [(0, .ref (ad 0)), (1, .int x), (2, .int y), (3, .int (bI b))] := hl
  refine lv_aload_n hx hb dC_fresh_0 rfl (lv_at hl 0 rfl) ?_
  refine lv_iload_n hx hb dC_fresh_1 rfl (lv_at hl 1 rfl) ?_
  refine cj_cvi X V (c_C_isRun l D kd ad hR x) 0 1 rfl rfl rfl ml_C_76 im_C_isRun se_C_isRun in_C cd_C_isRun hd_C_isRun ⟨by decide, by decide⟩ ⟨Nat.le_refl _, Nat.le_refl _⟩ hl.1 rfl (Nat.le_of_ble_eq_true rfl) dC_fresh_2 (fun r_9 u_9 H locs hw V => ?_)
  rcases hw with ⟨rfl, j_1, hj_1, rfl⟩ | ⟨rfl, hj_1⟩
  ·
    have ij_1 := cj_ix_t hj_1 (show rn < 2 ^ 31 by omega)
    refine lv_if_eq (tgt := 16) hx hb dC_fresh_5 (by decide) (fun h => absurd h (by decide)) (fun _ => ?_)
    refine lv_aload_n hx hb dC_fresh_8 rfl (lv_at hl 0 rfl) ?_
    refine lv_iload_n hx hb dC_fresh_9 rfl (lv_at hl 2 rfl) ?_
    refine cj_cvi X V (c_C_isEdition l D kd ad hE y) 0 1 rfl rfl rfl ml_C_60 im_C_isEdition se_C_isEdition in_C cd_C_isEdition hd_C_isEdition ⟨by decide, by decide⟩ ⟨Nat.le_refl _, Nat.le_refl _⟩ hl.1 rfl (Nat.le_of_ble_eq_true rfl) dC_fresh_10 (fun r_9 u_9 H locs hw V => ?_)
    rcases hw with ⟨rfl, j_3, hj_3, rfl⟩ | ⟨rfl, hj_3⟩
    ·
      have ij_3 := cj_ix_t hj_3 (show E < 2 ^ 31 by omega)
      refine lv_if_ne (tgt := 18) hx hb dC_fresh_13 (by decide) (fun _ => ?_) (fun h => absurd h (by decide))
      refine lv_aload_n hx hb dC_fresh_18 rfl (lv_at hl 0 rfl) ?_
      refine gC 6 X V fl_C_34 (by decide) rfl dC_fresh_19 ?_
      refine lv_iload_n hx hb dC_fresh_22 rfl (lv_at hl 1 rfl) ?_
      refine rC_ed X V (by omega) dC_fresh_23 ?_
      have f_e_5 := hed j_1 (by omega)
      refine lv_istore (lv' := [(4, .int (nI (ed j_1))), (0, .ref (ad 0)), (1, .int (nI j_1)), (2, .int (nI j_3)), (3, .int (bI b))]) hx hb dC_fresh_24 hl (by decide) rfl (fun ls hl => ?_)
      refine lv_aload_n hx hb dC_fresh_26 rfl (lv_at hl 1 rfl) ?_
      refine lv_iload_n hx hb dC_fresh_27 rfl (lv_at hl 3 rfl) ?_
      refine lv_iload hx hb dC_fresh_28 (lv_at hl 0 rfl) ?_
      refine cj_cvv X V (c_C_compare l D kd ad j_3 (ed j_1) (by omega) (by omega) hn) 0 1 rfl rfl rfl ml_C_86 im_C_compare se_C_compare in_C cd_C_compare hd_C_compare ⟨by decide, by decide⟩ ⟨Nat.le_refl _, Nat.le_refl _⟩ hl.1 rfl (Nat.le_of_ble_eq_true rfl) dC_fresh_30 (fun uc H locs hw V => ?_)
      have hP := hw
      refine lv_aload_n hx hb dC_fresh_33 rfl (lv_at hl 1 rfl) ?_
      refine lv_iload hx hb dC_fresh_34 (lv_at hl 0 rfl) ?_
      refine cj_cvl X V (c_C_ungenerated l D kd ad (ed j_1) (by omega)) 0 1 rfl rfl rfl ml_C_106 im_C_ungenerated se_C_ungenerated in_C cd_C_ungenerated hd_C_ungenerated ⟨by decide, by decide⟩ ⟨Nat.le_refl _, Nat.le_refl _⟩ hl.1 rfl (Nat.le_of_ble_eq_true rfl) dC_fresh_36 (fun r_9 u_9 H locs hw V => ?_)
      obtain rfl := hw
      refine lv_aload_n hx hb dC_fresh_39 rfl (lv_at hl 1 rfl) ?_
      refine lv_iload_n hx hb dC_fresh_40 rfl (lv_at hl 3 rfl) ?_
      refine lv_aload_n hx hb dC_fresh_41 rfl (lv_at hl 1 rfl) ?_
      refine gC 1 X V fl_C_13 (by decide) rfl dC_fresh_42 ?_
      refine lv_iload_n hx hb dC_fresh_45 rfl (lv_at hl 3 rfl) ?_
      refine rC_n X V (by omega) dC_fresh_46 ?_
      have f_e_6 := hn j_3
      refine cj_csl X V (c_C_firstBits l D kd ad (n j_3) (by omega)) ml_C_109 st_C_firstBits in_C cd_C_firstBits hd_C_firstBits ⟨by decide, by decide⟩ ⟨Nat.le_refl _, Nat.le_refl _⟩ hl.1 rfl (Nat.le_of_ble_eq_true rfl) dC_fresh_47 (fun r_9 u_9 H locs hw V => ?_)
      obtain rfl := hw
      refine cj_cvl X V (c_C_pairsOf l D kd ad j_3 (by omega) (cj_bit (n j_3) - lN 1) (cj_pp (con j_3) (con (ed j_1)) (n j_3) (n (ed j_1))) hn hP (fun i q h => by have h1 := cj_pp_lt h; have h2 := hn (ed j_1); omega)) 0 1 rfl rfl rfl ml_C_90 im_C_pairsOf se_C_pairsOf in_C cd_C_pairsOf hd_C_pairsOf ⟨by decide, by decide⟩ ⟨Nat.le_refl _, Nat.le_refl _⟩ hl.1 rfl (Nat.le_of_ble_eq_true rfl) dC_fresh_50 (fun r_9 u_9 H locs hw V => ?_)
      obtain rfl := hw
      refine lv_ldc2 hx hb hown (hts _ kl_C_112) dC_fresh_53 ?_
      refine lv_lxor hx hb dC_fresh_56 ?_
      refine lv_land hx hb dC_fresh_57 ?_
      refine lv_lstore (lv' := [(5, .long ((cj_ug ow (ed j_1) 4) &&& ((cj_po (cj_pp (con j_3) (con (ed j_1)) (n j_3) (n (ed j_1))) (cj_bit (n j_3) - lN 1) (n j_3)) ^^^ (-1)))), (4, .int (nI (ed j_1))), (0, .ref (ad 0)), (1, .int (nI j_1)), (2, .int (nI j_3)), (3, .int (bI b))]) hx hb dC_fresh_58 hl (by decide) rfl (fun ls hl => ?_)
      refine lv_iload_n hx hb dC_fresh_60 rfl (lv_at hl 5 rfl) ?_
      refine cj_b_eq (tgt := 76) hx hb dC_fresh_61 (by decide) (fun c_7 => ?_) (fun c_7 => ?_)
      ·
        refine lv_lload hx hb dC_fresh_76 (lv_at hl 0 rfl) ?_
        refine cj_csi X V (c_J_bitCount l D kd _ ((cj_ug ow (ed j_1) 4) &&& ((cj_po (cj_pp (con j_3) (con (ed j_1)) (n j_3) (n (ed j_1))) (cj_bit (n j_3) - lN 1) (n j_3)) ^^^ (-1)))) ml_C_114 st_J_bitCount in_J cd_J_bitCount hd_J_bitCount ⟨by decide, by decide⟩ ⟨Nat.le_refl _, Nat.le_refl _⟩ hl.1 rfl (Nat.le_of_ble_eq_true rfl) dC_fresh_78 (fun r_9 u_9 H locs hw V => ?_)
        obtain rfl := hw
        have f_q_8 := cj_pop_le ((cj_ug ow (ed j_1) 4) &&& ((cj_po (cj_pp (con j_3) (con (ed j_1)) (n j_3) (n (ed j_1))) (cj_bit (n j_3) - lN 1) (n j_3)) ^^^ (-1)))
        exact cj_reti (va_up (va_up cl j_3 true) (ed j_1) true, uc.1, uc.2) X hr V (by refine ⟨?_, ?_⟩; · { simp only [f_freshC, ij_1, ij_3, c_7, cond_true, cond_false] }; · { simp only [q_fresh, ij_1, ij_3]; rfl }) dC_fresh_81
      ·
        refine lv_lload hx hb dC_fresh_64 (lv_at hl 0 rfl) ?_
        refine lv_aload_n hx hb dC_fresh_66 rfl (lv_at hl 2 rfl) ?_
        refine gC 8 X V fl_C_40 (by decide) rfl dC_fresh_67 ?_
        refine lv_iload_n hx hb dC_fresh_70 rfl (lv_at hl 3 rfl) ?_
        refine rC_hi X V (by omega) dC_fresh_71 ?_
        refine lv_land hx hb dC_fresh_72 ?_
        refine lv_goto (tgt := 78) hx hb dC_fresh_73 (by decide) ?_
        refine cj_csi X V (c_J_bitCount l D kd _ (((cj_ug ow (ed j_1) 4) &&& ((cj_po (cj_pp (con j_3) (con (ed j_1)) (n j_3) (n (ed j_1))) (cj_bit (n j_3) - lN 1) (n j_3)) ^^^ (-1))) &&& (hz j_1))) ml_C_114 st_J_bitCount in_J cd_J_bitCount hd_J_bitCount ⟨by decide, by decide⟩ ⟨Nat.le_refl _, Nat.le_refl _⟩ hl.1 rfl (Nat.le_of_ble_eq_true rfl) dC_fresh_78 (fun r_9 u_9 H locs hw V => ?_)
        obtain rfl := hw
        have f_q_9 := cj_pop_le (((cj_ug ow (ed j_1) 4) &&& ((cj_po (cj_pp (con j_3) (con (ed j_1)) (n j_3) (n (ed j_1))) (cj_bit (n j_3) - lN 1) (n j_3)) ^^^ (-1))) &&& (hz j_1))
        exact cj_reti (va_up (va_up cl j_3 true) (ed j_1) true, uc.1, uc.2) X hr V (by refine ⟨?_, ?_⟩; · { simp only [f_freshC, ij_1, ij_3, c_7, cond_true, cond_false] }; · { simp only [q_fresh, ij_1, ij_3]; rfl }) dC_fresh_81
    ·
      have ij_3 := cj_ix_f hj_3
      refine lv_if_ne (tgt := 18) hx hb dC_fresh_13 (by decide) (fun h => absurd (by decide) h) (fun _ => ?_)
      refine lv_iconst (v := (-1)) hx hb dC_fresh_16 (by decide) ?_
      exact cj_reti (cl, mp, pr) X hr V (by refine ⟨?_, ?_⟩; · { simp only [f_freshC, ij_1, ij_3, cond_true, cond_false] }; · { simp only [q_fresh, ij_1, ij_3]; rfl }) dC_fresh_17
  ·
    have ij_1 := cj_ix_f hj_1
    refine lv_if_eq (tgt := 16) hx hb dC_fresh_5 (by decide) (fun _ => ?_) (fun h => absurd (by decide) h)
    refine lv_iconst (v := (-1)) hx hb dC_fresh_16 (by decide) ?_
    exact cj_reti (cl, mp, pr) X hr V (by refine ⟨?_, ?_⟩; · { simp only [f_freshC, ij_1, cond_true, cond_false] }; · { simp only [q_fresh, ij_1]; rfl }) dC_fresh_17
end
section
-- PURE: candidates, their weights, the lightest cover as the class seeks it
/-- the runs before i of an edition -/
def cj_cd (ed : Nat → Nat) (ea : Nat) : Nat → List Nat
  | 0 => []
  | i + 1 => if ed i = ea then cj_cd ed ea i ++ [i] else cj_cd ed ea i
def cj_wt (co : Nat → Nat) (r : Nat) : Nat := co r * 262144 + 16384 + 2 ^ r
/-- what some runs hit together -/
def cj_or (hz : Nat → Int64) : List Nat → Int64
  | [] => 0
  | r :: M => cj_or hz M ||| hz r
def cj_G (L : List Nat) (co : Nat → Nat) (hz hs wg : Nat → Int64) : Prop := ∀ k r, L[k]? = some r → hs k = hz r ∧ wg k = lN (cj_wt co r)
def cj_Rr (L : List Nat) (hz rs : Nat → Int64) (a : Nat) : Prop := ∀ k, a ≤ k → k ≤ L.length → rs k = cj_or hz (L.drop k)
def cj_ll (co : Nat → Nat) (hz : Nat → Int64) : List Nat → Int64 → Int64 → Int64 → Int64
  | [], ms, wt, bs => if wt < bs then (if ms = 0 then wt else bs) else bs
  | r :: M, ms, wt, bs => if wt < bs then (if ms = 0 then wt else if ms &&& (cj_or hz (r :: M) ^^^ (-1)) = 0 then
      cj_ll co hz M ms wt (if ms &&& hz r = 0 then bs else cj_ll co hz M (ms &&& (hz r ^^^ (-1))) (wt + lN (cj_wt co r)) bs) else bs) else bs
section CJP5
variable {ed co : Nat → Nat} {hz hs wg rs : Nat → Int64} {ea i : Nat} {L : List Nat}
theorem cj_cd_t (h : ed i = ea) : cj_cd ed ea (i + 1) = cj_cd ed ea i ++ [i] := if_pos h
theorem cj_cd_f (h : ed i ≠ ea) : cj_cd ed ea (i + 1) = cj_cd ed ea i := if_neg h
theorem cj_cl_t (h : ed i = ea) : (cj_cd ed ea (i + 1)).length = (cj_cd ed ea i).length + 1 := by rw [cj_cd_t h, List.length_append]; rfl
theorem cj_cl_f (h : ed i ≠ ea) : (cj_cd ed ea (i + 1)).length = (cj_cd ed ea i).length := by rw [cj_cd_f h]
theorem cj_cd_len : ∀ i : Nat, (cj_cd ed ea i).length ≤ i
  | 0 => Nat.le_refl 0
  | i + 1 => by
    have := cj_cd_len i
    by_cases h : ed i = ea
    · rw [cj_cl_t h]; omega
    · rw [cj_cl_f h]; omega
theorem cj_G_t (h : ed i = ea) (hG : cj_G (cj_cd ed ea i) co hz hs wg) : cj_G (cj_cd ed ea (i + 1)) co hz (va_up hs (cj_cd ed ea i).length (hz i)) (va_up wg (cj_cd ed ea i).length (lN (cj_wt co i))) := by
  intro k r hk
  rw [cj_cd_t h] at hk
  by_cases hl : k < (cj_cd ed ea i).length
  · rw [List.getElem?_append_left hl] at hk
    rw [va_up_ne _ _ (by omega), va_up_ne _ _ (by omega)]
    exact hG k r hk
  · have h1 : k < (cj_cd ed ea i ++ [i]).length := (List.getElem?_eq_some_iff.mp hk).1
    rw [List.length_append, List.length_singleton] at h1
    obtain rfl : k = (cj_cd ed ea i).length := by omega
    rw [List.getElem?_append_right (Nat.le_refl _), Nat.sub_self] at hk
    cases hk
    rw [va_up_self, va_up_self]
    exact ⟨rfl, rfl⟩
theorem cj_G_f (h : ed i ≠ ea) (hG : cj_G (cj_cd ed ea i) co hz hs wg) : cj_G (cj_cd ed ea (i + 1)) co hz hs wg := by rw [cj_cd_f h]; exact hG
theorem cj_Rr_0 : cj_Rr L hz (va_up rs L.length 0) L.length := by
  intro k h1 h2
  obtain rfl : k = L.length := by omega
  rw [va_up_self, List.drop_length]
  rfl
theorem cj_Rr_s {a : Nat} (ha : a < L.length) (hG : cj_G L co hz hs wg) (hR : cj_Rr L hz rs (a + 1)) : cj_Rr L hz (va_up rs a (rs (a + 1) ||| hs a)) a := by
  intro k h1 h2
  by_cases e : k = a
  · rw [e, va_up_self, List.drop_eq_getElem_cons ha, hR (a + 1) (Nat.le_refl _) ha, (hG a L[a] (List.getElem?_eq_getElem ha)).1]
    rfl
  · rw [va_up_ne _ _ e]
    exact hR k (by omega) h2
end CJP5
theorem cj_lor {a b i : Nat} (hb : b < 2 ^ i) (h : 2 ^ i * a + b < 2 ^ 64) : lN (2 ^ i * a) ||| lN b = lN (2 ^ i * a + b) := by
  rw [wb_or (by omega) (by omega), ← Nat.two_pow_add_eq_or_of_lt hb a]
theorem cj_wt_ok {c j : Nat} (hc : c ≤ 100000) (hj : j < 14) : ((nI c).toInt64 <<< ((nI 18).toInt64 &&& 63) ||| 16384) ||| cj_bit j = lN (c * 262144 + 16384 + 2 ^ j) := by
  have hp : 2 ^ j < 2 ^ 14 := wb_lt2 hj
  have e1 : (nI c).toInt64 <<< ((nI 18).toInt64 &&& 63) = lN (2 ^ 18 * c) := by
    rw [nI_l (by omega), wb_shl c (by decide), Nat.mul_comm]
  have e2 : (16384 : Int64) = lN 16384 := by decide
  rw [e1, e2, cj_lor (i := 18) (by decide) (by omega)]
  have e3 : 2 ^ 18 * c + 16384 = 2 ^ 14 * (16 * c + 1) := by omega
  unfold cj_bit
  rw [e3, cj_lor (i := 14) hp (by omega)]
  congr 1
  omega
theorem cj_ll_nil {co : Nat → Nat} {hz : Nat → Int64} {ms wt bs : Int64} : cj_ll co hz [] ms wt bs = if wt < bs then (if ms = 0 then wt else bs) else bs := rfl
theorem cj_ll_cons {co : Nat → Nat} {hz : Nat → Int64} {r : Nat} {M : List Nat} {ms wt bs : Int64} : cj_ll co hz (r :: M) ms wt bs = if wt < bs then (if ms = 0 then wt else if ms &&& (cj_or hz (r :: M) ^^^ (-1)) = 0 then
      cj_ll co hz M ms wt (if ms &&& hz r = 0 then bs else cj_ll co hz M (ms &&& (hz r ^^^ (-1))) (wt + lN (cj_wt co r)) bs) else bs) else bs := rfl
end
section
set_option maxRecDepth 100000 in
set_option maxHeartbeats 4000000 in
theorem c_C_weightOf (l : Launch) (D : va_G) (kd : Nat → ClassId) (ad : Nat → Nat) {E : Nat} {n : Nat → Nat} {cl : Nat → Bool} {con : Nat → Nat → Int32} {ow : Nat → Nat → Int64} {rn : Nat} {ed : Nat → Nat} {co : Nat → Nat} {hz : Nat → Int64} {mp : Nat → Nat → Nat} {pr : Nat → Int32} {cn : Nat} {hs : Nat → Int64} {wg : Nat → Int64} {rs : Nat → Int64} {ch : Int32} (j : Nat) (hj : j < 14) (hc : co j ≤ 100000) : cj_Ml (S := Unit) l yC_weightOf cC_weightOf 2 (some .long) 0 D kd [.ref (ad 0), .int (nI j)] (wC kd ad E n cl con ow rn ed co hz mp pr cn hs wg rs ch) (fun r _ => r = lN (cj_wt co j)) (fun _ => wC kd ad E n cl con ow rn ed co hz mp pr cn hs wg rs ch) := by
  refine cj_ofl (by decide) (Nat.le_of_ble_eq_true rfl) ?_
  intro p e s m below meth c A ls X hr V hl
  obtain ⟨⟨hx, hb, hml, hown, hts⟩, hK, hlk⟩ := id X
  have hl : lv_has ls 2 [(0, .ref (ad 0)), (1, .int (nI j))] := hl
  refine lv_aload_n hx hb dC_weightOf_0 rfl (lv_at hl 0 rfl) ?_
  refine gC 7 X V fl_C_37 (by decide) rfl dC_weightOf_1 ?_
  refine lv_iload_n hx hb dC_weightOf_4 rfl (lv_at hl 1 rfl) ?_
  refine rC_co X V (by omega) dC_weightOf_5 ?_
  refine lv_i2l hx hb dC_weightOf_6 rfl ?_
  refine lv_bipush (v := nI 18) hx hb dC_weightOf_7 (by decide) ?_
  refine lv_lshl hx hb dC_weightOf_9 rfl ?_
  refine lv_ldc2 hx hb hown (hts _ kl_C_160) dC_weightOf_10 ?_
  refine lv_lor hx hb dC_weightOf_13 ?_
  refine lv_lconst (v := lN 1) hx hb dC_weightOf_14 (by decide) ?_
  refine lv_iload_n hx hb dC_weightOf_15 rfl (lv_at hl 1 rfl) ?_
  refine lv_lshl hx hb dC_weightOf_16 (cj_shl1 (by omega)) ?_
  refine lv_lor hx hb dC_weightOf_17 ?_
  exact cj_retl () X hr V (cj_wt_ok hc hj) dC_weightOf_18
set_option maxRecDepth 100000 in
set_option maxHeartbeats 4000000 in
theorem lp_C_gath1 {p : Program} {l : Launch} {e : Env} {s : State} {m : MethodId} {args : Array Value} {below : List Frame} {meth : Method} {c : Code} {Q : State → Prop} {D : va_G} {kd : Nat → ClassId} {A : Nat → Prop} {H0 : Heap} {ad : Nat → Nat} {E : Nat} {n : Nat → Nat} {cl : Nat → Bool} {con : Nat → Nat → Int32} {ow : Nat → Nat → Int64} {rn : Nat} {ed : Nat → Nat} {co : Nat → Nat} {hz : Nat → Int64} {mp : Nat → Nat → Nat} {pr : Nat → Int32} {cn : Nat} {rs : Nat → Int64} {ch : Int32} (X : cj_X p s m args c meth cC_gatherCandidates 4 RC D kd) (hR : rn ≤ 14) (hco : ∀ r, co r ≤ 100000) (hed : ∀ r, r < rn → ed r < 8) (ea : Nat) (he : ea < 8) : ∀ (d i : Nat) (hs wg : Nat → Int64) (H : Heap) (locs : List Loc) (ls : Array Slot), i + d = rn → cj_G (cj_cd ed ea i) co hz hs wg → cj_V D A H0 (wC kd ad E n cl con ow rn ed co hz mp pr cn hs wg rs ch) H locs → lv_has ls 4 [(3, .int (nI i)), (2, .int (nI ((cj_cd ed ea i).length))), (0, .ref (ad 0)), (1, .int (nI ea))] → (∀ (hs wg : Nat → Int64) (H : Heap) (locs : List Loc) (ls : Array Slot), cj_G (cj_cd ed ea rn) co hz hs wg → cj_V D A H0 (wC kd ad E n cl con ow rn ed co hz mp pr cn hs wg rs ch) H locs → lv_has ls 4 [(2, .int (nI ((cj_cd ed ea rn).length))), (0, .ref (ad 0)), (1, .int (nI ea))] → W p l e (cj_rm 1) s m args below meth c H locs 0 0 Q (F0 m 60 ls [])) → W p l e (cj_rm 1) s m args below meth c H locs 0 0 Q (F0 m 4 ls []) := by
  obtain ⟨⟨hx, hb, hml, hown, hts⟩, hK, hlk⟩ := id X
  intro d
  induction d with
  | zero =>
    intro i hs wg H locs ls hi hG V hl kont
    have hcl := cj_cd_len (ed := ed) (ea := ea) i
    refine lv_iload_n hx hb dC_gatherCandidates_4 rfl (lv_at hl 0 rfl) ?_
    refine lv_aload_n hx hb dC_gatherCandidates_5 rfl (lv_at hl 2 rfl) ?_
    refine gC 5 X V fl_C_31 (by decide) rfl dC_gatherCandidates_6 ?_
    refine cj_n_ge (tgt := 60) hx hb dC_gatherCandidates_9 (by decide) (by omega) (by omega) (fun c_1 => ?_) (fun c_1 => ?_)
    ·
      obtain rfl : i = rn := by omega
      exact kont _ _ _ _ _ hG V (lv_sub hl [1, 2, 3] rfl)
    ·
      exact absurd c_1 (by omega)
  | succ d ih =>
    intro i hs wg H locs ls hi hG V hl kont
    have hcl := cj_cd_len (ed := ed) (ea := ea) i
    refine lv_iload_n hx hb dC_gatherCandidates_4 rfl (lv_at hl 0 rfl) ?_
    refine lv_aload_n hx hb dC_gatherCandidates_5 rfl (lv_at hl 2 rfl) ?_
    refine gC 5 X V fl_C_31 (by decide) rfl dC_gatherCandidates_6 ?_
    refine cj_n_ge (tgt := 60) hx hb dC_gatherCandidates_9 (by decide) (by omega) (by omega) (fun c_1 => ?_) (fun c_1 => ?_)
    ·
      exact absurd c_1 (by omega)
    ·
      refine lv_aload_n hx hb dC_gatherCandidates_12 rfl (lv_at hl 2 rfl) ?_
      refine gC 6 X V fl_C_34 (by decide) rfl dC_gatherCandidates_13 ?_
      refine lv_iload_n hx hb dC_gatherCandidates_16 rfl (lv_at hl 0 rfl) ?_
      refine rC_ed X V (by omega) dC_gatherCandidates_17 ?_
      have f_e_2 := hed i (by omega)
      refine lv_iload_n hx hb dC_gatherCandidates_18 rfl (lv_at hl 3 rfl) ?_
      refine cj_n_ne (tgt := 54) hx hb dC_gatherCandidates_19 (by decide) (by omega) (by omega) (fun c_3 => ?_) (fun c_3 => ?_)
      ·
        refine lv_iinc (v := nI (i + 1)) (lv' := [(3, .int (nI (i + 1))), (2, .int (nI ((cj_cd ed ea i).length))), (0, .ref (ad 0)), (1, .int (nI ea))]) hx hb dC_gatherCandidates_54 hl (k := 0) rfl (cj_inc _) (by decide) rfl (fun ls hl => ?_)
        refine lv_goto (tgt := 4) hx hb dC_gatherCandidates_57 (by decide) ?_
        exact ih (i + 1) _ _ _ _ ls (by omega) (cj_G_f c_3 hG) V (lv_sub hl [0, 1, 2, 3] (by rw [cj_cl_f c_3]; rfl)) kont
      ·
        refine lv_aload_n hx hb dC_gatherCandidates_22 rfl (lv_at hl 2 rfl) ?_
        refine gC 11 X V fl_C_53 (by decide) rfl dC_gatherCandidates_23 ?_
        refine gD 1 X V fl_C_148 (by decide) rfl dC_gatherCandidates_26 ?_
        refine lv_iload_n hx hb dC_gatherCandidates_29 rfl (lv_at hl 1 rfl) ?_
        refine lv_aload_n hx hb dC_gatherCandidates_30 rfl (lv_at hl 2 rfl) ?_
        refine gC 8 X V fl_C_40 (by decide) rfl dC_gatherCandidates_31 ?_
        refine lv_iload_n hx hb dC_gatherCandidates_34 rfl (lv_at hl 0 rfl) ?_
        refine rC_hi X V (by omega) dC_gatherCandidates_35 ?_
        refine sC_hs X V (by omega) dC_gatherCandidates_36 (fun H locs V => ?_)
        refine lv_aload_n hx hb dC_gatherCandidates_37 rfl (lv_at hl 2 rfl) ?_
        refine gC 11 X V fl_C_53 (by decide) rfl dC_gatherCandidates_38 ?_
        refine gD 2 X V fl_C_151 (by decide) rfl dC_gatherCandidates_41 ?_
        refine lv_iload_n hx hb dC_gatherCandidates_44 rfl (lv_at hl 1 rfl) ?_
        refine lv_aload_n hx hb dC_gatherCandidates_45 rfl (lv_at hl 2 rfl) ?_
        refine lv_iload_n hx hb dC_gatherCandidates_46 rfl (lv_at hl 0 rfl) ?_
        refine cj_cvl X V (c_C_weightOf l D kd ad i (by omega) (hco _)) 0 1 rfl rfl rfl ml_C_154 im_C_weightOf se_C_weightOf in_C cd_C_weightOf hd_C_weightOf ⟨by decide, by decide⟩ ⟨Nat.le_refl _, Nat.le_refl _⟩ hl.1 rfl (Nat.le_of_ble_eq_true rfl) dC_gatherCandidates_47 (fun r_9 u_9 H locs hw V => ?_)
        obtain rfl := hw
        refine sC_wg X V (by omega) dC_gatherCandidates_50 (fun H locs V => ?_)
        refine lv_iinc (v := nI ((cj_cd ed ea i).length + 1)) (lv' := [(2, .int (nI ((cj_cd ed ea i).length + 1))), (3, .int (nI i)), (0, .ref (ad 0)), (1, .int (nI ea))]) hx hb dC_gatherCandidates_51 hl (k := 1) rfl (cj_inc _) (by decide) rfl (fun ls hl => ?_)
        refine lv_iinc (v := nI (i + 1)) (lv' := [(3, .int (nI (i + 1))), (2, .int (nI ((cj_cd ed ea i).length + 1))), (0, .ref (ad 0)), (1, .int (nI ea))]) hx hb dC_gatherCandidates_54 hl (k := 1) rfl (cj_inc _) (by decide) rfl (fun ls hl => ?_)
        refine lv_goto (tgt := 4) hx hb dC_gatherCandidates_57 (by decide) ?_
        exact ih (i + 1) _ _ _ _ ls (by omega) (cj_G_t c_3 hG) V (lv_sub hl [0, 1, 2, 3] (by rw [cj_cl_t c_3]; rfl)) kont
set_option maxRecDepth 100000 in
set_option maxHeartbeats 4000000 in
theorem lp_C_gath2 {p : Program} {l : Launch} {e : Env} {s : State} {m : MethodId} {args : Array Value} {below : List Frame} {meth : Method} {c : Code} {Q : State → Prop} {D : va_G} {kd : Nat → ClassId} {A : Nat → Prop} {H0 : Heap} {ad : Nat → Nat} {E : Nat} {n : Nat → Nat} {cl : Nat → Bool} {con : Nat → Nat → Int32} {ow : Nat → Nat → Int64} {rn : Nat} {ed : Nat → Nat} {co : Nat → Nat} {hz : Nat → Int64} {mp : Nat → Nat → Nat} {pr : Nat → Int32} {cn : Nat} {hs : Nat → Int64} {wg : Nat → Int64} {ch : Int32} (X : cj_X p s m args c meth cC_gatherCandidates 4 RC D kd) (hR : rn ≤ 14) (hco : ∀ r, co r ≤ 100000) (hed : ∀ r, r < rn → ed r < 8) (ea : Nat) (he : ea < 8) (hG : cj_G (cj_cd ed ea rn) co hz hs wg) : ∀ (a : Nat) (rs : Nat → Int64) (H : Heap) (locs : List Loc) (ls : Array Slot), a ≤ (cj_cd ed ea rn).length → cj_Rr (cj_cd ed ea rn) hz rs a → cj_V D A H0 (wC kd ad E n cl con ow rn ed co hz mp pr cn hs wg rs ch) H locs → lv_has ls 4 [(3, .int (cj_p a)), (2, .int (nI ((cj_cd ed ea rn).length))), (0, .ref (ad 0)), (1, .int (nI ea))] → (∀ (rs : Nat → Int64) (H : Heap) (locs : List Loc) (ls : Array Slot), cj_Rr (cj_cd ed ea rn) hz rs 0 → cj_V D A H0 (wC kd ad E n cl con ow rn ed co hz mp pr cn hs wg rs ch) H locs → lv_has ls 4 [(2, .int (nI ((cj_cd ed ea rn).length))), (0, .ref (ad 0)), (1, .int (nI ea))] → W p l e (cj_rm 1) s m args below meth c H locs 0 0 Q (F0 m 122 ls [])) → W p l e (cj_rm 1) s m args below meth c H locs 0 0 Q (F0 m 82 ls []) := by
  obtain ⟨⟨hx, hb, hml, hown, hts⟩, hK, hlk⟩ := id X
  intro a
  induction a with
  | zero =>
    intro rs H locs ls hal hA V hl kont
    rw [cj_p0] at hl
    have hcl := cj_cd_len (ed := ed) (ea := ea) rn
    refine lv_iload_n hx hb dC_gatherCandidates_82 rfl (lv_at hl 0 rfl) ?_
    refine lv_if_lt (tgt := 122) hx hb dC_gatherCandidates_83 (by decide) (fun _ => ?_) (fun h => absurd (by decide) h)
    exact kont _ _ _ _ hA V (lv_sub hl [1, 2, 3] rfl)
  | succ a ih =>
    intro rs H locs ls hal hA V hl kont
    rw [cj_ps] at hl
    have hcl := cj_cd_len (ed := ed) (ea := ea) rn
    refine lv_iload_n hx hb dC_gatherCandidates_82 rfl (lv_at hl 0 rfl) ?_
    refine cj_z_lt (tgt := 122) hx hb dC_gatherCandidates_83 (by omega) (by decide) ?_
    refine lv_aload_n hx hb dC_gatherCandidates_86 rfl (lv_at hl 2 rfl) ?_
    refine gC 11 X V fl_C_53 (by decide) rfl dC_gatherCandidates_87 ?_
    refine gD 3 X V fl_C_124 (by decide) rfl dC_gatherCandidates_90 ?_
    refine lv_iload_n hx hb dC_gatherCandidates_93 rfl (lv_at hl 0 rfl) ?_
    refine lv_aload_n hx hb dC_gatherCandidates_94 rfl (lv_at hl 2 rfl) ?_
    refine gC 11 X V fl_C_53 (by decide) rfl dC_gatherCandidates_95 ?_
    refine gD 3 X V fl_C_124 (by decide) rfl dC_gatherCandidates_98 ?_
    refine lv_iload_n hx hb dC_gatherCandidates_101 rfl (lv_at hl 0 rfl) ?_
    refine lv_iconst (v := nI 1) hx hb dC_gatherCandidates_102 (by decide) ?_
    refine cj_iaddN hx hb dC_gatherCandidates_103 ?_
    refine rC_rs X V (by omega) dC_gatherCandidates_104 ?_
    refine lv_aload_n hx hb dC_gatherCandidates_105 rfl (lv_at hl 2 rfl) ?_
    refine gC 11 X V fl_C_53 (by decide) rfl dC_gatherCandidates_106 ?_
    refine gD 1 X V fl_C_148 (by decide) rfl dC_gatherCandidates_109 ?_
    refine lv_iload_n hx hb dC_gatherCandidates_112 rfl (lv_at hl 0 rfl) ?_
    refine rC_hs X V (by omega) dC_gatherCandidates_113 ?_
    refine lv_lor hx hb dC_gatherCandidates_114 ?_
    refine sC_rs X V (by omega) dC_gatherCandidates_115 (fun H locs V => ?_)
    refine lv_iinc (v := cj_p a) (lv' := [(3, .int (cj_p a)), (2, .int (nI ((cj_cd ed ea rn).length))), (0, .ref (ad 0)), (1, .int (nI ea))]) hx hb dC_gatherCandidates_116 hl (k := 0) rfl (cj_dp _) (by decide) rfl (fun ls hl => ?_)
    refine lv_goto (tgt := 82) hx hb dC_gatherCandidates_119 (by decide) ?_
    exact ih _ _ _ ls (by omega) (cj_Rr_s (by omega) hG hA) V (lv_sub hl [0, 1, 2, 3] rfl) kont
set_option maxRecDepth 100000 in
set_option maxHeartbeats 4000000 in
theorem c_C_gather (l : Launch) (D : va_G) (kd : Nat → ClassId) (ad : Nat → Nat) {E : Nat} {n : Nat → Nat} {cl : Nat → Bool} {con : Nat → Nat → Int32} {ow : Nat → Nat → Int64} {rn : Nat} {ed : Nat → Nat} {co : Nat → Nat} {hz : Nat → Int64} {mp : Nat → Nat → Nat} {pr : Nat → Int32} {cn : Nat} {hs : Nat → Int64} {wg : Nat → Int64} {rs : Nat → Int64} {ch : Int32} (hR : rn ≤ 14) (hco : ∀ r, co r ≤ 100000) (hed : ∀ r, r < rn → ed r < 8) (ea : Nat) (he : ea < 8) : cj_Mv (S := Nat × (Nat → Int64) × (Nat → Int64) × (Nat → Int64)) l yC_gatherCandidates cC_gatherCandidates 4 none 1 D kd [.ref (ad 0), .int (nI ea)] (wC kd ad E n cl con ow rn ed co hz mp pr cn hs wg rs ch) (fun u => u.1 = (cj_cd ed ea rn).length ∧ cj_G (cj_cd ed ea rn) co hz u.2.1 u.2.2.1 ∧ cj_Rr (cj_cd ed ea rn) hz u.2.2.2 0) (fun u => wC kd ad E n cl con ow rn ed co hz mp pr u.1 u.2.1 u.2.2.1 u.2.2.2 ch) := by
  refine cj_ofv (by decide) (Nat.le_of_ble_eq_true rfl) ?_
  intro p e s m below meth c A ls X hr V hl
  obtain ⟨⟨hx, hb, hml, hown, hts⟩, hK, hlk⟩ := id X
  have hl : lv_has ls 4 [(0, .ref (ad 0)), (1, .int (nI ea))] := hl
  refine lv_iconst (v := nI 0) hx hb dC_gatherCandidates_0 (by decide) ?_
  refine lv_istore_n (lv' := [(2, .int (nI 0)), (0, .ref (ad 0)), (1, .int (nI ea))]) hx hb dC_gatherCandidates_1 rfl hl (by decide) rfl (fun ls hl => ?_)
  refine lv_iconst (v := nI 0) hx hb dC_gatherCandidates_2 (by decide) ?_
  refine lv_istore_n (lv' := [(3, .int (nI 0)), (2, .int (nI 0)), (0, .ref (ad 0)), (1, .int (nI ea))]) hx hb dC_gatherCandidates_3 rfl hl (by decide) rfl (fun ls hl => ?_)
  have hcl := cj_cd_len (ed := ed) (ea := ea) rn
  refine lp_C_gath1 X hR hco hed ea he rn 0 _ _ _ _ ls (by omega) (fun k r h => by cases h) V (lv_sub hl [0, 1, 2, 3] rfl) (fun hs wg H locs ls hG V hl => ?_)
  refine lv_aload_n hx hb dC_gatherCandidates_60 rfl (lv_at hl 1 rfl) ?_
  refine gC 11 X V fl_C_53 (by decide) rfl dC_gatherCandidates_61 ?_
  refine lv_iload_n hx hb dC_gatherCandidates_64 rfl (lv_at hl 0 rfl) ?_
  refine pD_cn X V fl_C_157 dC_gatherCandidates_65 (fun H locs V => ?_)
  refine lv_aload_n hx hb dC_gatherCandidates_68 rfl (lv_at hl 1 rfl) ?_
  refine gC 11 X V fl_C_53 (by decide) rfl dC_gatherCandidates_69 ?_
  refine gD 3 X V fl_C_124 (by decide) rfl dC_gatherCandidates_72 ?_
  refine lv_iload_n hx hb dC_gatherCandidates_75 rfl (lv_at hl 0 rfl) ?_
  refine lv_lconst (v := 0) hx hb dC_gatherCandidates_76 (by decide) ?_
  refine sC_rs X V (by omega) dC_gatherCandidates_77 (fun H locs V => ?_)
  refine lv_iload_n hx hb dC_gatherCandidates_78 rfl (lv_at hl 0 rfl) ?_
  refine lv_iconst (v := nI 1) hx hb dC_gatherCandidates_79 (by decide) ?_
  refine lv_isub hx hb dC_gatherCandidates_80 ?_
  refine cj_ti (cj_subp ((cj_cd ed ea rn).length)) ?_
  refine lv_istore_n (lv' := [(3, .int (cj_p ((cj_cd ed ea rn).length))), (2, .int (nI ((cj_cd ed ea rn).length))), (0, .ref (ad 0)), (1, .int (nI ea))]) hx hb dC_gatherCandidates_81 rfl hl (by decide) rfl (fun ls hl => ?_)
  refine lp_C_gath2 X hR hco hed ea he hG (cj_cd ed ea rn).length _ _ _ ls (Nat.le_refl _) cj_Rr_0 V (lv_sub hl [0, 1, 2, 3] rfl) (fun rs H locs ls hA V hl => ?_)
  exact cj_retv ((cj_cd ed ea rn).length, hs, wg, rs) X hr V ⟨rfl, hG, hA⟩ dC_gatherCandidates_122
end
section
def cj_best (ed co : Nat → Nat) (hz : Nat → Int64) (rn ea : Nat) : Int64 := cj_ll co hz (cj_cd ed ea rn) (cj_or hz (cj_cd ed ea rn)) 0 9223372036854775807
def f_leastC (E rn : Nat) (ed co : Nat → Nat) (hz : Nat → Int64) (x : Int32) : Int32 := match cj_ix x E with
  | none => -1
  | some ea => (cj_best ed co hz rn ea >>> ((nI 18).toInt64 &&& 63)).toInt32
def c_leastC (E rn : Nat) (ed co : Nat → Nat) (hz : Nat → Int64) (ch x : Int32) : Int32 := match cj_ix x E with
  | none => ch
  | some ea => (cj_best ed co hz rn ea &&& 16383).toInt32
set_option maxRecDepth 100000 in
set_option maxHeartbeats 4000000 in
theorem c_C_lightest (l : Launch) (D : va_G) (kd : Nat → ClassId) (ad : Nat → Nat) {E : Nat} {n : Nat → Nat} {cl : Nat → Bool} {con : Nat → Nat → Int32} {ow : Nat → Nat → Int64} {rn : Nat} {ed : Nat → Nat} {co : Nat → Nat} {hz : Nat → Int64} {mp : Nat → Nat → Nat} {pr : Nat → Int32} {cn : Nat} {hs : Nat → Int64} {wg : Nat → Int64} {rs : Nat → Int64} {ch : Int32} (L : List Nat) (hL : L.length ≤ 14) (hcn : cn = L.length) (hG : cj_G L co hz hs wg) (hA : cj_Rr L hz rs 0) : ∀ (M : List Nat) (nx : Nat) (ms wt bs : Int64), nx ≤ L.length → L.drop nx = M → cj_Ml (S := Unit) l yC_lightest cC_lightest 10 (some .long) M.length D kd [.ref (ad 10), .int (nI nx), .long ms, .long wt, .long bs] (wC kd ad E n cl con ow rn ed co hz mp pr cn hs wg rs ch) (fun r _ => r = cj_ll co hz M ms wt bs) (fun _ => wC kd ad E n cl con ow rn ed co hz mp pr cn hs wg rs ch) := by
  intro M
  induction M with
  | nil =>
    intro nx ms wt bs hnx hdr
    have hlen : L.length ≤ nx := List.drop_eq_nil_iff.mp hdr
    refine cj_ofl (by decide) (Nat.le_of_ble_eq_true rfl) ?_
    intro p e s m below meth c A ls X hr V hl
    obtain ⟨⟨hx, hb, hml, hown, hts⟩, hK, hlk⟩ := id X
    have hl : lv_has ls 10 [(0, .ref (ad 10)), (1, .int (nI nx)), (2, .long ms), (4, .long wt), (6, .long bs)] := hl
    refine lv_lload hx hb dC_lightest_0 (lv_at hl 3 rfl) ?_
    refine lv_lload hx hb dC_lightest_2 (lv_at hl 4 rfl) ?_
    refine cj_l_lt (tgt := 11) hx hb dC_lightest_4 dC_lightest_5 (by decide) (fun c_1 => ?_) (fun c_1 => ?_)
    ·
      refine lv_lload_n hx hb dC_lightest_11 rfl (lv_at hl 2 rfl) ?_
      refine lv_lconst (v := 0) hx hb dC_lightest_12 (by decide) ?_
      refine cj_l_ne (tgt := 20) hx hb dC_lightest_13 dC_lightest_14 (by decide) (fun c_2 => ?_) (fun c_2 => ?_)
      ·
        refine lv_iload_n hx hb dC_lightest_20 rfl (lv_at hl 1 rfl) ?_
        refine lv_aload_n hx hb dC_lightest_21 rfl (lv_at hl 0 rfl) ?_
        refine gD 0 X V fl_C_157 (by decide) rfl dC_lightest_22 ?_
        refine cj_n_ge (tgt := 45) hx hb dC_lightest_25 (by decide) (by omega) (by omega) (fun c_3 => ?_) (fun c_3 => ?_)
        ·
          refine lv_lload hx hb dC_lightest_45 (lv_at hl 4 rfl) ?_
          exact cj_retl () X hr V (by rw [cj_ll_nil, if_pos c_1, if_neg c_2]) dC_lightest_47
        ·
          exact absurd c_3 (by omega)
      ·
        refine lv_lload hx hb dC_lightest_17 (lv_at hl 3 rfl) ?_
        exact cj_retl () X hr V (by rw [cj_ll_nil, if_pos c_1, if_pos c_2]) dC_lightest_19
    ·
      refine lv_lload hx hb dC_lightest_8 (lv_at hl 4 rfl) ?_
      exact cj_retl () X hr V (by rw [cj_ll_nil, if_neg c_1]) dC_lightest_10
  | cons r M ih =>
    intro nx ms wt bs hnx hdr
    have hlt : nx < L.length := by
      rcases Nat.lt_or_ge nx L.length with h | h
      · exact h
      · rw [List.drop_eq_nil_iff.mpr h] at hdr
        cases hdr
    have hdc := List.drop_eq_getElem_cons hlt
    rw [hdr] at hdc
    injection hdc with hr0 hdr1
    have hdr2 : L.drop (nx + 1) = M := hdr1.symm
    have hgr := hG nx r (by rw [hr0]; exact List.getElem?_eq_getElem hlt)
    have hrs : rs nx = cj_or hz (r :: M) := by rw [hA nx (Nat.zero_le _) hnx, hdr]
    refine cj_ofl (by decide) (Nat.le_of_ble_eq_true rfl) ?_
    intro p e s m below meth c A ls X hr V hl
    obtain ⟨⟨hx, hb, hml, hown, hts⟩, hK, hlk⟩ := id X
    have hl : lv_has ls 10 [(0, .ref (ad 10)), (1, .int (nI nx)), (2, .long ms), (4, .long wt), (6, .long bs)] := hl
    refine lv_lload hx hb dC_lightest_0 (lv_at hl 3 rfl) ?_
    refine lv_lload hx hb dC_lightest_2 (lv_at hl 4 rfl) ?_
    refine cj_l_lt (tgt := 11) hx hb dC_lightest_4 dC_lightest_5 (by decide) (fun c_1 => ?_) (fun c_1 => ?_)
    ·
      refine lv_lload_n hx hb dC_lightest_11 rfl (lv_at hl 2 rfl) ?_
      refine lv_lconst (v := 0) hx hb dC_lightest_12 (by decide) ?_
      refine cj_l_ne (tgt := 20) hx hb dC_lightest_13 dC_lightest_14 (by decide) (fun c_2 => ?_) (fun c_2 => ?_)
      ·
        refine lv_iload_n hx hb dC_lightest_20 rfl (lv_at hl 1 rfl) ?_
        refine lv_aload_n hx hb dC_lightest_21 rfl (lv_at hl 0 rfl) ?_
        refine gD 0 X V fl_C_157 (by decide) rfl dC_lightest_22 ?_
        refine cj_n_ge (tgt := 45) hx hb dC_lightest_25 (by decide) (by omega) (by omega) (fun c_3 => ?_) (fun c_3 => ?_)
        ·
          exact absurd c_3 (by omega)
        ·
          refine lv_lload_n hx hb dC_lightest_28 rfl (lv_at hl 2 rfl) ?_
          refine lv_aload_n hx hb dC_lightest_29 rfl (lv_at hl 0 rfl) ?_
          refine gD 3 X V fl_C_124 (by decide) rfl dC_lightest_30 ?_
          refine lv_iload_n hx hb dC_lightest_33 rfl (lv_at hl 1 rfl) ?_
          refine rC_rs X V (by omega) dC_lightest_34 ?_
          refine cj_tl hrs ?_
          refine lv_ldc2 hx hb hown (hts _ kl_C_112) dC_lightest_35 ?_
          refine lv_lxor hx hb dC_lightest_38 ?_
          refine lv_land hx hb dC_lightest_39 ?_
          refine lv_lconst (v := 0) hx hb dC_lightest_40 (by decide) ?_
          refine cj_l_eq (tgt := 48) hx hb dC_lightest_41 dC_lightest_42 (by decide) (fun c_4 => ?_) (fun c_4 => ?_)
          ·
            refine lv_lload hx hb dC_lightest_48 (lv_at hl 4 rfl) ?_
            refine lv_lstore (lv' := [(8, .long bs), (0, .ref (ad 10)), (1, .int (nI nx)), (2, .long ms), (4, .long wt), (6, .long bs)]) hx hb dC_lightest_50 hl (by decide) rfl (fun ls hl => ?_)
            refine lv_lload_n hx hb dC_lightest_52 rfl (lv_at hl 3 rfl) ?_
            refine lv_aload_n hx hb dC_lightest_53 rfl (lv_at hl 1 rfl) ?_
            refine gD 1 X V fl_C_148 (by decide) rfl dC_lightest_54 ?_
            refine lv_iload_n hx hb dC_lightest_57 rfl (lv_at hl 2 rfl) ?_
            refine rC_hs X V (by omega) dC_lightest_58 ?_
            refine cj_tl hgr.1 ?_
            refine lv_land hx hb dC_lightest_59 ?_
            refine lv_lconst (v := 0) hx hb dC_lightest_60 (by decide) ?_
            refine cj_l_eq (tgt := 97) hx hb dC_lightest_61 dC_lightest_62 (by decide) (fun c_5 => ?_) (fun c_5 => ?_)
            ·
              refine lv_aload_n hx hb dC_lightest_97 rfl (lv_at hl 1 rfl) ?_
              refine lv_iload_n hx hb dC_lightest_98 rfl (lv_at hl 2 rfl) ?_
              refine lv_iconst (v := nI 1) hx hb dC_lightest_99 (by decide) ?_
              refine cj_iaddN hx hb dC_lightest_100 ?_
              refine lv_lload_n hx hb dC_lightest_101 rfl (lv_at hl 3 rfl) ?_
              refine lv_lload hx hb dC_lightest_102 (lv_at hl 4 rfl) ?_
              refine lv_lload hx hb dC_lightest_104 (lv_at hl 0 rfl) ?_
              refine cj_csl X V (ih (nx + 1) ms wt bs (by omega) hdr2) ml_C_129 st_C_lightest in_C cd_C_lightest hd_C_lightest ⟨Nat.le_refl _, by show 8 + (10 + 11) + 40 * M.length ≤ 40 * (M.length + 1); omega⟩ ⟨Nat.le_refl _, Nat.le_refl _⟩ hl.1 rfl (Nat.le_of_ble_eq_true rfl) dC_lightest_106 (fun r_9 u_9 H locs hw V => ?_)
              obtain rfl := hw
              exact cj_retl () X hr V (by rw [cj_ll_cons, if_pos c_1, if_neg c_2, if_pos c_4, if_pos c_5]) dC_lightest_109
            ·
              refine lv_aload_n hx hb dC_lightest_65 rfl (lv_at hl 1 rfl) ?_
              refine lv_iload_n hx hb dC_lightest_66 rfl (lv_at hl 2 rfl) ?_
              refine lv_iconst (v := nI 1) hx hb dC_lightest_67 (by decide) ?_
              refine cj_iaddN hx hb dC_lightest_68 ?_
              refine lv_lload_n hx hb dC_lightest_69 rfl (lv_at hl 3 rfl) ?_
              refine lv_aload_n hx hb dC_lightest_70 rfl (lv_at hl 1 rfl) ?_
              refine gD 1 X V fl_C_148 (by decide) rfl dC_lightest_71 ?_
              refine lv_iload_n hx hb dC_lightest_74 rfl (lv_at hl 2 rfl) ?_
              refine rC_hs X V (by omega) dC_lightest_75 ?_
              refine cj_tl hgr.1 ?_
              refine lv_ldc2 hx hb hown (hts _ kl_C_112) dC_lightest_76 ?_
              refine lv_lxor hx hb dC_lightest_79 ?_
              refine lv_land hx hb dC_lightest_80 ?_
              refine lv_lload hx hb dC_lightest_81 (lv_at hl 4 rfl) ?_
              refine lv_aload_n hx hb dC_lightest_83 rfl (lv_at hl 1 rfl) ?_
              refine gD 2 X V fl_C_151 (by decide) rfl dC_lightest_84 ?_
              refine lv_iload_n hx hb dC_lightest_87 rfl (lv_at hl 2 rfl) ?_
              refine rC_wg X V (by omega) dC_lightest_88 ?_
              refine cj_tl hgr.2 ?_
              refine lv_ladd hx hb dC_lightest_89 ?_
              refine lv_lload hx hb dC_lightest_90 (lv_at hl 0 rfl) ?_
              refine cj_csl X V (ih (nx + 1) (ms &&& ((hz r) ^^^ (-1))) (wt + (lN (cj_wt co r))) bs (by omega) hdr2) ml_C_129 st_C_lightest in_C cd_C_lightest hd_C_lightest ⟨Nat.le_refl _, by show 8 + (10 + 11) + 40 * M.length ≤ 40 * (M.length + 1); omega⟩ ⟨Nat.le_refl _, Nat.le_refl _⟩ hl.1 rfl (Nat.le_of_ble_eq_true rfl) dC_lightest_92 (fun r_9 u_9 H locs hw V => ?_)
              obtain rfl := hw
              refine lv_lstore (lv' := [(8, .long (cj_ll co hz M (ms &&& ((hz r) ^^^ (-1))) (wt + (lN (cj_wt co r))) bs)), (0, .ref (ad 10)), (1, .int (nI nx)), (2, .long ms), (4, .long wt), (6, .long bs)]) hx hb dC_lightest_95 hl (by decide) rfl (fun ls hl => ?_)
              refine lv_aload_n hx hb dC_lightest_97 rfl (lv_at hl 1 rfl) ?_
              refine lv_iload_n hx hb dC_lightest_98 rfl (lv_at hl 2 rfl) ?_
              refine lv_iconst (v := nI 1) hx hb dC_lightest_99 (by decide) ?_
              refine cj_iaddN hx hb dC_lightest_100 ?_
              refine lv_lload_n hx hb dC_lightest_101 rfl (lv_at hl 3 rfl) ?_
              refine lv_lload hx hb dC_lightest_102 (lv_at hl 4 rfl) ?_
              refine lv_lload hx hb dC_lightest_104 (lv_at hl 0 rfl) ?_
              refine cj_csl X V (ih (nx + 1) ms wt (cj_ll co hz M (ms &&& ((hz r) ^^^ (-1))) (wt + (lN (cj_wt co r))) bs) (by omega) hdr2) ml_C_129 st_C_lightest in_C cd_C_lightest hd_C_lightest ⟨Nat.le_refl _, by show 8 + (10 + 11) + 40 * M.length ≤ 40 * (M.length + 1); omega⟩ ⟨Nat.le_refl _, Nat.le_refl _⟩ hl.1 rfl (Nat.le_of_ble_eq_true rfl) dC_lightest_106 (fun r_9 u_9 H locs hw V => ?_)
              obtain rfl := hw
              exact cj_retl () X hr V (by rw [cj_ll_cons, if_pos c_1, if_neg c_2, if_pos c_4, if_neg c_5]) dC_lightest_109
          ·
            refine lv_lload hx hb dC_lightest_45 (lv_at hl 4 rfl) ?_
            exact cj_retl () X hr V (by rw [cj_ll_cons, if_pos c_1, if_neg c_2, if_neg c_4]) dC_lightest_47
      ·
        refine lv_lload hx hb dC_lightest_17 (lv_at hl 3 rfl) ?_
        exact cj_retl () X hr V (by rw [cj_ll_cons, if_pos c_1, if_pos c_2]) dC_lightest_19
    ·
      refine lv_lload hx hb dC_lightest_8 (lv_at hl 4 rfl) ?_
      exact cj_retl () X hr V (by rw [cj_ll_cons, if_neg c_1]) dC_lightest_10
set_option maxRecDepth 100000 in
set_option maxHeartbeats 4000000 in
theorem c_C_least (l : Launch) (D : va_G) (kd : Nat → ClassId) (ad : Nat → Nat) {E : Nat} {n : Nat → Nat} {cl : Nat → Bool} {con : Nat → Nat → Int32} {ow : Nat → Nat → Int64} {rn : Nat} {ed : Nat → Nat} {co : Nat → Nat} {hz : Nat → Int64} {mp : Nat → Nat → Nat} {pr : Nat → Int32} {cn : Nat} {hs : Nat → Int64} {wg : Nat → Int64} {rs : Nat → Int64} {ch : Int32} (hE : E ≤ 8) (hn : ∀ i, n i ≤ 40) (hR : rn ≤ 14) (hed : ∀ r, r < rn → ed r < E) (hco : ∀ r, co r ≤ 100000) (x : Int32) : cj_Mi (S := Int32 × Nat × (Nat → Int64) × (Nat → Int64) × (Nat → Int64)) l yC_least cC_least 4 (some .int) 20 D kd [.ref (ad 0), .int x] (wC kd ad E n cl con ow rn ed co hz mp pr cn hs wg rs ch) (fun r u => r = f_leastC E rn ed co hz x ∧ u.1 = c_leastC E rn ed co hz ch x) (fun u => wC kd ad E n cl con ow rn ed co hz mp pr u.2.1 u.2.2.1 u.2.2.2.1 u.2.2.2.2 u.1) := by
  refine cj_ofi (by decide) (Nat.le_of_ble_eq_true rfl) ?_
  intro p e s m below meth c A ls X hr V hl
  obtain ⟨⟨hx, hb, hml, hown, hts⟩, hK, hlk⟩ := id X
  have hl : lv_has ls 4 [(0, .ref (ad 0)), (1, .int x)] := hl
  refine lv_aload_n hx hb dC_least_0 rfl (lv_at hl 0 rfl) ?_
  refine lv_iload_n hx hb dC_least_1 rfl (lv_at hl 1 rfl) ?_
  refine cj_cvi X V (c_C_isEdition l D kd ad hE x) 0 1 rfl rfl rfl ml_C_60 im_C_isEdition se_C_isEdition in_C cd_C_isEdition hd_C_isEdition ⟨by decide, by decide⟩ ⟨Nat.le_refl _, Nat.le_refl _⟩ hl.1 rfl (Nat.le_of_ble_eq_true rfl) dC_least_2 (fun r_9 u_9 H locs hw V => ?_)
  rcases hw with ⟨rfl, j_1, hj_1, rfl⟩ | ⟨rfl, hj_1⟩
  ·
    have ij_1 := cj_ix_t hj_1 (show E < 2 ^ 31 by omega)
    refine lv_if_ne (tgt := 10) hx hb dC_least_5 (by decide) (fun _ => ?_) (fun h => absurd h (by decide))
    refine lv_aload_n hx hb dC_least_10 rfl (lv_at hl 0 rfl) ?_
    refine lv_iload_n hx hb dC_least_11 rfl (lv_at hl 1 rfl) ?_
    refine cj_cvv X V (c_C_gather l D kd ad hR hco (fun r h => by have := hed r h; omega) j_1 (by omega)) 0 1 rfl rfl rfl ml_C_120 im_C_gatherCandidates se_C_gatherCandidates in_C cd_C_gatherCandidates hd_C_gatherCandidates ⟨by decide, by decide⟩ ⟨Nat.le_refl _, Nat.le_refl _⟩ hl.1 rfl (Nat.le_of_ble_eq_true rfl) dC_least_12 (fun ug H locs hw V => ?_)
    obtain ⟨hc1, hg1, ha1⟩ := hw
    have hcl := cj_cd_len (ed := ed) (ea := j_1) rn
    refine lv_aload_n hx hb dC_least_15 rfl (lv_at hl 0 rfl) ?_
    refine gC 11 X V fl_C_53 (by decide) rfl dC_least_16 ?_
    refine lv_iconst (v := nI 0) hx hb dC_least_19 (by decide) ?_
    refine lv_aload_n hx hb dC_least_20 rfl (lv_at hl 0 rfl) ?_
    refine gC 11 X V fl_C_53 (by decide) rfl dC_least_21 ?_
    refine gD 3 X V fl_C_124 (by decide) rfl dC_least_24 ?_
    refine lv_iconst (v := nI 0) hx hb dC_least_27 (by decide) ?_
    refine rC_rs X V (by omega) dC_least_28 ?_
    refine cj_tl (ha1 0 (Nat.le_refl _) (Nat.zero_le _)) ?_
    rw [List.drop_zero]
    refine lv_lconst (v := 0) hx hb dC_least_29 (by decide) ?_
    refine lv_ldc2 hx hb hown (hts _ kl_C_127) dC_least_30 ?_
    refine cj_csl X V (c_C_lightest l D kd ad (cj_cd ed j_1 rn) (by omega) hc1 hg1 ha1 (cj_cd ed j_1 rn) 0 (cj_or hz (cj_cd ed j_1 rn)) 0 (9223372036854775807) (Nat.zero_le _) rfl) ml_C_129 st_C_lightest in_C cd_C_lightest hd_C_lightest ⟨by show (cj_cd ed j_1 rn).length + 1 ≤ 20; omega, by show 8 + (10 + 11) + 40 * (cj_cd ed j_1 rn).length ≤ 40 * 20; omega⟩ ⟨Nat.le_refl _, Nat.le_refl _⟩ hl.1 rfl (Nat.le_of_ble_eq_true rfl) dC_least_33 (fun r_9 u_9 H locs hw V => ?_)
    obtain rfl := hw
    refine lv_lstore_n (lv' := [(2, .long (cj_best ed co hz rn j_1)), (0, .ref (ad 0)), (1, .int (nI j_1))]) hx hb dC_least_36 rfl hl (by decide) rfl (fun ls hl => ?_)
    refine lv_aload_n hx hb dC_least_37 rfl (lv_at hl 1 rfl) ?_
    refine lv_lload_n hx hb dC_least_38 rfl (lv_at hl 0 rfl) ?_
    refine lv_ldc2 hx hb hown (hts _ kl_C_133) dC_least_39 ?_
    refine lv_land hx hb dC_least_42 ?_
    refine lv_l2i hx hb dC_least_43 rfl ?_
    refine pC_ch X V fl_C_57 dC_least_44 (fun H locs V => ?_)
    refine lv_lload_n hx hb dC_least_47 rfl (lv_at hl 0 rfl) ?_
    refine lv_bipush (v := nI 18) hx hb dC_least_48 (by decide) ?_
    refine lv_lshr hx hb dC_least_50 rfl ?_
    refine lv_l2i hx hb dC_least_51 rfl ?_
    exact cj_reti (((cj_best ed co hz rn j_1) &&& (16383)).toInt32, ug.1, ug.2.1, ug.2.2.1, ug.2.2.2) X hr V (by refine ⟨?_, ?_⟩; · { simp only [f_leastC, ij_1] }; · { simp only [c_leastC, ij_1] }) dC_least_52
  ·
    have ij_1 := cj_ix_f hj_1
    refine lv_if_ne (tgt := 10) hx hb dC_least_5 (by decide) (fun h => absurd (by decide) h) (fun _ => ?_)
    refine lv_iconst (v := (-1)) hx hb dC_least_8 (by decide) ?_
    exact cj_reti (ch, cn, hs, wg, rs) X hr V (by refine ⟨?_, ?_⟩; · { simp only [f_leastC, ij_1] }; · { simp only [c_leastC, ij_1] }) dC_least_9
end
section
-- THE REFERENCE: what its own arrays become
def m_con (n : Nat → Nat) (con : Nat → Int32) (y : Int32) (o : Option (Nat × Nat)) : Nat → Int32 := match o with
  | none => con
  | some (e, _) => va_up con (40 * e + n e) y
def m_ow (n : Nat → Nat) (ow : Nat → Nat) (o : Option (Nat × Nat)) : Nat → Nat := match o with
  | none => ow
  | some (e, o) => va_up ow (40 * e + n e) o
def m_ge (n : Nat → Nat) (ge : Nat → Bool) (g : Bool) (o : Option (Nat × Nat)) : Nat → Bool := match o with
  | none => ge
  | some (e, _) => va_up ge (40 * e + n e) g
theorem o_run_full {E rn : Nat} {x y : Int32} (h : ¬ rn < 14) : o_run E rn x y = none := by
  unfold o_run o_room
  cases cj_ix x E with
  | none => rfl
  | some e =>
    cases cj_ix y 100001 with
    | none => rfl
    | some c => exact if_neg h
theorem cj_sar_bit {x : Int64} {i : Nat} (hi : i < 64) : cj_tb (x >>> ((nI i).toInt64 &&& 63)) 0 = cj_tb x i := by
  unfold cj_tb
  rw [wb_c i hi, Int64.toBitVec_shiftRight, wb_tb, wb_sm i hi, BitVec.sshiftRight_eq', BitVec.toNat_ofNat, Nat.mod_eq_of_lt (by omega), BitVec.getLsbD_sshiftRight]
  simp [hi]
theorem cj_and1 (z : Int64) : (z &&& lN 1 = lN 1) ↔ cj_tb z 0 = true := by
  have hb : ∀ k, k < 64 → (lN 1).toBitVec.getLsbD k = decide (k = 0) := by
    intro k hk
    have := cj_tb_lN 1 k
    unfold cj_tb at this
    rw [this]
    cases k with
    | zero => simp
    | succ k => simp [Nat.testBit_succ]
  constructor
  · intro h
    have h1 := congrArg (fun q : Int64 => q.toBitVec.getLsbD 0) h
    rw [Int64.toBitVec_and, BitVec.getLsbD_and, hb 0 (by decide)] at h1
    simpa [cj_tb] using h1
  · intro h
    apply wb_inj
    apply BitVec.eq_of_getLsbD_eq
    intro k hk
    rw [Int64.toBitVec_and, BitVec.getLsbD_and, hb k hk]
    by_cases e : k = 0
    · subst e
      unfold cj_tb at h
      rw [h]
      rfl
    · simp [e]
theorem cj_sar_t {x : Int64} {i : Nat} (hi : i < 64) (h : (x >>> ((nI i).toInt64 &&& 63)) &&& lN 1 = lN 1) : cj_tb x i = true := by
  rw [← cj_sar_bit hi]
  exact (cj_and1 _).mp h
theorem cj_sar_f {x : Int64} {i : Nat} (hi : i < 64) (h : ¬ (x >>> ((nI i).toInt64 &&& 63)) &&& lN 1 = lN 1) : cj_tb x i = false := by
  cases hc : cj_tb x i with
  | false => rfl
  | true => exact absurd ((cj_and1 _).mpr (by rw [cj_sar_bit hi]; exact hc)) h
end
section
set_option maxRecDepth 100000 in
set_option maxHeartbeats 4000000 in
theorem c_M_in (l : Launch) (D : va_G) (kd : Nat → ClassId) (ad : Nat → Nat) {E : Nat} {rn : Nat} {ch : Int32} {n : Nat → Nat} {con : Nat → Int32} {ow : Nat → Nat} {ge : Nat → Bool} {cl : Nat → Bool} {ed : Nat → Nat} {co : Nat → Nat} {hz : Nat → Int64} {lo : Nat → Nat} {pr : Nat → Int32} (x : Int32) (k : Nat) (hk : k < 2 ^ 31) : cj_Mi (S := Unit) l yM_in cM_in 2 (some .boolean) 0 D kd [.int x, .int (nI k)] (wM kd ad E rn ch n con ow ge cl ed co hz lo pr) (fun r _ => (r = nI 1 ∧ cj_in x k) ∨ (r = nI 0 ∧ ¬ cj_in x k)) (fun _ => wM kd ad E rn ch n con ow ge cl ed co hz lo pr) := by
  refine cj_ofi (by decide) (Nat.le_of_ble_eq_true rfl) ?_
  intro p e s m below meth c A ls X hr V hl
  obtain ⟨⟨hx, hb, hml, hown, hts⟩, hK, hlk⟩ := id X
  have hl : lv_has ls 2 [(0, .int x), (1, .int (nI k))] := hl
  refine lv_iload_n hx hb dM_in_0 rfl (lv_at hl 0 rfl) ?_
  refine lv_if_lt (tgt := 13) hx hb dM_in_1 (by decide) (fun c_1 => ?_) (fun c_1 => ?_)
  ·
    refine lv_iconst (v := nI 0) hx hb dM_in_13 (by decide) ?_
    exact cj_retz () X hr V (by decide) (by first | exact Or.inl ⟨rfl, cj_ixt ‹_› ‹_› (by omega)⟩ | exact Or.inr ⟨rfl, cj_ixf0 ‹_› (by omega)⟩ | exact Or.inr ⟨rfl, cj_ixf1 ‹_› (by omega)⟩) dM_in_14
  ·
    refine lv_iload_n hx hb dM_in_4 rfl (lv_at hl 0 rfl) ?_
    refine lv_iload_n hx hb dM_in_5 rfl (lv_at hl 1 rfl) ?_
    refine lv_icmp_ge (tgt := 13) hx hb dM_in_6 (by decide) (fun c_2 => ?_) (fun c_2 => ?_)
    ·
      refine lv_iconst (v := nI 0) hx hb dM_in_13 (by decide) ?_
      exact cj_retz () X hr V (by decide) (by first | exact Or.inl ⟨rfl, cj_ixt ‹_› ‹_› (by omega)⟩ | exact Or.inr ⟨rfl, cj_ixf0 ‹_› (by omega)⟩ | exact Or.inr ⟨rfl, cj_ixf1 ‹_› (by omega)⟩) dM_in_14
    ·
      refine lv_iconst (v := nI 1) hx hb dM_in_9 (by decide) ?_
      refine lv_goto (tgt := 14) hx hb dM_in_10 (by decide) ?_
      exact cj_retz () X hr V (by decide) (by first | exact Or.inl ⟨rfl, cj_ixt ‹_› ‹_› (by omega)⟩ | exact Or.inr ⟨rfl, cj_ixf0 ‹_› (by omega)⟩ | exact Or.inr ⟨rfl, cj_ixf1 ‹_› (by omega)⟩) dM_in_14
set_option maxRecDepth 100000 in
set_option maxHeartbeats 4000000 in
theorem c_M_edition (l : Launch) (D : va_G) (kd : Nat → ClassId) (ad : Nat → Nat) {E : Nat} {rn : Nat} {ch : Int32} {n : Nat → Nat} {con : Nat → Int32} {ow : Nat → Nat} {ge : Nat → Bool} {cl : Nat → Bool} {ed : Nat → Nat} {co : Nat → Nat} {hz : Nat → Int64} {lo : Nat → Nat} {pr : Nat → Int32} (hE : E ≤ 8) : cj_Mi (S := Nat) l yM_edition cM_edition 1 (some .int) 0 D kd [.ref (ad 0)] (wM kd ad E rn ch n con ow ge cl ed co hz lo pr) (fun r E' => r = f_edition E ∧ E' = e_E E) (fun E' => wM kd ad E' rn ch n con ow ge cl ed co hz lo pr) := by
  refine cj_ofi (by decide) (Nat.le_of_ble_eq_true rfl) ?_
  intro p e s m below meth c A ls X hr V hl
  obtain ⟨⟨hx, hb, hml, hown, hts⟩, hK, hlk⟩ := id X
  have hl : lv_has ls 1 [(0, .ref (ad 0))] := hl
  refine lv_aload_n hx hb dM_edition_0 rfl (lv_at hl 0 rfl) ?_
  refine gM 0 X V fl_M_42 (by decide) rfl dM_edition_1 ?_
  refine lv_bipush (v := nI 8) hx hb dM_edition_4 (by decide) ?_
  refine cj_n_ne (tgt := 11) hx hb dM_edition_6 (by decide) (by omega) (by omega) (fun c_1 => ?_) (fun c_1 => ?_)
  ·
    refine lv_aload_n hx hb dM_edition_11 rfl (lv_at hl 0 rfl) ?_
    refine lv_dup hx hb dM_edition_12 rfl ?_
    refine gM 0 X V fl_M_42 (by decide) rfl dM_edition_13 ?_
    refine lv_iconst (v := nI 1) hx hb dM_edition_16 (by decide) ?_
    refine cj_iaddN hx hb dM_edition_17 ?_
    refine pM_E X V fl_M_42 dM_edition_18 (fun H locs V => ?_)
    refine lv_aload_n hx hb dM_edition_21 rfl (lv_at hl 0 rfl) ?_
    refine gM 0 X V fl_M_42 (by decide) rfl dM_edition_22 ?_
    refine lv_iconst (v := nI 1) hx hb dM_edition_25 (by decide) ?_
    refine cj_isubN hx hb (by omega) dM_edition_26 ?_
    exact cj_reti (E + 1) X hr V (by unfold f_edition e_E; first | (rw [if_pos (by omega), if_pos (by omega)]; exact ⟨by congr 1, rfl⟩) | (rw [if_neg (by omega), if_neg (by omega)]; exact ⟨rfl, rfl⟩)) dM_edition_27
  ·
    refine lv_iconst (v := (-1)) hx hb dM_edition_9 (by decide) ?_
    exact cj_reti E X hr V (by unfold f_edition e_E; first | (rw [if_pos (by omega), if_pos (by omega)]; exact ⟨by congr 1, rfl⟩) | (rw [if_neg (by omega), if_neg (by omega)]; exact ⟨rfl, rfl⟩)) dM_edition_10
set_option maxRecDepth 100000 in
set_option maxHeartbeats 4000000 in
theorem c_M_lines (l : Launch) (D : va_G) (kd : Nat → ClassId) (ad : Nat → Nat) {E : Nat} {rn : Nat} {ch : Int32} {n : Nat → Nat} {con : Nat → Int32} {ow : Nat → Nat} {ge : Nat → Bool} {cl : Nat → Bool} {ed : Nat → Nat} {co : Nat → Nat} {hz : Nat → Int64} {lo : Nat → Nat} {pr : Nat → Int32} (hE : E ≤ 8) (hn : ∀ i, n i ≤ 40) (hR : rn ≤ 14) (hed : ∀ r, r < rn → ed r < E) (hco : ∀ r, co r ≤ 100000) (x : Int32) : cj_Mi (S := Unit) l yM_lines cM_lines 2 (some .int) 1 D kd [.ref (ad 0), .int x] (wM kd ad E rn ch n con ow ge cl ed co hz lo pr) (fun r _ => r = f_lines E n x) (fun _ => wM kd ad E rn ch n con ow ge cl ed co hz lo pr) := by
  refine cj_ofi (by decide) (Nat.le_of_ble_eq_true rfl) ?_
  intro p e s m below meth c A ls X hr V hl
  obtain ⟨⟨hx, hb, hml, hown, hts⟩, hK, hlk⟩ := id X
  have hl : lv_has ls 2 [(0, .ref (ad 0)), (1, .int x)] := hl
  refine lv_iload_n hx hb dM_lines_0 rfl (lv_at hl 1 rfl) ?_
  refine lv_aload_n hx hb dM_lines_1 rfl (lv_at hl 0 rfl) ?_
  refine gM 0 X V fl_M_42 (by decide) rfl dM_lines_2 ?_
  refine cj_csi X V (c_M_in l D kd ad x E (by omega)) ml_M_46 st_M_in in_M cd_M_in hd_M_in ⟨by decide, by decide⟩ ⟨Nat.le_refl _, Nat.le_refl _⟩ hl.1 rfl (Nat.le_of_ble_eq_true rfl) dM_lines_5 (fun r_9 u_9 H locs hw V => ?_)
  rcases hw with ⟨rfl, j_1, hj_1, rfl⟩ | ⟨rfl, hj_1⟩
  ·
    have ij_1 := cj_ix_t hj_1 (show E < 2 ^ 31 by omega)
    refine lv_if_eq (tgt := 20) hx hb dM_lines_8 (by decide) (fun h => absurd h (by decide)) (fun _ => ?_)
    refine lv_aload_n hx hb dM_lines_11 rfl (lv_at hl 0 rfl) ?_
    refine gM 3 X V fl_M_7 (by decide) rfl dM_lines_12 ?_
    refine lv_iload_n hx hb dM_lines_15 rfl (lv_at hl 1 rfl) ?_
    refine rM_n X V (by omega) dM_lines_16 ?_
    have f_e_3 := hn j_1
    refine lv_goto (tgt := 21) hx hb dM_lines_17 (by decide) ?_
    exact cj_reti () X hr V (by simp only [f_lines, ij_1]) dM_lines_21
  ·
    have ij_1 := cj_ix_f hj_1
    refine lv_if_eq (tgt := 20) hx hb dM_lines_8 (by decide) (fun _ => ?_) (fun h => absurd (by decide) h)
    refine lv_iconst (v := (-1)) hx hb dM_lines_20 (by decide) ?_
    exact cj_reti () X hr V (by simp only [f_lines, ij_1]) dM_lines_21
set_option maxRecDepth 100000 in
set_option maxHeartbeats 4000000 in
theorem c_M_chosen (l : Launch) (D : va_G) (kd : Nat → ClassId) (ad : Nat → Nat) {E : Nat} {rn : Nat} {ch : Int32} {n : Nat → Nat} {con : Nat → Int32} {ow : Nat → Nat} {ge : Nat → Bool} {cl : Nat → Bool} {ed : Nat → Nat} {co : Nat → Nat} {hz : Nat → Int64} {lo : Nat → Nat} {pr : Nat → Int32}  : cj_Mi (S := Unit) l yM_chosen cM_chosen 1 (some .int) 0 D kd [.ref (ad 0)] (wM kd ad E rn ch n con ow ge cl ed co hz lo pr) (fun r _ => r = ch) (fun _ => wM kd ad E rn ch n con ow ge cl ed co hz lo pr) := by
  refine cj_ofi (by decide) (Nat.le_of_ble_eq_true rfl) ?_
  intro p e s m below meth c A ls X hr V hl
  obtain ⟨⟨hx, hb, hml, hown, hts⟩, hK, hlk⟩ := id X
  have hl : lv_has ls 1 [(0, .ref (ad 0))] := hl
  refine lv_aload_n hx hb dM_chosen_0 rfl (lv_at hl 0 rfl) ?_
  refine gM 2 X V fl_M_82 (by decide) rfl dM_chosen_1 ?_
  exact cj_reti () X hr V rfl dM_chosen_4
set_option maxRecDepth 100000 in
set_option maxHeartbeats 4000000 in
theorem c_M_newRun (l : Launch) (D : va_G) (kd : Nat → ClassId) (ad : Nat → Nat) {E : Nat} {rn : Nat} {ch : Int32} {n : Nat → Nat} {con : Nat → Int32} {ow : Nat → Nat} {ge : Nat → Bool} {cl : Nat → Bool} {ed : Nat → Nat} {co : Nat → Nat} {hz : Nat → Int64} {lo : Nat → Nat} {pr : Nat → Int32} (ea ca : Nat) (h : Int64) (hr14 : rn < 14) (he : ea < 8) : cj_Mi (S := Nat × (Nat → Nat) × (Nat → Nat) × (Nat → Int64) × (Nat → Bool)) l yM_newRun cM_newRun 5 (some .int) 0 D kd [.ref (ad 0), .int (nI ea), .int (nI ca), .long h] (wM kd ad E rn ch n con ow ge cl ed co hz lo pr) (fun r u => r = nI rn ∧ u = (rn + 1, va_up ed rn ea, va_up co rn ca, va_up hz rn h, va_up cl ea true)) (fun u => wM kd ad E u.1 ch n con ow ge u.2.2.2.2 u.2.1 u.2.2.1 u.2.2.2.1 lo pr) := by
  refine cj_ofi (by decide) (Nat.le_of_ble_eq_true rfl) ?_
  intro p e s m below meth c A ls X hr V hl
  obtain ⟨⟨hx, hb, hml, hown, hts⟩, hK, hlk⟩ := id X
  have hl : lv_has ls 5 [(0, .ref (ad 0)), (1, .int (nI ea)), (2, .int (nI ca)), (3, .long h)] := hl
  refine lv_aload_n hx hb dM_newRun_0 rfl (lv_at hl 0 rfl) ?_
  refine gM 8 X V fl_M_26 (by decide) rfl dM_newRun_1 ?_
  refine lv_aload_n hx hb dM_newRun_4 rfl (lv_at hl 0 rfl) ?_
  refine gM 1 X V fl_M_50 (by decide) rfl dM_newRun_5 ?_
  refine lv_iload_n hx hb dM_newRun_8 rfl (lv_at hl 1 rfl) ?_
  refine sM_ed X V (by omega) dM_newRun_9 (fun H locs V => ?_)
  refine lv_aload_n hx hb dM_newRun_10 rfl (lv_at hl 0 rfl) ?_
  refine gM 9 X V fl_M_29 (by decide) rfl dM_newRun_11 ?_
  refine lv_aload_n hx hb dM_newRun_14 rfl (lv_at hl 0 rfl) ?_
  refine gM 1 X V fl_M_50 (by decide) rfl dM_newRun_15 ?_
  refine lv_iload_n hx hb dM_newRun_18 rfl (lv_at hl 2 rfl) ?_
  refine sM_co X V (by omega) dM_newRun_19 (fun H locs V => ?_)
  refine lv_aload_n hx hb dM_newRun_20 rfl (lv_at hl 0 rfl) ?_
  refine gM 10 X V fl_M_32 (by decide) rfl dM_newRun_21 ?_
  refine lv_aload_n hx hb dM_newRun_24 rfl (lv_at hl 0 rfl) ?_
  refine gM 1 X V fl_M_50 (by decide) rfl dM_newRun_25 ?_
  refine lv_lload_n hx hb dM_newRun_28 rfl (lv_at hl 3 rfl) ?_
  refine sM_hi X V (by omega) dM_newRun_29 (fun H locs V => ?_)
  refine lv_aload_n hx hb dM_newRun_30 rfl (lv_at hl 0 rfl) ?_
  refine gM 7 X V fl_M_23 (by decide) rfl dM_newRun_31 ?_
  refine lv_iload_n hx hb dM_newRun_34 rfl (lv_at hl 1 rfl) ?_
  refine lv_iconst (v := nI 1) hx hb dM_newRun_35 (by decide) ?_
  refine sM_cl (x := true) X V (by omega) dM_newRun_36 (fun H locs V => ?_)
  refine lv_aload_n hx hb dM_newRun_37 rfl (lv_at hl 0 rfl) ?_
  refine lv_dup hx hb dM_newRun_38 rfl ?_
  refine gM 1 X V fl_M_50 (by decide) rfl dM_newRun_39 ?_
  refine lv_iconst (v := nI 1) hx hb dM_newRun_42 (by decide) ?_
  refine cj_iaddN hx hb dM_newRun_43 ?_
  refine pM_rn X V fl_M_50 dM_newRun_44 (fun H locs V => ?_)
  refine lv_aload_n hx hb dM_newRun_47 rfl (lv_at hl 0 rfl) ?_
  refine gM 1 X V fl_M_50 (by decide) rfl dM_newRun_48 ?_
  refine lv_iconst (v := nI 1) hx hb dM_newRun_51 (by decide) ?_
  refine cj_isubN hx hb (by omega) dM_newRun_52 ?_
  exact cj_reti (rn + 1, va_up ed rn ea, va_up co rn ca, va_up hz rn h, va_up cl ea true) X hr V ⟨rfl, rfl⟩ dM_newRun_53
set_option maxRecDepth 100000 in
set_option maxHeartbeats 4000000 in
theorem c_M_isHit (l : Launch) (D : va_G) (kd : Nat → ClassId) (ad : Nat → Nat) {E : Nat} {rn : Nat} {ch : Int32} {n : Nat → Nat} {con : Nat → Int32} {ow : Nat → Nat} {ge : Nat → Bool} {cl : Nat → Bool} {ed : Nat → Nat} {co : Nat → Nat} {hz : Nat → Int64} {lo : Nat → Nat} {pr : Nat → Int32} (j i : Nat) (hj : j < 14) (hi : i < 40) : cj_Mi (S := Unit) l yM_isHit cM_isHit 3 (some .boolean) 0 D kd [.ref (ad 0), .int (nI j), .int (nI i)] (wM kd ad E rn ch n con ow ge cl ed co hz lo pr) (fun r _ => r = bI (cj_tb (hz j) i)) (fun _ => wM kd ad E rn ch n con ow ge cl ed co hz lo pr) := by
  refine cj_ofi (by decide) (Nat.le_of_ble_eq_true rfl) ?_
  intro p e s m below meth c A ls X hr V hl
  obtain ⟨⟨hx, hb, hml, hown, hts⟩, hK, hlk⟩ := id X
  have hl : lv_has ls 3 [(0, .ref (ad 0)), (1, .int (nI j)), (2, .int (nI i))] := hl
  refine lv_aload_n hx hb dM_isHit_0 rfl (lv_at hl 0 rfl) ?_
  refine gM 10 X V fl_M_32 (by decide) rfl dM_isHit_1 ?_
  refine lv_iload_n hx hb dM_isHit_4 rfl (lv_at hl 1 rfl) ?_
  refine rM_hi X V (by omega) dM_isHit_5 ?_
  refine lv_iload_n hx hb dM_isHit_6 rfl (lv_at hl 2 rfl) ?_
  refine lv_lshr hx hb dM_isHit_7 rfl ?_
  refine lv_lconst (v := lN 1) hx hb dM_isHit_8 (by decide) ?_
  refine lv_land hx hb dM_isHit_9 ?_
  refine lv_lconst (v := lN 1) hx hb dM_isHit_10 (by decide) ?_
  refine cj_l_ne (tgt := 19) hx hb dM_isHit_11 dM_isHit_12 (by decide) (fun c_1 => ?_) (fun c_1 => ?_)
  ·
    refine lv_iconst (v := nI 0) hx hb dM_isHit_19 (by decide) ?_
    exact cj_retz () X hr V (by decide) (by first | (rw [cj_sar_t (by omega) ‹_›]; rfl) | (rw [cj_sar_f (by omega) ‹_›]; rfl)) dM_isHit_20
  ·
    refine lv_iconst (v := nI 1) hx hb dM_isHit_15 (by decide) ?_
    refine lv_goto (tgt := 20) hx hb dM_isHit_16 (by decide) ?_
    exact cj_retz () X hr V (by decide) (by first | (rw [cj_sar_t (by omega) ‹_›]; rfl) | (rw [cj_sar_f (by omega) ‹_›]; rfl)) dM_isHit_20
set_option maxRecDepth 100000 in
set_option maxHeartbeats 4000000 in
theorem c_M_isLine (l : Launch) (D : va_G) (kd : Nat → ClassId) (ad : Nat → Nat) {E : Nat} {rn : Nat} {ch : Int32} {n : Nat → Nat} {con : Nat → Int32} {ow : Nat → Nat} {ge : Nat → Bool} {cl : Nat → Bool} {ed : Nat → Nat} {co : Nat → Nat} {hz : Nat → Int64} {lo : Nat → Nat} {pr : Nat → Int32} (hn : ∀ i, n i ≤ 40) (hR : rn ≤ 14) (hed : ∀ r, r < rn → ed r < 8) (x y : Int32) : cj_Mi (S := Unit) l yM_isLine cM_isLine 3 (some .boolean) 1 D kd [.ref (ad 0), .int x, .int y] (wM kd ad E rn ch n con ow ge cl ed co hz lo pr) (fun r _ => (r = nI 1 ∧ ∃ j, j < rn ∧ x = nI j ∧ ∃ i, i < n (ed j) ∧ y = nI i) ∨ (r = nI 0 ∧ ¬ cj_in x rn) ∨ (r = nI 0 ∧ ∃ j, j < rn ∧ x = nI j ∧ ¬ cj_in y (n (ed j)))) (fun _ => wM kd ad E rn ch n con ow ge cl ed co hz lo pr) := by
  refine cj_ofi (by decide) (Nat.le_of_ble_eq_true rfl) ?_
  intro p e s m below meth c A ls X hr V hl
  obtain ⟨⟨hx, hb, hml, hown, hts⟩, hK, hlk⟩ := id X
  have hl : lv_has ls 3 [(0, .ref (ad 0)), (1, .int x), (2, .int y)] := hl
  refine lv_iload_n hx hb dM_isLine_0 rfl (lv_at hl 1 rfl) ?_
  refine lv_aload_n hx hb dM_isLine_1 rfl (lv_at hl 0 rfl) ?_
  refine gM 1 X V fl_M_50 (by decide) rfl dM_isLine_2 ?_
  refine cj_csi X V (c_M_in l D kd ad x rn (by omega)) ml_M_46 st_M_in in_M cd_M_in hd_M_in ⟨by decide, by decide⟩ ⟨Nat.le_refl _, Nat.le_refl _⟩ hl.1 rfl (Nat.le_of_ble_eq_true rfl) dM_isLine_5 (fun r_9 u_9 H locs hw V => ?_)
  rcases hw with ⟨rfl, j_1, hj_1, rfl⟩ | ⟨rfl, hj_1⟩
  ·
    have ij_1 := cj_ix_t hj_1 (show rn < 2 ^ 31 by omega)
    refine lv_if_eq (tgt := 33) hx hb dM_isLine_8 (by decide) (fun h => absurd h (by decide)) (fun _ => ?_)
    refine lv_iload_n hx hb dM_isLine_11 rfl (lv_at hl 2 rfl) ?_
    refine lv_aload_n hx hb dM_isLine_12 rfl (lv_at hl 0 rfl) ?_
    refine gM 3 X V fl_M_7 (by decide) rfl dM_isLine_13 ?_
    refine lv_aload_n hx hb dM_isLine_16 rfl (lv_at hl 0 rfl) ?_
    refine gM 8 X V fl_M_26 (by decide) rfl dM_isLine_17 ?_
    refine lv_iload_n hx hb dM_isLine_20 rfl (lv_at hl 1 rfl) ?_
    refine rM_ed X V (by omega) dM_isLine_21 ?_
    have f_e_3 := hed j_1 (by omega)
    refine rM_n X V (by omega) dM_isLine_22 ?_
    have f_e_4 := hn (ed j_1)
    refine cj_csi X V (c_M_in l D kd ad y (n (ed j_1)) (by omega)) ml_M_46 st_M_in in_M cd_M_in hd_M_in ⟨by decide, by decide⟩ ⟨Nat.le_refl _, Nat.le_refl _⟩ hl.1 rfl (Nat.le_of_ble_eq_true rfl) dM_isLine_23 (fun r_9 u_9 H locs hw V => ?_)
    rcases hw with ⟨rfl, j_5, hj_5, rfl⟩ | ⟨rfl, hj_5⟩
    ·
      have ij_5 := cj_ix_t hj_5 (show n (ed j_1) < 2 ^ 31 by omega)
      refine lv_if_eq (tgt := 33) hx hb dM_isLine_26 (by decide) (fun h => absurd h (by decide)) (fun _ => ?_)
      refine lv_iconst (v := nI 1) hx hb dM_isLine_29 (by decide) ?_
      refine lv_goto (tgt := 34) hx hb dM_isLine_30 (by decide) ?_
      exact cj_retz () X hr V (by decide) (Or.inl ⟨rfl, j_1, hj_1, rfl, j_5, hj_5, rfl⟩) dM_isLine_34
    ·
      have ij_5 := cj_ix_f hj_5
      refine lv_if_eq (tgt := 33) hx hb dM_isLine_26 (by decide) (fun _ => ?_) (fun h => absurd (by decide) h)
      refine lv_iconst (v := nI 0) hx hb dM_isLine_33 (by decide) ?_
      exact cj_retz () X hr V (by decide) (Or.inr (Or.inr ⟨rfl, j_1, hj_1, rfl, hj_5⟩)) dM_isLine_34
  ·
    have ij_1 := cj_ix_f hj_1
    refine lv_if_eq (tgt := 33) hx hb dM_isLine_8 (by decide) (fun _ => ?_) (fun h => absurd (by decide) h)
    refine lv_iconst (v := nI 0) hx hb dM_isLine_33 (by decide) ?_
    exact cj_retz () X hr V (by decide) (Or.inr (Or.inl ⟨rfl, hj_1⟩)) dM_isLine_34
set_option maxRecDepth 100000 in
set_option maxHeartbeats 4000000 in
theorem c_M_covered (l : Launch) (D : va_G) (kd : Nat → ClassId) (ad : Nat → Nat) {E : Nat} {rn : Nat} {ch : Int32} {n : Nat → Nat} {con : Nat → Int32} {ow : Nat → Nat} {ge : Nat → Bool} {cl : Nat → Bool} {ed : Nat → Nat} {co : Nat → Nat} {hz : Nat → Int64} {lo : Nat → Nat} {pr : Nat → Int32} (hE : E ≤ 8) (hn : ∀ i, n i ≤ 40) (hR : rn ≤ 14) (hed : ∀ r, r < rn → ed r < E) (hco : ∀ r, co r ≤ 100000) (x y : Int32) : cj_Mi (S := Unit) l yM_covered cM_covered 3 (some .boolean) 2 D kd [.ref (ad 0), .int x, .int y] (wM kd ad E rn ch n con ow ge cl ed co hz lo pr) (fun r _ => r = f_covered rn n ed hz x y) (fun _ => wM kd ad E rn ch n con ow ge cl ed co hz lo pr) := by
  refine cj_ofi (by decide) (Nat.le_of_ble_eq_true rfl) ?_
  intro p e s m below meth c A ls X hr V hl
  obtain ⟨⟨hx, hb, hml, hown, hts⟩, hK, hlk⟩ := id X
  have hl : lv_has ls 3 [(0, .ref (ad 0)), (1, .int x), (2, .int y)] := hl
  refine lv_aload_n hx hb dM_covered_0 rfl (lv_at hl 0 rfl) ?_
  refine lv_iload_n hx hb dM_covered_1 rfl (lv_at hl 1 rfl) ?_
  refine lv_iload_n hx hb dM_covered_2 rfl (lv_at hl 2 rfl) ?_
  refine cj_cvi X V (c_M_isLine l D kd ad hn hR (fun r h => by have := hed r h; omega) x y) 0 2 rfl rfl rfl ml_M_58 im_M_isLine se_M_isLine in_M cd_M_isLine hd_M_isLine ⟨by decide, by decide⟩ ⟨Nat.le_refl _, Nat.le_refl _⟩ hl.1 rfl (Nat.le_of_ble_eq_true rfl) dM_covered_3 (fun r_9 u_9 H locs hw V => ?_)
  rcases hw with ⟨rfl, j_1, hj_1, rfl, k_2, hk_2, rfl⟩ | ⟨rfl, hj_1⟩ | ⟨rfl, j_1, hj_1, rfl, hk_2⟩
  ·
    have fj_1 := hn (ed j_1)
    have ij_1 := cj_ix_t hj_1 (show rn < 2 ^ 31 by omega)
    have ik_2 := cj_ix_t hk_2 (show n (ed j_1) < 2 ^ 31 by omega)
    refine lv_if_eq (tgt := 22) hx hb dM_covered_6 (by decide) (fun h => absurd h (by decide)) (fun _ => ?_)
    refine lv_aload_n hx hb dM_covered_9 rfl (lv_at hl 0 rfl) ?_
    refine lv_iload_n hx hb dM_covered_10 rfl (lv_at hl 1 rfl) ?_
    refine lv_iload_n hx hb dM_covered_11 rfl (lv_at hl 2 rfl) ?_
    refine cj_cvi X V (c_M_isHit l D kd ad j_1 k_2 (by omega) (by omega)) 0 2 rfl rfl rfl ml_M_61 im_M_isHit se_M_isHit in_M cd_M_isHit hd_M_isHit ⟨by decide, by decide⟩ ⟨Nat.le_refl _, Nat.le_refl _⟩ hl.1 rfl (Nat.le_of_ble_eq_true rfl) dM_covered_12 (fun r_9 u_9 H locs hw V => ?_)
    obtain rfl := hw
    refine cj_b_eq (tgt := 22) hx hb dM_covered_15 (by decide) (fun c_4 => ?_) (fun c_4 => ?_)
    ·
      refine lv_iconst (v := nI 0) hx hb dM_covered_22 (by decide) ?_
      exact cj_retz () X hr V (by decide) (by simp only [f_covered, ij_1, ik_2, c_4]; try rfl) dM_covered_23
    ·
      refine lv_iconst (v := nI 1) hx hb dM_covered_18 (by decide) ?_
      refine lv_goto (tgt := 23) hx hb dM_covered_19 (by decide) ?_
      exact cj_retz () X hr V (by decide) (by simp only [f_covered, ij_1, ik_2, c_4]; try rfl) dM_covered_23
  ·
    have ij_1 := cj_ix_f hj_1
    refine lv_if_eq (tgt := 22) hx hb dM_covered_6 (by decide) (fun _ => ?_) (fun h => absurd (by decide) h)
    refine lv_iconst (v := nI 0) hx hb dM_covered_22 (by decide) ?_
    exact cj_retz () X hr V (by decide) (by simp only [f_covered, ij_1]; try rfl) dM_covered_23
  ·
    have ij_1 := cj_ix_t hj_1 (show rn < 2 ^ 31 by omega)
    have ik_2 := cj_ix_f hk_2
    refine lv_if_eq (tgt := 22) hx hb dM_covered_6 (by decide) (fun _ => ?_) (fun h => absurd (by decide) h)
    refine lv_iconst (v := nI 0) hx hb dM_covered_22 (by decide) ?_
    exact cj_retz () X hr V (by decide) (by simp only [f_covered, ij_1, ik_2]; try rfl) dM_covered_23
set_option maxRecDepth 100000 in
set_option maxHeartbeats 4000000 in
theorem c_M_hit (l : Launch) (D : va_G) (kd : Nat → ClassId) (ad : Nat → Nat) {E : Nat} {rn : Nat} {ch : Int32} {n : Nat → Nat} {con : Nat → Int32} {ow : Nat → Nat} {ge : Nat → Bool} {cl : Nat → Bool} {ed : Nat → Nat} {co : Nat → Nat} {hz : Nat → Int64} {lo : Nat → Nat} {pr : Nat → Int32} (hE : E ≤ 8) (hn : ∀ i, n i ≤ 40) (hR : rn ≤ 14) (hed : ∀ r, r < rn → ed r < E) (hco : ∀ r, co r ≤ 100000) (x y : Int32) : cj_Mi (S := Nat → Int64) l yM_hit cM_hit 3 (some .boolean) 2 D kd [.ref (ad 0), .int x, .int y] (wM kd ad E rn ch n con ow ge cl ed co hz lo pr) (fun r u => r = f_hit (o_hit rn n ed hz x y) ∧ u = h_hit hz (o_hit rn n ed hz x y)) (fun u => wM kd ad E rn ch n con ow ge cl ed co u lo pr) := by
  refine cj_ofi (by decide) (Nat.le_of_ble_eq_true rfl) ?_
  intro p e s m below meth c A ls X hr V hl
  obtain ⟨⟨hx, hb, hml, hown, hts⟩, hK, hlk⟩ := id X
  have hl : lv_has ls 3 [(0, .ref (ad 0)), (1, .int x), (2, .int y)] := hl
  refine lv_aload_n hx hb dM_hit_0 rfl (lv_at hl 0 rfl) ?_
  refine lv_iload_n hx hb dM_hit_1 rfl (lv_at hl 1 rfl) ?_
  refine lv_iload_n hx hb dM_hit_2 rfl (lv_at hl 2 rfl) ?_
  refine cj_cvi X V (c_M_isLine l D kd ad hn hR (fun r h => by have := hed r h; omega) x y) 0 2 rfl rfl rfl ml_M_58 im_M_isLine se_M_isLine in_M cd_M_isLine hd_M_isLine ⟨by decide, by decide⟩ ⟨Nat.le_refl _, Nat.le_refl _⟩ hl.1 rfl (Nat.le_of_ble_eq_true rfl) dM_hit_3 (fun r_9 u_9 H locs hw V => ?_)
  rcases hw with ⟨rfl, j_1, hj_1, rfl, k_2, hk_2, rfl⟩ | ⟨rfl, hj_1⟩ | ⟨rfl, j_1, hj_1, rfl, hk_2⟩
  ·
    have fj_1 := hn (ed j_1)
    have ij_1 := cj_ix_t hj_1 (show rn < 2 ^ 31 by omega)
    have ik_2 := cj_ix_t hk_2 (show n (ed j_1) < 2 ^ 31 by omega)
    refine lv_if_eq (tgt := 18) hx hb dM_hit_6 (by decide) (fun h => absurd h (by decide)) (fun _ => ?_)
    refine lv_aload_n hx hb dM_hit_9 rfl (lv_at hl 0 rfl) ?_
    refine lv_iload_n hx hb dM_hit_10 rfl (lv_at hl 1 rfl) ?_
    refine lv_iload_n hx hb dM_hit_11 rfl (lv_at hl 2 rfl) ?_
    refine cj_cvi X V (c_M_isHit l D kd ad j_1 k_2 (by omega) (by omega)) 0 2 rfl rfl rfl ml_M_61 im_M_isHit se_M_isHit in_M cd_M_isHit hd_M_isHit ⟨by decide, by decide⟩ ⟨Nat.le_refl _, Nat.le_refl _⟩ hl.1 rfl (Nat.le_of_ble_eq_true rfl) dM_hit_12 (fun r_9 u_9 H locs hw V => ?_)
    obtain rfl := hw
    refine cj_b_eq (tgt := 20) hx hb dM_hit_15 (by decide) (fun c_4 => ?_) (fun c_4 => ?_)
    ·
      refine lv_aload_n hx hb dM_hit_20 rfl (lv_at hl 0 rfl) ?_
      refine gM 10 X V fl_M_32 (by decide) rfl dM_hit_21 ?_
      refine lv_iload_n hx hb dM_hit_24 rfl (lv_at hl 1 rfl) ?_
      refine lv_dup2_11 hx hb dM_hit_25 rfl rfl ?_
      refine rM_hi X V (by omega) dM_hit_26 ?_
      refine lv_lconst (v := lN 1) hx hb dM_hit_27 (by decide) ?_
      refine lv_iload_n hx hb dM_hit_28 rfl (lv_at hl 2 rfl) ?_
      refine lv_lshl hx hb dM_hit_29 (cj_shl1 (by omega)) ?_
      refine lv_lor hx hb dM_hit_30 ?_
      refine sM_hi X V (by omega) dM_hit_31 (fun H locs V => ?_)
      refine lv_iconst (v := nI 1) hx hb dM_hit_32 (by decide) ?_
      exact cj_retz (va_up hz j_1 ((hz j_1) ||| (cj_bit k_2))) X hr V (by decide) (by refine ⟨?_, ?_⟩ <;> first | (simp only [o_hit, cond_true, cond_false, ij_1, ik_2, c_4]; done) | (simp only [o_hit, cond_true, cond_false, ij_1, ik_2, c_4]; rfl)) dM_hit_33
    ·
      refine lv_iconst (v := nI 0) hx hb dM_hit_18 (by decide) ?_
      exact cj_retz hz X hr V (by decide) (by refine ⟨?_, ?_⟩ <;> first | (simp only [o_hit, cond_true, cond_false, ij_1, ik_2, c_4]; done) | (simp only [o_hit, cond_true, cond_false, ij_1, ik_2, c_4]; rfl)) dM_hit_19
  ·
    have ij_1 := cj_ix_f hj_1
    refine lv_if_eq (tgt := 18) hx hb dM_hit_6 (by decide) (fun _ => ?_) (fun h => absurd (by decide) h)
    refine lv_iconst (v := nI 0) hx hb dM_hit_18 (by decide) ?_
    exact cj_retz hz X hr V (by decide) (by refine ⟨?_, ?_⟩ <;> first | (simp only [o_hit, cond_true, cond_false, ij_1]; done) | (simp only [o_hit, cond_true, cond_false, ij_1]; rfl)) dM_hit_19
  ·
    have ij_1 := cj_ix_t hj_1 (show rn < 2 ^ 31 by omega)
    have ik_2 := cj_ix_f hk_2
    refine lv_if_eq (tgt := 18) hx hb dM_hit_6 (by decide) (fun _ => ?_) (fun h => absurd (by decide) h)
    refine lv_iconst (v := nI 0) hx hb dM_hit_18 (by decide) ?_
    exact cj_retz hz X hr V (by decide) (by refine ⟨?_, ?_⟩ <;> first | (simp only [o_hit, cond_true, cond_false, ij_1, ik_2]; done) | (simp only [o_hit, cond_true, cond_false, ij_1, ik_2]; rfl)) dM_hit_19
set_option maxRecDepth 100000 in
set_option maxHeartbeats 4000000 in
theorem c_M_run (l : Launch) (D : va_G) (kd : Nat → ClassId) (ad : Nat → Nat) {E : Nat} {rn : Nat} {ch : Int32} {n : Nat → Nat} {con : Nat → Int32} {ow : Nat → Nat} {ge : Nat → Bool} {cl : Nat → Bool} {ed : Nat → Nat} {co : Nat → Nat} {hz : Nat → Int64} {lo : Nat → Nat} {pr : Nat → Int32} (hE : E ≤ 8) (hn : ∀ i, n i ≤ 40) (hR : rn ≤ 14) (hed : ∀ r, r < rn → ed r < E) (hco : ∀ r, co r ≤ 100000) (x y : Int32) : cj_Mi (S := Nat × (Nat → Nat) × (Nat → Nat) × (Nat → Int64) × (Nat → Bool)) l yM_run cM_run 3 (some .int) 1 D kd [.ref (ad 0), .int x, .int y] (wM kd ad E rn ch n con ow ge cl ed co hz lo pr) (fun r u => r = f_add rn (o_run E rn x y) ∧ u = (a_rn rn (o_run E rn x y), a_ed rn ed (o_run E rn x y), a_co rn co (o_run E rn x y), a_hz rn hz (o_run E rn x y), a_cl cl (o_run E rn x y))) (fun u => wM kd ad E u.1 ch n con ow ge u.2.2.2.2 u.2.1 u.2.2.1 u.2.2.2.1 lo pr) := by
  refine cj_ofi (by decide) (Nat.le_of_ble_eq_true rfl) ?_
  intro p e s m below meth c A ls X hr V hl
  obtain ⟨⟨hx, hb, hml, hown, hts⟩, hK, hlk⟩ := id X
  have hl : lv_has ls 3 [(0, .ref (ad 0)), (1, .int x), (2, .int y)] := hl
  refine lv_aload_n hx hb dM_run_0 rfl (lv_at hl 0 rfl) ?_
  refine gM 1 X V fl_M_50 (by decide) rfl dM_run_1 ?_
  refine lv_bipush (v := nI 14) hx hb dM_run_4 (by decide) ?_
  refine cj_n_eq (tgt := 30) hx hb dM_run_6 (by decide) (by omega) (by omega) (fun c_1 => ?_) (fun c_1 => ?_)
  ·
    refine lv_iconst (v := (-1)) hx hb dM_run_30 (by decide) ?_
    exact cj_reti (rn, ed, co, hz, cl) X hr V (by rw [o_run_full (by omega)]; exact ⟨rfl, rfl⟩) dM_run_31
  ·
    refine lv_iload_n hx hb dM_run_9 rfl (lv_at hl 1 rfl) ?_
    refine lv_aload_n hx hb dM_run_10 rfl (lv_at hl 0 rfl) ?_
    refine gM 0 X V fl_M_42 (by decide) rfl dM_run_11 ?_
    refine cj_csi X V (c_M_in l D kd ad x E (by omega)) ml_M_46 st_M_in in_M cd_M_in hd_M_in ⟨by decide, by decide⟩ ⟨Nat.le_refl _, Nat.le_refl _⟩ hl.1 rfl (Nat.le_of_ble_eq_true rfl) dM_run_14 (fun r_9 u_9 H locs hw V => ?_)
    rcases hw with ⟨rfl, j_2, hj_2, rfl⟩ | ⟨rfl, hj_2⟩
    ·
      have ij_2 := cj_ix_t hj_2 (show E < 2 ^ 31 by omega)
      refine lv_if_eq (tgt := 30) hx hb dM_run_17 (by decide) (fun h => absurd h (by decide)) (fun _ => ?_)
      refine lv_iload_n hx hb dM_run_20 rfl (lv_at hl 2 rfl) ?_
      refine lv_if_lt (tgt := 30) hx hb dM_run_21 (by decide) (fun c_4 => ?_) (fun c_4 => ?_)
      ·
        have iy := cj_ix_f (cj_ixf0 (k := 100001) c_4 (by decide))
        refine lv_iconst (v := (-1)) hx hb dM_run_30 (by decide) ?_
        exact cj_reti (rn, ed, co, hz, cl) X hr V (by simp only [o_run, ij_2, iy]; exact ⟨rfl, rfl⟩) dM_run_31
      ·
        refine lv_iload_n hx hb dM_run_24 rfl (lv_at hl 2 rfl) ?_
        refine lv_ldc hx hb hown (hts _ ko_M_53) dM_run_25 ?_
        refine cj_ti (z := nI 100000) (by decide) ?_
        refine lv_icmp_le (tgt := 32) hx hb dM_run_27 (by decide) (fun c_5 => ?_) (fun c_5 => ?_)
        ·
          obtain ⟨cy, hcy, rfl⟩ := cj_cost_t ‹¬ y < 0› c_5
          have iy := cj_ix_t hcy (by decide)
          refine lv_aload_n hx hb dM_run_32 rfl (lv_at hl 0 rfl) ?_
          refine lv_iload_n hx hb dM_run_33 rfl (lv_at hl 1 rfl) ?_
          refine lv_iload_n hx hb dM_run_34 rfl (lv_at hl 2 rfl) ?_
          refine lv_lconst (v := 0) hx hb dM_run_35 (by decide) ?_
          refine cj_cvi X V (c_M_newRun l D kd ad j_2 cy 0 (by omega) (by omega)) 0 2 rfl rfl rfl ml_M_54 im_M_newRun se_M_newRun in_M cd_M_newRun hd_M_newRun ⟨by decide, by decide⟩ ⟨Nat.le_refl _, Nat.le_refl _⟩ hl.1 rfl (Nat.le_of_ble_eq_true rfl) dM_run_36 (fun r_9 ua H locs hw V => ?_)
          obtain ⟨rfl, rfl⟩ := hw
          exact cj_reti (rn + 1, va_up ed rn j_2, va_up co rn cy, va_up hz rn 0, va_up cl j_2 true) X hr V (by simp only [o_run, o_room, ij_2, iy]; rw [if_pos (show rn < 14 by omega)]; exact ⟨rfl, rfl⟩) dM_run_39
        ·
          have iy := cj_ix_f (cj_cost_f c_5)
          refine lv_iconst (v := (-1)) hx hb dM_run_30 (by decide) ?_
          exact cj_reti (rn, ed, co, hz, cl) X hr V (by simp only [o_run, ij_2, iy]; exact ⟨rfl, rfl⟩) dM_run_31
    ·
      have ij_2 := cj_ix_f hj_2
      refine lv_if_eq (tgt := 30) hx hb dM_run_17 (by decide) (fun _ => ?_) (fun h => absurd (by decide) h)
      refine lv_iconst (v := (-1)) hx hb dM_run_30 (by decide) ?_
      exact cj_reti (rn, ed, co, hz, cl) X hr V (by simp only [o_run, ij_2]; exact ⟨rfl, rfl⟩) dM_run_31
set_option maxRecDepth 100000 in
set_option maxHeartbeats 4000000 in
theorem c_M_join (l : Launch) (D : va_G) (kd : Nat → ClassId) (ad : Nat → Nat) {E : Nat} {rn : Nat} {ch : Int32} {n : Nat → Nat} {con : Nat → Int32} {ow : Nat → Nat} {ge : Nat → Bool} {cl : Nat → Bool} {ed : Nat → Nat} {co : Nat → Nat} {hz : Nat → Int64} {lo : Nat → Nat} {pr : Nat → Int32} (hE : E ≤ 8) (hn : ∀ i, n i ≤ 40) (hR : rn ≤ 14) (hed : ∀ r, r < rn → ed r < E) (hco : ∀ r, co r ≤ 100000) (x y : Int32) : cj_Mi (S := Nat × (Nat → Nat) × (Nat → Nat) × (Nat → Int64) × (Nat → Bool)) l yM_join cM_join 4 (some .int) 1 D kd [.ref (ad 0), .int x, .int y] (wM kd ad E rn ch n con ow ge cl ed co hz lo pr) (fun r u => r = f_add rn (o_join rn ed co hz x y) ∧ u = (a_rn rn (o_join rn ed co hz x y), a_ed rn ed (o_join rn ed co hz x y), a_co rn co (o_join rn ed co hz x y), a_hz rn hz (o_join rn ed co hz x y), a_cl cl (o_join rn ed co hz x y))) (fun u => wM kd ad E u.1 ch n con ow ge u.2.2.2.2 u.2.1 u.2.2.1 u.2.2.2.1 lo pr) := by
  refine cj_ofi (by decide) (Nat.le_of_ble_eq_true rfl) ?_
  intro p e s m below meth c A ls X hr V hl
  obtain ⟨⟨hx, hb, hml, hown, hts⟩, hK, hlk⟩ := id X
  have hl : lv_has ls 4 [(0, .ref (ad 0)), (1, .int x), (2, .int y)] := hl
  refine lv_iload_n hx hb dM_join_0 rfl (lv_at hl 1 rfl) ?_
  refine lv_aload_n hx hb dM_join_1 rfl (lv_at hl 0 rfl) ?_
  refine gM 1 X V fl_M_50 (by decide) rfl dM_join_2 ?_
  refine cj_csi X V (c_M_in l D kd ad x rn (by omega)) ml_M_46 st_M_in in_M cd_M_in hd_M_in ⟨by decide, by decide⟩ ⟨Nat.le_refl _, Nat.le_refl _⟩ hl.1 rfl (Nat.le_of_ble_eq_true rfl) dM_join_5 (fun r_9 u_9 H locs hw V => ?_)
  rcases hw with ⟨rfl, j_1, hj_1, rfl⟩ | ⟨rfl, hj_1⟩
  ·
    have ij_1 := cj_ix_t hj_1 (show rn < 2 ^ 31 by omega)
    refine lv_if_eq (tgt := 46) hx hb dM_join_8 (by decide) (fun h => absurd h (by decide)) (fun _ => ?_)
    refine lv_iload_n hx hb dM_join_11 rfl (lv_at hl 2 rfl) ?_
    refine lv_aload_n hx hb dM_join_12 rfl (lv_at hl 0 rfl) ?_
    refine gM 1 X V fl_M_50 (by decide) rfl dM_join_13 ?_
    refine cj_csi X V (c_M_in l D kd ad y rn (by omega)) ml_M_46 st_M_in in_M cd_M_in hd_M_in ⟨by decide, by decide⟩ ⟨Nat.le_refl _, Nat.le_refl _⟩ hl.1 rfl (Nat.le_of_ble_eq_true rfl) dM_join_16 (fun r_9 u_9 H locs hw V => ?_)
    rcases hw with ⟨rfl, j_3, hj_3, rfl⟩ | ⟨rfl, hj_3⟩
    ·
      have ij_3 := cj_ix_t hj_3 (show rn < 2 ^ 31 by omega)
      refine lv_if_eq (tgt := 46) hx hb dM_join_19 (by decide) (fun h => absurd h (by decide)) (fun _ => ?_)
      refine lv_aload_n hx hb dM_join_22 rfl (lv_at hl 0 rfl) ?_
      refine gM 8 X V fl_M_26 (by decide) rfl dM_join_23 ?_
      refine lv_iload_n hx hb dM_join_26 rfl (lv_at hl 1 rfl) ?_
      refine rM_ed X V (by omega) dM_join_27 ?_
      have f_e_5 := hed j_1 (by omega)
      refine lv_aload_n hx hb dM_join_28 rfl (lv_at hl 0 rfl) ?_
      refine gM 8 X V fl_M_26 (by decide) rfl dM_join_29 ?_
      refine lv_iload_n hx hb dM_join_32 rfl (lv_at hl 2 rfl) ?_
      refine rM_ed X V (by omega) dM_join_33 ?_
      have f_e_6 := hed j_3 (by omega)
      refine cj_n_ne (tgt := 46) hx hb dM_join_34 (by decide) (by omega) (by omega) (fun c_7 => ?_) (fun c_7 => ?_)
      ·
        refine lv_iconst (v := (-1)) hx hb dM_join_46 (by decide) ?_
        exact cj_reti (rn, ed, co, hz, cl) X hr V (by simp only [o_join, ij_1, ij_3]; rw [if_neg c_7]; exact ⟨rfl, rfl⟩) dM_join_47
      ·
        refine lv_aload_n hx hb dM_join_37 rfl (lv_at hl 0 rfl) ?_
        refine gM 1 X V fl_M_50 (by decide) rfl dM_join_38 ?_
        refine lv_bipush (v := nI 14) hx hb dM_join_41 (by decide) ?_
        refine cj_n_ne (tgt := 48) hx hb dM_join_43 (by decide) (by omega) (by omega) (fun c_8 => ?_) (fun c_8 => ?_)
        ·
          refine lv_aload_n hx hb dM_join_48 rfl (lv_at hl 0 rfl) ?_
          refine gM 9 X V fl_M_29 (by decide) rfl dM_join_49 ?_
          refine lv_iload_n hx hb dM_join_52 rfl (lv_at hl 1 rfl) ?_
          refine rM_co X V (by omega) dM_join_53 ?_
          have f_e_9 := hco j_1
          refine lv_aload_n hx hb dM_join_54 rfl (lv_at hl 0 rfl) ?_
          refine gM 9 X V fl_M_29 (by decide) rfl dM_join_55 ?_
          refine lv_iload_n hx hb dM_join_58 rfl (lv_at hl 2 rfl) ?_
          refine rM_co X V (by omega) dM_join_59 ?_
          have f_e_10 := hco j_3
          refine cj_iaddN hx hb dM_join_60 ?_
          refine lv_istore_n (lv' := [(3, .int (nI ((co j_1) + (co j_3)))), (0, .ref (ad 0)), (1, .int (nI j_1)), (2, .int (nI j_3))]) hx hb dM_join_61 rfl hl (by decide) rfl (fun ls hl => ?_)
          refine lv_aload_n hx hb dM_join_62 rfl (lv_at hl 1 rfl) ?_
          refine lv_aload_n hx hb dM_join_63 rfl (lv_at hl 1 rfl) ?_
          refine gM 8 X V fl_M_26 (by decide) rfl dM_join_64 ?_
          refine lv_iload_n hx hb dM_join_67 rfl (lv_at hl 2 rfl) ?_
          refine rM_ed X V (by omega) dM_join_68 ?_
          have f_e_11 := hed j_1 (by omega)
          refine lv_iload_n hx hb dM_join_69 rfl (lv_at hl 0 rfl) ?_
          refine lv_ldc hx hb hown (hts _ ko_M_53) dM_join_70 ?_
          refine cj_ti (z := nI 100000) (by decide) ?_
          refine cj_n_le (tgt := 80) hx hb dM_join_72 (by decide) (by omega) (by omega) (fun c_12 => ?_) (fun c_12 => ?_)
          ·
            refine lv_iload_n hx hb dM_join_80 rfl (lv_at hl 0 rfl) ?_
            refine lv_aload_n hx hb dM_join_81 rfl (lv_at hl 1 rfl) ?_
            refine gM 10 X V fl_M_32 (by decide) rfl dM_join_82 ?_
            refine lv_iload_n hx hb dM_join_85 rfl (lv_at hl 2 rfl) ?_
            refine rM_hi X V (by omega) dM_join_86 ?_
            refine lv_aload_n hx hb dM_join_87 rfl (lv_at hl 1 rfl) ?_
            refine gM 10 X V fl_M_32 (by decide) rfl dM_join_88 ?_
            refine lv_iload_n hx hb dM_join_91 rfl (lv_at hl 3 rfl) ?_
            refine rM_hi X V (by omega) dM_join_92 ?_
            refine lv_lor hx hb dM_join_93 ?_
            refine cj_cvi X V (c_M_newRun l D kd ad (ed j_1) ((co j_1) + (co j_3)) ((hz j_1) ||| (hz j_3)) (by omega) (by omega)) 0 2 rfl rfl rfl ml_M_54 im_M_newRun se_M_newRun in_M cd_M_newRun hd_M_newRun ⟨by decide, by decide⟩ ⟨Nat.le_refl _, Nat.le_refl _⟩ hl.1 rfl (Nat.le_of_ble_eq_true rfl) dM_join_94 (fun r_9 ua H locs hw V => ?_)
            obtain ⟨rfl, rfl⟩ := hw
            exact cj_reti (rn + 1, va_up ed rn (ed j_1), va_up co rn ((co j_1) + (co j_3)), va_up hz rn ((hz j_1) ||| (hz j_3)), va_up cl (ed j_1) true) X hr V (by simp only [o_join, o_room, ij_1, ij_3]; rw [if_pos c_7, if_pos (show rn < 14 by omega)]; rw [Nat.min_eq_left (by omega)]; exact ⟨rfl, rfl⟩) dM_join_97
          ·
            refine lv_ldc hx hb hown (hts _ ko_M_53) dM_join_75 ?_
            refine cj_ti (z := nI 100000) (by decide) ?_
            refine lv_goto (tgt := 81) hx hb dM_join_77 (by decide) ?_
            refine lv_aload_n hx hb dM_join_81 rfl (lv_at hl 1 rfl) ?_
            refine gM 10 X V fl_M_32 (by decide) rfl dM_join_82 ?_
            refine lv_iload_n hx hb dM_join_85 rfl (lv_at hl 2 rfl) ?_
            refine rM_hi X V (by omega) dM_join_86 ?_
            refine lv_aload_n hx hb dM_join_87 rfl (lv_at hl 1 rfl) ?_
            refine gM 10 X V fl_M_32 (by decide) rfl dM_join_88 ?_
            refine lv_iload_n hx hb dM_join_91 rfl (lv_at hl 3 rfl) ?_
            refine rM_hi X V (by omega) dM_join_92 ?_
            refine lv_lor hx hb dM_join_93 ?_
            refine cj_cvi X V (c_M_newRun l D kd ad (ed j_1) 100000 ((hz j_1) ||| (hz j_3)) (by omega) (by omega)) 0 2 rfl rfl rfl ml_M_54 im_M_newRun se_M_newRun in_M cd_M_newRun hd_M_newRun ⟨by decide, by decide⟩ ⟨Nat.le_refl _, Nat.le_refl _⟩ hl.1 rfl (Nat.le_of_ble_eq_true rfl) dM_join_94 (fun r_9 ua H locs hw V => ?_)
            obtain ⟨rfl, rfl⟩ := hw
            exact cj_reti (rn + 1, va_up ed rn (ed j_1), va_up co rn 100000, va_up hz rn ((hz j_1) ||| (hz j_3)), va_up cl (ed j_1) true) X hr V (by simp only [o_join, o_room, ij_1, ij_3]; rw [if_pos c_7, if_pos (show rn < 14 by omega)]; rw [Nat.min_eq_right (by omega)]; exact ⟨rfl, rfl⟩) dM_join_97
        ·
          refine lv_iconst (v := (-1)) hx hb dM_join_46 (by decide) ?_
          exact cj_reti (rn, ed, co, hz, cl) X hr V (by simp only [o_join, o_room, ij_1, ij_3]; rw [if_pos c_7, if_neg (show ¬ rn < 14 by omega)]; exact ⟨rfl, rfl⟩) dM_join_47
    ·
      have ij_3 := cj_ix_f hj_3
      refine lv_if_eq (tgt := 46) hx hb dM_join_19 (by decide) (fun _ => ?_) (fun h => absurd (by decide) h)
      refine lv_iconst (v := (-1)) hx hb dM_join_46 (by decide) ?_
      exact cj_reti (rn, ed, co, hz, cl) X hr V (by simp only [o_join, ij_1, ij_3]; exact ⟨rfl, rfl⟩) dM_join_47
  ·
    have ij_1 := cj_ix_f hj_1
    refine lv_if_eq (tgt := 46) hx hb dM_join_8 (by decide) (fun _ => ?_) (fun h => absurd (by decide) h)
    refine lv_iconst (v := (-1)) hx hb dM_join_46 (by decide) ?_
    exact cj_reti (rn, ed, co, hz, cl) X hr V (by simp only [o_join, ij_1]; exact ⟨rfl, rfl⟩) dM_join_47
set_option maxRecDepth 100000 in
set_option maxHeartbeats 4000000 in
theorem c_M_line (l : Launch) (D : va_G) (kd : Nat → ClassId) (ad : Nat → Nat) {E : Nat} {rn : Nat} {ch : Int32} {n : Nat → Nat} {con : Nat → Int32} {ow : Nat → Nat} {ge : Nat → Bool} {cl : Nat → Bool} {ed : Nat → Nat} {co : Nat → Nat} {hz : Nat → Int64} {lo : Nat → Nat} {pr : Nat → Int32} (hE : E ≤ 8) (hn : ∀ i, n i ≤ 40) (hR : rn ≤ 14) (hed : ∀ r, r < rn → ed r < E) (hco : ∀ r, co r ≤ 100000) (x y z : Int32) (g : Bool) : cj_Mi (S := (Nat → Nat) × (Nat → Int32) × (Nat → Nat) × (Nat → Bool)) l yM_line cM_line 6 (some .int) 1 D kd [.ref (ad 0), .int x, .int y, .int z, .int (bI g)] (wM kd ad E rn ch n con ow ge cl ed co hz lo pr) (fun r u => r = f_line n (o_line E n cl x z) ∧ u = (l_n n (o_line E n cl x z), m_con n con y (o_line E n cl x z), m_ow n ow (o_line E n cl x z), m_ge n ge g (o_line E n cl x z))) (fun u => wM kd ad E rn ch u.1 u.2.1 u.2.2.1 u.2.2.2 cl ed co hz lo pr) := by
  refine cj_ofi (by decide) (Nat.le_of_ble_eq_true rfl) ?_
  intro p e s m below meth c A ls X hr V hl
  obtain ⟨⟨hx, hb, hml, hown, hts⟩, hK, hlk⟩ := id X
  have hl : lv_has ls 6 [(0, .ref (ad 0)), (1, .int x), (2, .int y), (3, .int z), (4, .int (bI g))] := hl
  refine lv_iload_n hx hb dM_line_0 rfl (lv_at hl 1 rfl) ?_
  refine lv_aload_n hx hb dM_line_1 rfl (lv_at hl 0 rfl) ?_
  refine gM 0 X V fl_M_42 (by decide) rfl dM_line_2 ?_
  refine cj_csi X V (c_M_in l D kd ad x E (by omega)) ml_M_46 st_M_in in_M cd_M_in hd_M_in ⟨by decide, by decide⟩ ⟨Nat.le_refl _, Nat.le_refl _⟩ hl.1 rfl (Nat.le_of_ble_eq_true rfl) dM_line_5 (fun r_9 u_9 H locs hw V => ?_)
  rcases hw with ⟨rfl, j_1, hj_1, rfl⟩ | ⟨rfl, hj_1⟩
  ·
    have ij_1 := cj_ix_t hj_1 (show E < 2 ^ 31 by omega)
    refine lv_if_eq (tgt := 39) hx hb dM_line_8 (by decide) (fun h => absurd h (by decide)) (fun _ => ?_)
    refine lv_iload_n hx hb dM_line_11 rfl (lv_at hl 3 rfl) ?_
    refine lv_iconst (v := nI 4) hx hb dM_line_12 (by decide) ?_
    refine cj_csi X V (c_M_in l D kd ad z 4 (by omega)) ml_M_46 st_M_in in_M cd_M_in hd_M_in ⟨by decide, by decide⟩ ⟨Nat.le_refl _, Nat.le_refl _⟩ hl.1 rfl (Nat.le_of_ble_eq_true rfl) dM_line_13 (fun r_9 u_9 H locs hw V => ?_)
    rcases hw with ⟨rfl, j_3, hj_3, rfl⟩ | ⟨rfl, hj_3⟩
    ·
      have ij_3 := cj_ix_t hj_3 (show 4 < 2 ^ 31 by omega)
      refine lv_if_eq (tgt := 39) hx hb dM_line_16 (by decide) (fun h => absurd h (by decide)) (fun _ => ?_)
      refine lv_aload_n hx hb dM_line_19 rfl (lv_at hl 0 rfl) ?_
      refine gM 7 X V fl_M_23 (by decide) rfl dM_line_20 ?_
      refine lv_iload_n hx hb dM_line_23 rfl (lv_at hl 1 rfl) ?_
      refine rM_cl X V (by omega) dM_line_24 ?_
      refine cj_b_ne (tgt := 39) hx hb dM_line_25 (by decide) (fun c_5 => ?_) (fun c_5 => ?_)
      ·
        refine lv_iconst (v := (-1)) hx hb dM_line_39 (by decide) ?_
        exact cj_reti (n, con, ow, ge) X hr V (by refine ⟨?_, ?_⟩ <;> first | (simp only [o_line, m_ow, m_con, m_ge, l_n, f_line, cond_true, cond_false, ij_1, ij_3, c_5]; done) | (simp only [o_line, m_ow, m_con, m_ge, l_n, f_line, cond_true, cond_false, ij_1, ij_3, c_5]; rfl)) dM_line_40
      ·
        refine lv_aload_n hx hb dM_line_28 rfl (lv_at hl 0 rfl) ?_
        refine gM 3 X V fl_M_7 (by decide) rfl dM_line_29 ?_
        refine lv_iload_n hx hb dM_line_32 rfl (lv_at hl 1 rfl) ?_
        refine rM_n X V (by omega) dM_line_33 ?_
        have f_e_6 := hn j_1
        refine lv_bipush (v := nI 40) hx hb dM_line_34 (by decide) ?_
        refine cj_n_ne (tgt := 41) hx hb dM_line_36 (by decide) (by omega) (by omega) (fun c_7 => ?_) (fun c_7 => ?_)
        ·
          refine lv_bipush (v := nI 40) hx hb dM_line_41 (by decide) ?_
          refine lv_iload_n hx hb dM_line_43 rfl (lv_at hl 1 rfl) ?_
          refine cj_imulN hx hb dM_line_44 ?_
          refine lv_aload_n hx hb dM_line_45 rfl (lv_at hl 0 rfl) ?_
          refine gM 3 X V fl_M_7 (by decide) rfl dM_line_46 ?_
          refine lv_iload_n hx hb dM_line_49 rfl (lv_at hl 1 rfl) ?_
          refine rM_n X V (by omega) dM_line_50 ?_
          have f_e_8 := hn j_1
          refine cj_iaddN hx hb dM_line_51 ?_
          refine lv_istore (lv' := [(5, .int (nI ((40 * j_1) + (n j_1)))), (0, .ref (ad 0)), (1, .int (nI j_1)), (2, .int y), (3, .int (nI j_3)), (4, .int (bI g))]) hx hb dM_line_52 hl (by decide) rfl (fun ls hl => ?_)
          refine lv_aload_n hx hb dM_line_54 rfl (lv_at hl 1 rfl) ?_
          refine gM 4 X V fl_M_13 (by decide) rfl dM_line_55 ?_
          refine lv_iload hx hb dM_line_58 (lv_at hl 0 rfl) ?_
          refine lv_iload_n hx hb dM_line_60 rfl (lv_at hl 3 rfl) ?_
          refine sM_con X V (by omega) dM_line_61 (fun H locs V => ?_)
          refine lv_aload_n hx hb dM_line_62 rfl (lv_at hl 1 rfl) ?_
          refine gM 5 X V fl_M_16 (by decide) rfl dM_line_63 ?_
          refine lv_iload hx hb dM_line_66 (lv_at hl 0 rfl) ?_
          refine lv_iload_n hx hb dM_line_68 rfl (lv_at hl 4 rfl) ?_
          refine sM_ow X V (by omega) dM_line_69 (fun H locs V => ?_)
          refine lv_aload_n hx hb dM_line_70 rfl (lv_at hl 1 rfl) ?_
          refine gM 6 X V fl_M_19 (by decide) rfl dM_line_71 ?_
          refine lv_iload hx hb dM_line_74 (lv_at hl 0 rfl) ?_
          refine lv_iload hx hb dM_line_76 (lv_at hl 5 rfl) ?_
          refine sM_ge X V (by omega) dM_line_78 (fun H locs V => ?_)
          refine lv_aload_n hx hb dM_line_79 rfl (lv_at hl 1 rfl) ?_
          refine gM 3 X V fl_M_7 (by decide) rfl dM_line_80 ?_
          refine lv_iload_n hx hb dM_line_83 rfl (lv_at hl 2 rfl) ?_
          refine lv_dup2_11 hx hb dM_line_84 rfl rfl ?_
          refine rM_n X V (by omega) dM_line_85 ?_
          have f_e_9 := hn j_1
          refine lv_iconst (v := nI 1) hx hb dM_line_86 (by decide) ?_
          refine cj_iaddN hx hb dM_line_87 ?_
          refine sM_n X V (by omega) dM_line_88 (fun H locs V => ?_)
          refine lv_aload_n hx hb dM_line_89 rfl (lv_at hl 1 rfl) ?_
          refine gM 3 X V fl_M_7 (by decide) rfl dM_line_90 ?_
          refine lv_iload_n hx hb dM_line_93 rfl (lv_at hl 2 rfl) ?_
          refine rM_n X V (by omega) dM_line_94 ?_
          have f_e_10 := hn j_1
          rw [va_up_self]
          have f_9 := hn j_1
          refine lv_iconst (v := nI 1) hx hb dM_line_95 (by decide) ?_
          refine cj_isubN hx hb (by omega) dM_line_96 ?_
          rw [Nat.add_sub_cancel]
          exact cj_reti (va_up n j_1 ((n j_1) + 1), va_up con ((40 * j_1) + (n j_1)) y, va_up ow ((40 * j_1) + (n j_1)) j_3, va_up ge ((40 * j_1) + (n j_1)) g) X hr V (by refine ⟨?_, ?_⟩ <;> first | (simp only [o_line, m_ow, m_con, m_ge, l_n, f_line, cond_true, cond_false, ij_1, ij_3, c_5]; rw [if_pos (by omega)]; done) | (simp only [o_line, m_ow, m_con, m_ge, l_n, f_line, cond_true, cond_false, ij_1, ij_3, c_5]; rw [if_pos (by omega)]; rfl)) dM_line_97
        ·
          refine lv_iconst (v := (-1)) hx hb dM_line_39 (by decide) ?_
          exact cj_reti (n, con, ow, ge) X hr V (by refine ⟨?_, ?_⟩ <;> first | (simp only [o_line, m_ow, m_con, m_ge, l_n, f_line, cond_true, cond_false, ij_1, ij_3, c_5]; rw [if_neg (by omega)]; done) | (simp only [o_line, m_ow, m_con, m_ge, l_n, f_line, cond_true, cond_false, ij_1, ij_3, c_5]; rw [if_neg (by omega)]; rfl)) dM_line_40
    ·
      have ij_3 := cj_ix_f hj_3
      refine lv_if_eq (tgt := 39) hx hb dM_line_16 (by decide) (fun _ => ?_) (fun h => absurd (by decide) h)
      refine lv_iconst (v := (-1)) hx hb dM_line_39 (by decide) ?_
      exact cj_reti (n, con, ow, ge) X hr V (by refine ⟨?_, ?_⟩ <;> first | (simp only [o_line, m_ow, m_con, m_ge, l_n, f_line, cond_true, cond_false, ij_1, ij_3]; done) | (simp only [o_line, m_ow, m_con, m_ge, l_n, f_line, cond_true, cond_false, ij_1, ij_3]; rfl)) dM_line_40
  ·
    have ij_1 := cj_ix_f hj_1
    refine lv_if_eq (tgt := 39) hx hb dM_line_8 (by decide) (fun _ => ?_) (fun h => absurd (by decide) h)
    refine lv_iconst (v := (-1)) hx hb dM_line_39 (by decide) ?_
    exact cj_reti (n, con, ow, ge) X hr V (by refine ⟨?_, ?_⟩ <;> first | (simp only [o_line, m_ow, m_con, m_ge, l_n, f_line, cond_true, cond_false, ij_1]; done) | (simp only [o_line, m_ow, m_con, m_ge, l_n, f_line, cond_true, cond_false, ij_1]; rfl)) dM_line_40
set_option maxRecDepth 100000 in
set_option maxHeartbeats 4000000 in
theorem c_M_isAlike (l : Launch) (D : va_G) (kd : Nat → ClassId) (ad : Nat → Nat) {E : Nat} {rn : Nat} {ch : Int32} {n : Nat → Nat} {con : Nat → Int32} {ow : Nat → Nat} {ge : Nat → Bool} {cl : Nat → Bool} {ed : Nat → Nat} {co : Nat → Nat} {hz : Nat → Int64} {lo : Nat → Nat} {pr : Nat → Int32} (f i g j : Nat) (hf : f < 8) (hi : i < 40) (hg : g < 8) (hj : j < 40) : cj_Mi (S := Unit) l yM_isAlike cM_isAlike 5 (some .boolean) 0 D kd [.ref (ad 0), .int (nI f), .int (nI i), .int (nI g), .int (nI j)] (wM kd ad E rn ch n con ow ge cl ed co hz lo pr) (fun r _ => r = bI (decide (con (40 * f + i) = con (40 * g + j)))) (fun _ => wM kd ad E rn ch n con ow ge cl ed co hz lo pr) := by
  refine cj_ofi (by decide) (Nat.le_of_ble_eq_true rfl) ?_
  intro p e s m below meth c A ls X hr V hl
  obtain ⟨⟨hx, hb, hml, hown, hts⟩, hK, hlk⟩ := id X
  have hl : lv_has ls 5 [(0, .ref (ad 0)), (1, .int (nI f)), (2, .int (nI i)), (3, .int (nI g)), (4, .int (nI j))] := hl
  refine lv_aload_n hx hb dM_isAlike_0 rfl (lv_at hl 0 rfl) ?_
  refine gM 4 X V fl_M_13 (by decide) rfl dM_isAlike_1 ?_
  refine lv_bipush (v := nI 40) hx hb dM_isAlike_4 (by decide) ?_
  refine lv_iload_n hx hb dM_isAlike_6 rfl (lv_at hl 1 rfl) ?_
  refine cj_imulN hx hb dM_isAlike_7 ?_
  refine lv_iload_n hx hb dM_isAlike_8 rfl (lv_at hl 2 rfl) ?_
  refine cj_iaddN hx hb dM_isAlike_9 ?_
  refine rM_con X V (by omega) dM_isAlike_10 ?_
  refine lv_aload_n hx hb dM_isAlike_11 rfl (lv_at hl 0 rfl) ?_
  refine gM 4 X V fl_M_13 (by decide) rfl dM_isAlike_12 ?_
  refine lv_bipush (v := nI 40) hx hb dM_isAlike_15 (by decide) ?_
  refine lv_iload_n hx hb dM_isAlike_17 rfl (lv_at hl 3 rfl) ?_
  refine cj_imulN hx hb dM_isAlike_18 ?_
  refine lv_iload hx hb dM_isAlike_19 (lv_at hl 4 rfl) ?_
  refine cj_iaddN hx hb dM_isAlike_21 ?_
  refine rM_con X V (by omega) dM_isAlike_22 ?_
  refine lv_icmp_ne (tgt := 30) hx hb dM_isAlike_23 (by decide) (fun c_1 => ?_) (fun c_1 => ?_)
  ·
    refine lv_iconst (v := nI 0) hx hb dM_isAlike_30 (by decide) ?_
    exact cj_retz () X hr V (by decide) (by first | (rw [decide_eq_true ‹con _ = con _›]; rfl) | (rw [decide_eq_false ‹¬ con _ = con _›]; rfl)) dM_isAlike_31
  ·
    refine lv_iconst (v := nI 1) hx hb dM_isAlike_26 (by decide) ?_
    refine lv_goto (tgt := 31) hx hb dM_isAlike_27 (by decide) ?_
    exact cj_retz () X hr V (by decide) (by first | (rw [decide_eq_true ‹con _ = con _›]; rfl) | (rw [decide_eq_false ‹¬ con _ = con _›]; rfl)) dM_isAlike_31
end
section
-- THE REFERENCE: counts
theorem cj_cs_t {f : Nat → Bool} {i : Nat} (h : f i = true) : cj_cnt f (i + 1) = cj_cnt f i + 1 := by
  show cj_cnt f i + (f i).toNat = _
  rw [h]
  rfl
theorem cj_cs_f {f : Nat → Bool} {i : Nat} (h : f i = false) : cj_cnt f (i + 1) = cj_cnt f i + 0 := by
  show cj_cnt f i + (f i).toNat = _
  rw [h]
  rfl
/-- does line i of edition e count for owner o -/
def cj_F (ow : Nat → Nat) (ge : Nat → Bool) (h : Int64) (ea o : Nat) (b : Bool) (i : Nat) : Bool := decide (ow (40 * ea + i) = o) && (!ge (40 * ea + i) && (!b || cj_tb h i))
def cj_shr (n : Nat → Nat) (ow : Nat → Nat) (ge : Nat → Bool) (ed : Nat → Nat) (hz : Nat → Int64) (j o : Nat) (b : Bool) : Nat := cj_cnt (cj_F ow ge (hz j) (ed j) o b) (n (ed j))
def f_shareM (rn : Nat) (n : Nat → Nat) (ow : Nat → Nat) (ge : Nat → Bool) (ed : Nat → Nat) (hz : Nat → Int64) (x z : Int32) (b : Bool) : Int32 := match cj_ix x rn with
  | none => -1
  | some j => match cj_ix z 4 with
    | none => -1
    | some o => nI (cj_shr n ow ge ed hz j o b)
def f_fallsM (rn : Nat) (n : Nat → Nat) (ow : Nat → Nat) (ge : Nat → Bool) (ed : Nat → Nat) (hz : Nat → Int64) (x y z : Int32) : Int32 := match cj_ix x rn with
  | none => -2
  | some a => match cj_ix y rn with
    | none => -2
    | some b => match cj_ix z 4 with
      | none => -2
      | some o => if cj_shr n ow ge ed hz a o false = 0 then -1 else if cj_shr n ow ge ed hz b o false = 0 then -1 else
        if cj_shr n ow ge ed hz a o true * cj_shr n ow ge ed hz b o false < cj_shr n ow ge ed hz b o true * cj_shr n ow ge ed hz a o false then nI 1 else nI 0
theorem cj_shr_le {n : Nat → Nat} {ow : Nat → Nat} {ge : Nat → Bool} {ed : Nat → Nat} {hz : Nat → Int64} {j o : Nat} {b : Bool} (h : n (ed j) ≤ 40) : cj_shr n ow ge ed hz j o b ≤ 40 := Nat.le_trans (cj_cnt_le _ _) h
theorem cj_or0 (x : Int32) : x ||| nI 0 = x := Int32.or_zero
theorem cj_or0L (x : Int64) : x ||| 0 = x := Int64.or_zero
theorem cj_pop40 {x : Int64} (h : ∀ i, 40 ≤ i → cj_tb x i = false) : cj_pop x = cj_cnt (cj_tb x) 40 := cj_cnt_stop (by decide) (fun i hi _ => h i hi)
end
section
set_option maxRecDepth 100000 in
set_option maxHeartbeats 4000000 in
theorem lp_M_shareOf {p : Program} {l : Launch} {e : Env} {s : State} {m : MethodId} {args : Array Value} {below : List Frame} {meth : Method} {c : Code} {Q : State → Prop} {D : va_G} {kd : Nat → ClassId} {A : Nat → Prop} {H0 : Heap} {ad : Nat → Nat} {E : Nat} {rn : Nat} {ch : Int32} {n : Nat → Nat} {con : Nat → Int32} {ow : Nat → Nat} {ge : Nat → Bool} {cl : Nat → Bool} {ed : Nat → Nat} {co : Nat → Nat} {hz : Nat → Int64} {lo : Nat → Nat} {pr : Nat → Int32} (X : cj_X p s m args c meth cM_shareOf 8 RM D kd) (hn : ∀ i, n i ≤ 40) (how : ∀ k, ow k < 4) (j q : Nat) (b : Bool) (hj : j < 14) (hej : ed j < 8) (hq : q < 4) : ∀ (d i : Nat) (H : Heap) (locs : List Loc) (ls : Array Slot), i + d = n (ed j) → cj_V D A H0 (wM kd ad E rn ch n con ow ge cl ed co hz lo pr) H locs → lv_has ls 8 [(6, .int (nI i)), (4, .int (nI (cj_cnt (cj_F ow ge (hz j) (ed j) q b) i))), (5, .int (nI (ed j))), (0, .ref (ad 0)), (1, .int (nI j)), (2, .int (nI q)), (3, .int (bI b))] → (∀ (H : Heap) (locs : List Loc) (ls : Array Slot), cj_V D A H0 (wM kd ad E rn ch n con ow ge cl ed co hz lo pr) H locs → lv_has ls 8 [(6, .int (nI (n (ed j)))), (4, .int (nI (cj_cnt (cj_F ow ge (hz j) (ed j) q b) (n (ed j))))), (5, .int (nI (ed j))), (0, .ref (ad 0)), (1, .int (nI j)), (2, .int (nI q)), (3, .int (bI b))] → W p l e (cj_rm 1) s m args below meth c H locs 0 0 Q (F0 m 101 ls [])) → W p l e (cj_rm 1) s m args below meth c H locs 0 0 Q (F0 m 14 ls []) := by
  obtain ⟨⟨hx, hb, hml, hown, hts⟩, hK, hlk⟩ := id X
  intro d
  induction d with
  | zero =>
    intro i H locs ls hi V hl kont
    have hnj := hn (ed j)
    refine lv_iload hx hb dM_shareOf_14 (lv_at hl 0 rfl) ?_
    refine lv_aload_n hx hb dM_shareOf_16 rfl (lv_at hl 3 rfl) ?_
    refine gM 3 X V fl_M_7 (by decide) rfl dM_shareOf_17 ?_
    refine lv_iload hx hb dM_shareOf_20 (lv_at hl 2 rfl) ?_
    refine rM_n X V (by omega) dM_shareOf_22 ?_
    have f_e_1 := hn (ed j)
    refine cj_n_ge (tgt := 101) hx hb dM_shareOf_23 (by decide) (by omega) (by omega) (fun c_2 => ?_) (fun c_2 => ?_)
    ·
      obtain rfl : i = n (ed j) := by omega
      exact kont _ _ _ V (lv_sub hl [0, 1, 2, 3, 4, 5, 6] rfl)
    ·
      exact absurd c_2 (by omega)
  | succ d ih =>
    intro i H locs ls hi V hl kont
    have hnj := hn (ed j)
    refine lv_iload hx hb dM_shareOf_14 (lv_at hl 0 rfl) ?_
    refine lv_aload_n hx hb dM_shareOf_16 rfl (lv_at hl 3 rfl) ?_
    refine gM 3 X V fl_M_7 (by decide) rfl dM_shareOf_17 ?_
    refine lv_iload hx hb dM_shareOf_20 (lv_at hl 2 rfl) ?_
    refine rM_n X V (by omega) dM_shareOf_22 ?_
    have f_e_1 := hn (ed j)
    refine cj_n_ge (tgt := 101) hx hb dM_shareOf_23 (by decide) (by omega) (by omega) (fun c_2 => ?_) (fun c_2 => ?_)
    ·
      exact absurd c_2 (by omega)
    ·
      refine lv_aload_n hx hb dM_shareOf_26 rfl (lv_at hl 3 rfl) ?_
      refine gM 5 X V fl_M_16 (by decide) rfl dM_shareOf_27 ?_
      refine lv_bipush (v := nI 40) hx hb dM_shareOf_30 (by decide) ?_
      refine lv_iload hx hb dM_shareOf_32 (lv_at hl 2 rfl) ?_
      refine cj_imulN hx hb dM_shareOf_34 ?_
      refine lv_iload hx hb dM_shareOf_35 (lv_at hl 0 rfl) ?_
      refine cj_iaddN hx hb dM_shareOf_37 ?_
      refine rM_ow X V (by omega) dM_shareOf_38 ?_
      have f_e_3 := how ((40 * (ed j)) + i)
      refine lv_iload_n hx hb dM_shareOf_39 rfl (lv_at hl 5 rfl) ?_
      refine cj_n_ne (tgt := 63) hx hb dM_shareOf_40 (by decide) (by omega) (by omega) (fun c_4 => ?_) (fun c_4 => ?_)
      ·
        refine lv_iconst (v := nI 0) hx hb dM_shareOf_63 (by decide) ?_
        refine lv_istore (lv' := [(7, .int (nI 0)), (6, .int (nI i)), (4, .int (nI (cj_cnt (cj_F ow ge (hz j) (ed j) q b) i))), (5, .int (nI (ed j))), (0, .ref (ad 0)), (1, .int (nI j)), (2, .int (nI q)), (3, .int (bI b))]) hx hb dM_shareOf_64 hl (by decide) rfl (fun ls hl => ?_)
        refine lv_iload hx hb dM_shareOf_66 (lv_at hl 2 rfl) ?_
        refine lv_iload hx hb dM_shareOf_68 (lv_at hl 0 rfl) ?_
        refine lv_if_eq (tgt := 91) hx hb dM_shareOf_70 (by decide) (fun _ => ?_) (fun h => absurd (by decide) h)
        refine lv_iconst (v := nI 0) hx hb dM_shareOf_91 (by decide) ?_
        refine cj_iaddN hx hb dM_shareOf_92 ?_
        refine lv_istore (lv' := [(4, .int (nI ((cj_cnt (cj_F ow ge (hz j) (ed j) q b) i) + 0))), (7, .int (nI 0)), (6, .int (nI i)), (5, .int (nI (ed j))), (0, .ref (ad 0)), (1, .int (nI j)), (2, .int (nI q)), (3, .int (bI b))]) hx hb dM_shareOf_93 hl (by decide) rfl (fun ls hl => ?_)
        refine lv_iinc (v := nI (i + 1)) (lv' := [(6, .int (nI (i + 1))), (4, .int (nI ((cj_cnt (cj_F ow ge (hz j) (ed j) q b) i) + 0))), (7, .int (nI 0)), (5, .int (nI (ed j))), (0, .ref (ad 0)), (1, .int (nI j)), (2, .int (nI q)), (3, .int (bI b))]) hx hb dM_shareOf_95 hl (k := 2) rfl (cj_inc _) (by decide) rfl (fun ls hl => ?_)
        refine lv_goto (tgt := 14) hx hb dM_shareOf_98 (by decide) ?_
        exact ih (i + 1) _ _ ls (by omega) V (lv_sub hl [0, 1, 3, 4, 5, 6, 7] (by rw [cj_cs_f (show cj_F ow ge (hz j) (ed j) q b i = false by simp [cj_F, c_4])]; rfl)) kont
      ·
        refine lv_aload_n hx hb dM_shareOf_43 rfl (lv_at hl 3 rfl) ?_
        refine gM 6 X V fl_M_19 (by decide) rfl dM_shareOf_44 ?_
        refine lv_bipush (v := nI 40) hx hb dM_shareOf_47 (by decide) ?_
        refine lv_iload hx hb dM_shareOf_49 (lv_at hl 2 rfl) ?_
        refine cj_imulN hx hb dM_shareOf_51 ?_
        refine lv_iload hx hb dM_shareOf_52 (lv_at hl 0 rfl) ?_
        refine cj_iaddN hx hb dM_shareOf_54 ?_
        refine rM_ge X V (by omega) dM_shareOf_55 ?_
        refine cj_b_ne (tgt := 63) hx hb dM_shareOf_56 (by decide) (fun c_6 => ?_) (fun c_6 => ?_)
        ·
          refine lv_iconst (v := nI 0) hx hb dM_shareOf_63 (by decide) ?_
          refine lv_istore (lv' := [(7, .int (nI 0)), (6, .int (nI i)), (4, .int (nI (cj_cnt (cj_F ow ge (hz j) (ed j) q b) i))), (5, .int (nI (ed j))), (0, .ref (ad 0)), (1, .int (nI j)), (2, .int (nI q)), (3, .int (bI b))]) hx hb dM_shareOf_64 hl (by decide) rfl (fun ls hl => ?_)
          refine lv_iload hx hb dM_shareOf_66 (lv_at hl 2 rfl) ?_
          refine lv_iload hx hb dM_shareOf_68 (lv_at hl 0 rfl) ?_
          refine lv_if_eq (tgt := 91) hx hb dM_shareOf_70 (by decide) (fun _ => ?_) (fun h => absurd (by decide) h)
          refine lv_iconst (v := nI 0) hx hb dM_shareOf_91 (by decide) ?_
          refine cj_iaddN hx hb dM_shareOf_92 ?_
          refine lv_istore (lv' := [(4, .int (nI ((cj_cnt (cj_F ow ge (hz j) (ed j) q b) i) + 0))), (7, .int (nI 0)), (6, .int (nI i)), (5, .int (nI (ed j))), (0, .ref (ad 0)), (1, .int (nI j)), (2, .int (nI q)), (3, .int (bI b))]) hx hb dM_shareOf_93 hl (by decide) rfl (fun ls hl => ?_)
          refine lv_iinc (v := nI (i + 1)) (lv' := [(6, .int (nI (i + 1))), (4, .int (nI ((cj_cnt (cj_F ow ge (hz j) (ed j) q b) i) + 0))), (7, .int (nI 0)), (5, .int (nI (ed j))), (0, .ref (ad 0)), (1, .int (nI j)), (2, .int (nI q)), (3, .int (bI b))]) hx hb dM_shareOf_95 hl (k := 2) rfl (cj_inc _) (by decide) rfl (fun ls hl => ?_)
          refine lv_goto (tgt := 14) hx hb dM_shareOf_98 (by decide) ?_
          exact ih (i + 1) _ _ ls (by omega) V (lv_sub hl [0, 1, 3, 4, 5, 6, 7] (by rw [cj_cs_f (show cj_F ow ge (hz j) (ed j) q b i = false by simp [cj_F, c_4, c_6])]; rfl)) kont
        ·
          refine lv_iconst (v := nI 1) hx hb dM_shareOf_59 (by decide) ?_
          refine lv_goto (tgt := 64) hx hb dM_shareOf_60 (by decide) ?_
          refine lv_istore (lv' := [(7, .int (nI 1)), (6, .int (nI i)), (4, .int (nI (cj_cnt (cj_F ow ge (hz j) (ed j) q b) i))), (5, .int (nI (ed j))), (0, .ref (ad 0)), (1, .int (nI j)), (2, .int (nI q)), (3, .int (bI b))]) hx hb dM_shareOf_64 hl (by decide) rfl (fun ls hl => ?_)
          refine lv_iload hx hb dM_shareOf_66 (lv_at hl 2 rfl) ?_
          refine lv_iload hx hb dM_shareOf_68 (lv_at hl 0 rfl) ?_
          refine lv_if_eq (tgt := 91) hx hb dM_shareOf_70 (by decide) (fun h => absurd h (by decide)) (fun _ => ?_)
          refine lv_iload_n hx hb dM_shareOf_73 rfl (lv_at hl 7 rfl) ?_
          refine cj_b_eq (tgt := 87) hx hb dM_shareOf_74 (by decide) (fun c_9 => ?_) (fun c_9 => ?_)
          ·
            refine lv_iconst (v := nI 1) hx hb dM_shareOf_87 (by decide) ?_
            refine lv_goto (tgt := 92) hx hb dM_shareOf_88 (by decide) ?_
            refine cj_iaddN hx hb dM_shareOf_92 ?_
            refine lv_istore (lv' := [(4, .int (nI ((cj_cnt (cj_F ow ge (hz j) (ed j) q b) i) + 1))), (7, .int (nI 1)), (6, .int (nI i)), (5, .int (nI (ed j))), (0, .ref (ad 0)), (1, .int (nI j)), (2, .int (nI q)), (3, .int (bI b))]) hx hb dM_shareOf_93 hl (by decide) rfl (fun ls hl => ?_)
            refine lv_iinc (v := nI (i + 1)) (lv' := [(6, .int (nI (i + 1))), (4, .int (nI ((cj_cnt (cj_F ow ge (hz j) (ed j) q b) i) + 1))), (7, .int (nI 1)), (5, .int (nI (ed j))), (0, .ref (ad 0)), (1, .int (nI j)), (2, .int (nI q)), (3, .int (bI b))]) hx hb dM_shareOf_95 hl (k := 2) rfl (cj_inc _) (by decide) rfl (fun ls hl => ?_)
            refine lv_goto (tgt := 14) hx hb dM_shareOf_98 (by decide) ?_
            exact ih (i + 1) _ _ ls (by omega) V (lv_sub hl [0, 1, 3, 4, 5, 6, 7] (by rw [cj_cs_t (show cj_F ow ge (hz j) (ed j) q b i = true by simp [cj_F, c_4, c_6, c_9])]; rfl)) kont
          ·
            refine lv_aload_n hx hb dM_shareOf_77 rfl (lv_at hl 4 rfl) ?_
            refine lv_iload_n hx hb dM_shareOf_78 rfl (lv_at hl 5 rfl) ?_
            refine lv_iload hx hb dM_shareOf_79 (lv_at hl 1 rfl) ?_
            refine cj_cvi X V (c_M_isHit l D kd ad j i (by omega) (by omega)) 0 2 rfl rfl rfl ml_M_61 im_M_isHit se_M_isHit in_M cd_M_isHit hd_M_isHit ⟨by decide, by decide⟩ ⟨Nat.le_refl _, Nat.le_refl _⟩ hl.1 rfl (Nat.le_of_ble_eq_true rfl) dM_shareOf_81 (fun r_9 u_9 H locs hw V => ?_)
            obtain rfl := hw
            refine cj_b_eq (tgt := 91) hx hb dM_shareOf_84 (by decide) (fun c_10 => ?_) (fun c_10 => ?_)
            ·
              refine lv_iconst (v := nI 0) hx hb dM_shareOf_91 (by decide) ?_
              refine cj_iaddN hx hb dM_shareOf_92 ?_
              refine lv_istore (lv' := [(4, .int (nI ((cj_cnt (cj_F ow ge (hz j) (ed j) q b) i) + 0))), (7, .int (nI 1)), (6, .int (nI i)), (5, .int (nI (ed j))), (0, .ref (ad 0)), (1, .int (nI j)), (2, .int (nI q)), (3, .int (bI b))]) hx hb dM_shareOf_93 hl (by decide) rfl (fun ls hl => ?_)
              refine lv_iinc (v := nI (i + 1)) (lv' := [(6, .int (nI (i + 1))), (4, .int (nI ((cj_cnt (cj_F ow ge (hz j) (ed j) q b) i) + 0))), (7, .int (nI 1)), (5, .int (nI (ed j))), (0, .ref (ad 0)), (1, .int (nI j)), (2, .int (nI q)), (3, .int (bI b))]) hx hb dM_shareOf_95 hl (k := 2) rfl (cj_inc _) (by decide) rfl (fun ls hl => ?_)
              refine lv_goto (tgt := 14) hx hb dM_shareOf_98 (by decide) ?_
              exact ih (i + 1) _ _ ls (by omega) V (lv_sub hl [0, 1, 3, 4, 5, 6, 7] (by rw [cj_cs_f (show cj_F ow ge (hz j) (ed j) q b i = false by simp [cj_F, c_4, c_6, c_9, c_10])]; rfl)) kont
            ·
              refine lv_iconst (v := nI 1) hx hb dM_shareOf_87 (by decide) ?_
              refine lv_goto (tgt := 92) hx hb dM_shareOf_88 (by decide) ?_
              refine cj_iaddN hx hb dM_shareOf_92 ?_
              refine lv_istore (lv' := [(4, .int (nI ((cj_cnt (cj_F ow ge (hz j) (ed j) q b) i) + 1))), (7, .int (nI 1)), (6, .int (nI i)), (5, .int (nI (ed j))), (0, .ref (ad 0)), (1, .int (nI j)), (2, .int (nI q)), (3, .int (bI b))]) hx hb dM_shareOf_93 hl (by decide) rfl (fun ls hl => ?_)
              refine lv_iinc (v := nI (i + 1)) (lv' := [(6, .int (nI (i + 1))), (4, .int (nI ((cj_cnt (cj_F ow ge (hz j) (ed j) q b) i) + 1))), (7, .int (nI 1)), (5, .int (nI (ed j))), (0, .ref (ad 0)), (1, .int (nI j)), (2, .int (nI q)), (3, .int (bI b))]) hx hb dM_shareOf_95 hl (k := 2) rfl (cj_inc _) (by decide) rfl (fun ls hl => ?_)
              refine lv_goto (tgt := 14) hx hb dM_shareOf_98 (by decide) ?_
              exact ih (i + 1) _ _ ls (by omega) V (lv_sub hl [0, 1, 3, 4, 5, 6, 7] (by rw [cj_cs_t (show cj_F ow ge (hz j) (ed j) q b i = true by simp [cj_F, c_4, c_6, c_9, c_10])]; rfl)) kont
set_option maxRecDepth 100000 in
set_option maxHeartbeats 4000000 in
theorem c_M_shareOf (l : Launch) (D : va_G) (kd : Nat → ClassId) (ad : Nat → Nat) {E : Nat} {rn : Nat} {ch : Int32} {n : Nat → Nat} {con : Nat → Int32} {ow : Nat → Nat} {ge : Nat → Bool} {cl : Nat → Bool} {ed : Nat → Nat} {co : Nat → Nat} {hz : Nat → Int64} {lo : Nat → Nat} {pr : Nat → Int32} (hn : ∀ i, n i ≤ 40) (how : ∀ k, ow k < 4) (j q : Nat) (b : Bool) (hj : j < 14) (hej : ed j < 8) (hq : q < 4) : cj_Mi (S := Unit) l yM_shareOf cM_shareOf 8 (some .int) 1 D kd [.ref (ad 0), .int (nI j), .int (nI q), .int (bI b)] (wM kd ad E rn ch n con ow ge cl ed co hz lo pr) (fun r _ => r = nI (cj_shr n ow ge ed hz j q b)) (fun _ => wM kd ad E rn ch n con ow ge cl ed co hz lo pr) := by
  refine cj_ofi (by decide) (Nat.le_of_ble_eq_true rfl) ?_
  intro p e s m below meth c A ls X hr V hl
  obtain ⟨⟨hx, hb, hml, hown, hts⟩, hK, hlk⟩ := id X
  have hl : lv_has ls 8 [(0, .ref (ad 0)), (1, .int (nI j)), (2, .int (nI q)), (3, .int (bI b))] := hl
  refine lv_iconst (v := nI 0) hx hb dM_shareOf_0 (by decide) ?_
  refine lv_istore (lv' := [(4, .int (nI 0)), (0, .ref (ad 0)), (1, .int (nI j)), (2, .int (nI q)), (3, .int (bI b))]) hx hb dM_shareOf_1 hl (by decide) rfl (fun ls hl => ?_)
  refine lv_aload_n hx hb dM_shareOf_3 rfl (lv_at hl 1 rfl) ?_
  refine gM 8 X V fl_M_26 (by decide) rfl dM_shareOf_4 ?_
  refine lv_iload_n hx hb dM_shareOf_7 rfl (lv_at hl 2 rfl) ?_
  refine rM_ed X V (by omega) dM_shareOf_8 ?_
  refine lv_istore (lv' := [(5, .int (nI (ed j))), (4, .int (nI 0)), (0, .ref (ad 0)), (1, .int (nI j)), (2, .int (nI q)), (3, .int (bI b))]) hx hb dM_shareOf_9 hl (by decide) rfl (fun ls hl => ?_)
  refine lv_iconst (v := nI 0) hx hb dM_shareOf_11 (by decide) ?_
  refine lv_istore (lv' := [(6, .int (nI 0)), (5, .int (nI (ed j))), (4, .int (nI 0)), (0, .ref (ad 0)), (1, .int (nI j)), (2, .int (nI q)), (3, .int (bI b))]) hx hb dM_shareOf_12 hl (by decide) rfl (fun ls hl => ?_)
  refine lp_M_shareOf X hn how j q b hj hej hq (n (ed j)) 0 _ _ ls (by omega) V (lv_sub hl [0, 2, 1, 3, 4, 5, 6] rfl) (fun H locs ls V hl => ?_)
  refine lv_iload hx hb dM_shareOf_101 (lv_at hl 1 rfl) ?_
  exact cj_reti () X hr V rfl dM_shareOf_103
set_option maxRecDepth 100000 in
set_option maxHeartbeats 4000000 in
theorem c_M_share (l : Launch) (D : va_G) (kd : Nat → ClassId) (ad : Nat → Nat) {E : Nat} {rn : Nat} {ch : Int32} {n : Nat → Nat} {con : Nat → Int32} {ow : Nat → Nat} {ge : Nat → Bool} {cl : Nat → Bool} {ed : Nat → Nat} {co : Nat → Nat} {hz : Nat → Int64} {lo : Nat → Nat} {pr : Nat → Int32} (hE : E ≤ 8) (hn : ∀ i, n i ≤ 40) (hR : rn ≤ 14) (hed : ∀ r, r < rn → ed r < E) (hco : ∀ r, co r ≤ 100000) (how : ∀ k, ow k < 4) (x z : Int32) (b : Bool) : cj_Mi (S := Unit) l yM_share cM_share 4 (some .int) 2 D kd [.ref (ad 0), .int x, .int z, .int (bI b)] (wM kd ad E rn ch n con ow ge cl ed co hz lo pr) (fun r _ => r = f_shareM rn n ow ge ed hz x z b) (fun _ => wM kd ad E rn ch n con ow ge cl ed co hz lo pr) := by
  refine cj_ofi (by decide) (Nat.le_of_ble_eq_true rfl) ?_
  intro p e s m below meth c A ls X hr V hl
  obtain ⟨⟨hx, hb, hml, hown, hts⟩, hK, hlk⟩ := id X
  have hl : lv_has ls 4 [(0, .ref (ad 0)), (1, .int x), (2, .int z), (3, .int (bI b))] := hl
  refine lv_iload_n hx hb dM_share_0 rfl (lv_at hl 1 rfl) ?_
  refine lv_aload_n hx hb dM_share_1 rfl (lv_at hl 0 rfl) ?_
  refine gM 1 X V fl_M_50 (by decide) rfl dM_share_2 ?_
  refine cj_csi X V (c_M_in l D kd ad x rn (by omega)) ml_M_46 st_M_in in_M cd_M_in hd_M_in ⟨by decide, by decide⟩ ⟨Nat.le_refl _, Nat.le_refl _⟩ hl.1 rfl (Nat.le_of_ble_eq_true rfl) dM_share_5 (fun r_9 u_9 H locs hw V => ?_)
  rcases hw with ⟨rfl, j_1, hj_1, rfl⟩ | ⟨rfl, hj_1⟩
  ·
    have ij_1 := cj_ix_t hj_1 (show rn < 2 ^ 31 by omega)
    refine lv_if_eq (tgt := 29) hx hb dM_share_8 (by decide) (fun h => absurd h (by decide)) (fun _ => ?_)
    refine lv_iload_n hx hb dM_share_11 rfl (lv_at hl 2 rfl) ?_
    refine lv_iconst (v := nI 4) hx hb dM_share_12 (by decide) ?_
    refine cj_csi X V (c_M_in l D kd ad z 4 (by omega)) ml_M_46 st_M_in in_M cd_M_in hd_M_in ⟨by decide, by decide⟩ ⟨Nat.le_refl _, Nat.le_refl _⟩ hl.1 rfl (Nat.le_of_ble_eq_true rfl) dM_share_13 (fun r_9 u_9 H locs hw V => ?_)
    rcases hw with ⟨rfl, j_3, hj_3, rfl⟩ | ⟨rfl, hj_3⟩
    ·
      have ij_3 := cj_ix_t hj_3 (show 4 < 2 ^ 31 by omega)
      refine lv_if_eq (tgt := 29) hx hb dM_share_16 (by decide) (fun h => absurd h (by decide)) (fun _ => ?_)
      refine lv_aload_n hx hb dM_share_19 rfl (lv_at hl 0 rfl) ?_
      refine lv_iload_n hx hb dM_share_20 rfl (lv_at hl 1 rfl) ?_
      refine lv_iload_n hx hb dM_share_21 rfl (lv_at hl 2 rfl) ?_
      refine lv_iload_n hx hb dM_share_22 rfl (lv_at hl 3 rfl) ?_
      refine cj_cvi X V (c_M_shareOf l D kd ad hn how j_1 j_3 b (by omega) (by have := hed j_1 (by omega); omega) (by omega)) 0 2 rfl rfl rfl ml_M_72 im_M_shareOf se_M_shareOf in_M cd_M_shareOf hd_M_shareOf ⟨by decide, by decide⟩ ⟨Nat.le_refl _, Nat.le_refl _⟩ hl.1 rfl (Nat.le_of_ble_eq_true rfl) dM_share_23 (fun r_9 u_9 H locs hw V => ?_)
      obtain rfl := hw
      have f_q_5 := cj_shr_le (ow := ow) (ge := ge) (hz := hz) (j := j_1) (o := j_3) (b := b) (hn (ed j_1))
      refine lv_goto (tgt := 30) hx hb dM_share_26 (by decide) ?_
      exact cj_reti () X hr V (by simp only [f_shareM, ij_1, ij_3]) dM_share_30
    ·
      have ij_3 := cj_ix_f hj_3
      refine lv_if_eq (tgt := 29) hx hb dM_share_16 (by decide) (fun _ => ?_) (fun h => absurd (by decide) h)
      refine lv_iconst (v := (-1)) hx hb dM_share_29 (by decide) ?_
      exact cj_reti () X hr V (by simp only [f_shareM, ij_1, ij_3]) dM_share_30
  ·
    have ij_1 := cj_ix_f hj_1
    refine lv_if_eq (tgt := 29) hx hb dM_share_8 (by decide) (fun _ => ?_) (fun h => absurd (by decide) h)
    refine lv_iconst (v := (-1)) hx hb dM_share_29 (by decide) ?_
    exact cj_reti () X hr V (by simp only [f_shareM, ij_1]) dM_share_30
set_option maxRecDepth 100000 in
set_option maxHeartbeats 4000000 in
theorem c_M_falls (l : Launch) (D : va_G) (kd : Nat → ClassId) (ad : Nat → Nat) {E : Nat} {rn : Nat} {ch : Int32} {n : Nat → Nat} {con : Nat → Int32} {ow : Nat → Nat} {ge : Nat → Bool} {cl : Nat → Bool} {ed : Nat → Nat} {co : Nat → Nat} {hz : Nat → Int64} {lo : Nat → Nat} {pr : Nat → Int32} (hE : E ≤ 8) (hn : ∀ i, n i ≤ 40) (hR : rn ≤ 14) (hed : ∀ r, r < rn → ed r < E) (hco : ∀ r, co r ≤ 100000) (how : ∀ k, ow k < 4) (x y z : Int32) : cj_Mi (S := Unit) l yM_falls cM_falls 6 (some .int) 2 D kd [.ref (ad 0), .int x, .int y, .int z] (wM kd ad E rn ch n con ow ge cl ed co hz lo pr) (fun r _ => r = f_fallsM rn n ow ge ed hz x y z) (fun _ => wM kd ad E rn ch n con ow ge cl ed co hz lo pr) := by
  refine cj_ofi (by decide) (Nat.le_of_ble_eq_true rfl) ?_
  intro p e s m below meth c A ls X hr V hl
  obtain ⟨⟨hx, hb, hml, hown, hts⟩, hK, hlk⟩ := id X
  have hl : lv_has ls 6 [(0, .ref (ad 0)), (1, .int x), (2, .int y), (3, .int z)] := hl
  refine lv_iload_n hx hb dM_falls_0 rfl (lv_at hl 1 rfl) ?_
  refine lv_aload_n hx hb dM_falls_1 rfl (lv_at hl 0 rfl) ?_
  refine gM 1 X V fl_M_50 (by decide) rfl dM_falls_2 ?_
  refine cj_csi X V (c_M_in l D kd ad x rn (by omega)) ml_M_46 st_M_in in_M cd_M_in hd_M_in ⟨by decide, by decide⟩ ⟨Nat.le_refl _, Nat.le_refl _⟩ hl.1 rfl (Nat.le_of_ble_eq_true rfl) dM_falls_5 (fun r_9 u_9 H locs hw V => ?_)
  rcases hw with ⟨rfl, j_1, hj_1, rfl⟩ | ⟨rfl, hj_1⟩
  ·
    have ij_1 := cj_ix_t hj_1 (show rn < 2 ^ 31 by omega)
    refine lv_if_eq (tgt := 30) hx hb dM_falls_8 (by decide) (fun h => absurd h (by decide)) (fun _ => ?_)
    refine lv_iload_n hx hb dM_falls_11 rfl (lv_at hl 2 rfl) ?_
    refine lv_aload_n hx hb dM_falls_12 rfl (lv_at hl 0 rfl) ?_
    refine gM 1 X V fl_M_50 (by decide) rfl dM_falls_13 ?_
    refine cj_csi X V (c_M_in l D kd ad y rn (by omega)) ml_M_46 st_M_in in_M cd_M_in hd_M_in ⟨by decide, by decide⟩ ⟨Nat.le_refl _, Nat.le_refl _⟩ hl.1 rfl (Nat.le_of_ble_eq_true rfl) dM_falls_16 (fun r_9 u_9 H locs hw V => ?_)
    rcases hw with ⟨rfl, j_3, hj_3, rfl⟩ | ⟨rfl, hj_3⟩
    ·
      have ij_3 := cj_ix_t hj_3 (show rn < 2 ^ 31 by omega)
      refine lv_if_eq (tgt := 30) hx hb dM_falls_19 (by decide) (fun h => absurd h (by decide)) (fun _ => ?_)
      refine lv_iload_n hx hb dM_falls_22 rfl (lv_at hl 3 rfl) ?_
      refine lv_iconst (v := nI 4) hx hb dM_falls_23 (by decide) ?_
      refine cj_csi X V (c_M_in l D kd ad z 4 (by omega)) ml_M_46 st_M_in in_M cd_M_in hd_M_in ⟨by decide, by decide⟩ ⟨Nat.le_refl _, Nat.le_refl _⟩ hl.1 rfl (Nat.le_of_ble_eq_true rfl) dM_falls_24 (fun r_9 u_9 H locs hw V => ?_)
      rcases hw with ⟨rfl, j_5, hj_5, rfl⟩ | ⟨rfl, hj_5⟩
      ·
        have ij_5 := cj_ix_t hj_5 (show 4 < 2 ^ 31 by omega)
        refine lv_if_ne (tgt := 33) hx hb dM_falls_27 (by decide) (fun _ => ?_) (fun h => absurd h (by decide))
        refine lv_aload_n hx hb dM_falls_33 rfl (lv_at hl 0 rfl) ?_
        refine lv_iload_n hx hb dM_falls_34 rfl (lv_at hl 1 rfl) ?_
        refine lv_iload_n hx hb dM_falls_35 rfl (lv_at hl 3 rfl) ?_
        refine lv_iconst (v := nI 0) hx hb dM_falls_36 (by decide) ?_
        refine cj_cvi X V (c_M_shareOf l D kd ad hn how j_1 j_5 false (by omega) (by have := hed j_1 (by omega); omega) (by omega)) 0 2 rfl rfl rfl ml_M_72 im_M_shareOf se_M_shareOf in_M cd_M_shareOf hd_M_shareOf ⟨by decide, by decide⟩ ⟨Nat.le_refl _, Nat.le_refl _⟩ hl.1 rfl (Nat.le_of_ble_eq_true rfl) dM_falls_37 (fun r_9 u_9 H locs hw V => ?_)
        obtain rfl := hw
        have f_q_7 := cj_shr_le (ow := ow) (ge := ge) (hz := hz) (j := j_1) (o := j_5) (b := false) (hn (ed j_1))
        refine lv_istore (lv' := [(4, .int (nI (cj_shr n ow ge ed hz j_1 j_5 false))), (0, .ref (ad 0)), (1, .int (nI j_1)), (2, .int (nI j_3)), (3, .int (nI j_5))]) hx hb dM_falls_40 hl (by decide) rfl (fun ls hl => ?_)
        refine lv_aload_n hx hb dM_falls_42 rfl (lv_at hl 1 rfl) ?_
        refine lv_iload_n hx hb dM_falls_43 rfl (lv_at hl 3 rfl) ?_
        refine lv_iload_n hx hb dM_falls_44 rfl (lv_at hl 4 rfl) ?_
        refine lv_iconst (v := nI 0) hx hb dM_falls_45 (by decide) ?_
        refine cj_cvi X V (c_M_shareOf l D kd ad hn how j_3 j_5 false (by omega) (by have := hed j_3 (by omega); omega) (by omega)) 0 2 rfl rfl rfl ml_M_72 im_M_shareOf se_M_shareOf in_M cd_M_shareOf hd_M_shareOf ⟨by decide, by decide⟩ ⟨Nat.le_refl _, Nat.le_refl _⟩ hl.1 rfl (Nat.le_of_ble_eq_true rfl) dM_falls_46 (fun r_9 u_9 H locs hw V => ?_)
        obtain rfl := hw
        have f_q_8 := cj_shr_le (ow := ow) (ge := ge) (hz := hz) (j := j_3) (o := j_5) (b := false) (hn (ed j_3))
        refine lv_istore (lv' := [(5, .int (nI (cj_shr n ow ge ed hz j_3 j_5 false))), (4, .int (nI (cj_shr n ow ge ed hz j_1 j_5 false))), (0, .ref (ad 0)), (1, .int (nI j_1)), (2, .int (nI j_3)), (3, .int (nI j_5))]) hx hb dM_falls_49 hl (by decide) rfl (fun ls hl => ?_)
        refine lv_iload hx hb dM_falls_51 (lv_at hl 1 rfl) ?_
        refine cj_z_eq (tgt := 61) hx hb dM_falls_53 (by decide) (by omega) (fun c_9 => ?_) (fun c_9 => ?_)
        ·
          refine lv_iconst (v := (-1)) hx hb dM_falls_61 (by decide) ?_
          exact cj_reti () X hr V (by simp only [f_fallsM, ij_1, ij_3, ij_5]; (first | rw [if_pos c_9] | rw [if_neg c_9] | rw [if_pos (by omega)] | rw [if_neg (by omega)])) dM_falls_62
        ·
          refine lv_iload hx hb dM_falls_56 (lv_at hl 0 rfl) ?_
          refine cj_z_ne (tgt := 63) hx hb dM_falls_58 (by decide) (by omega) (fun c_10 => ?_) (fun c_10 => ?_)
          ·
            refine lv_aload_n hx hb dM_falls_63 rfl (lv_at hl 2 rfl) ?_
            refine lv_iload_n hx hb dM_falls_64 rfl (lv_at hl 3 rfl) ?_
            refine lv_iload_n hx hb dM_falls_65 rfl (lv_at hl 5 rfl) ?_
            refine lv_iconst (v := nI 1) hx hb dM_falls_66 (by decide) ?_
            refine cj_cvi X V (c_M_shareOf l D kd ad hn how j_1 j_5 true (by omega) (by have := hed j_1 (by omega); omega) (by omega)) 0 2 rfl rfl rfl ml_M_72 im_M_shareOf se_M_shareOf in_M cd_M_shareOf hd_M_shareOf ⟨by decide, by decide⟩ ⟨Nat.le_refl _, Nat.le_refl _⟩ hl.1 rfl (Nat.le_of_ble_eq_true rfl) dM_falls_67 (fun r_9 u_9 H locs hw V => ?_)
            obtain rfl := hw
            have f_q_11 := cj_shr_le (ow := ow) (ge := ge) (hz := hz) (j := j_1) (o := j_5) (b := true) (hn (ed j_1))
            refine lv_iload hx hb dM_falls_70 (lv_at hl 0 rfl) ?_
            refine cj_imulN hx hb dM_falls_72 ?_
            refine lv_aload_n hx hb dM_falls_73 rfl (lv_at hl 2 rfl) ?_
            refine lv_iload_n hx hb dM_falls_74 rfl (lv_at hl 4 rfl) ?_
            refine lv_iload_n hx hb dM_falls_75 rfl (lv_at hl 5 rfl) ?_
            refine lv_iconst (v := nI 1) hx hb dM_falls_76 (by decide) ?_
            refine cj_cvi X V (c_M_shareOf l D kd ad hn how j_3 j_5 true (by omega) (by have := hed j_3 (by omega); omega) (by omega)) 0 2 rfl rfl rfl ml_M_72 im_M_shareOf se_M_shareOf in_M cd_M_shareOf hd_M_shareOf ⟨by decide, by decide⟩ ⟨Nat.le_refl _, Nat.le_refl _⟩ hl.1 rfl (Nat.le_of_ble_eq_true rfl) dM_falls_77 (fun r_9 u_9 H locs hw V => ?_)
            obtain rfl := hw
            have f_q_12 := cj_shr_le (ow := ow) (ge := ge) (hz := hz) (j := j_3) (o := j_5) (b := true) (hn (ed j_3))
            refine lv_iload hx hb dM_falls_80 (lv_at hl 1 rfl) ?_
            refine cj_imulN hx hb dM_falls_82 ?_
            have g_0 : (cj_shr n ow ge ed hz j_3 j_5 true) * (cj_shr n ow ge ed hz j_1 j_5 false) ≤ 40 * 40 := Nat.mul_le_mul (by assumption) (by assumption)
            have g_1 : (cj_shr n ow ge ed hz j_1 j_5 true) * (cj_shr n ow ge ed hz j_3 j_5 false) ≤ 40 * 40 := Nat.mul_le_mul (by assumption) (by assumption)
            refine cj_n_ge (tgt := 90) hx hb dM_falls_83 (by decide) (by omega) (by omega) (fun c_13 => ?_) (fun c_13 => ?_)
            ·
              refine lv_iconst (v := nI 0) hx hb dM_falls_90 (by decide) ?_
              exact cj_reti () X hr V (by simp only [f_fallsM, ij_1, ij_3, ij_5]; (first | rw [if_pos c_9] | rw [if_neg c_9] | rw [if_pos (by omega)] | rw [if_neg (by omega)]); (first | rw [if_pos c_10] | rw [if_neg c_10] | rw [if_pos (by omega)] | rw [if_neg (by omega)]); (first | rw [if_pos c_13] | rw [if_neg c_13] | rw [if_pos (by omega)] | rw [if_neg (by omega)])) dM_falls_91
            ·
              refine lv_iconst (v := nI 1) hx hb dM_falls_86 (by decide) ?_
              refine lv_goto (tgt := 91) hx hb dM_falls_87 (by decide) ?_
              exact cj_reti () X hr V (by simp only [f_fallsM, ij_1, ij_3, ij_5]; (first | rw [if_pos c_9] | rw [if_neg c_9] | rw [if_pos (by omega)] | rw [if_neg (by omega)]); (first | rw [if_pos c_10] | rw [if_neg c_10] | rw [if_pos (by omega)] | rw [if_neg (by omega)]); (first | rw [if_pos c_13] | rw [if_neg c_13] | rw [if_pos (by omega)] | rw [if_neg (by omega)])) dM_falls_91
          ·
            refine lv_iconst (v := (-1)) hx hb dM_falls_61 (by decide) ?_
            exact cj_reti () X hr V (by simp only [f_fallsM, ij_1, ij_3, ij_5]; (first | rw [if_pos c_9] | rw [if_neg c_9] | rw [if_pos (by omega)] | rw [if_neg (by omega)]); (first | rw [if_pos c_10] | rw [if_neg c_10] | rw [if_pos (by omega)] | rw [if_neg (by omega)])) dM_falls_62
      ·
        have ij_5 := cj_ix_f hj_5
        refine lv_if_ne (tgt := 33) hx hb dM_falls_27 (by decide) (fun h => absurd (by decide) h) (fun _ => ?_)
        refine lv_bipush (v := (-2)) hx hb dM_falls_30 (by decide) ?_
        exact cj_reti () X hr V (by simp only [f_fallsM, ij_1, ij_3, ij_5]) dM_falls_32
    ·
      have ij_3 := cj_ix_f hj_3
      refine lv_if_eq (tgt := 30) hx hb dM_falls_19 (by decide) (fun _ => ?_) (fun h => absurd (by decide) h)
      refine lv_bipush (v := (-2)) hx hb dM_falls_30 (by decide) ?_
      exact cj_reti () X hr V (by simp only [f_fallsM, ij_1, ij_3]) dM_falls_32
  ·
    have ij_1 := cj_ix_f hj_1
    refine lv_if_eq (tgt := 30) hx hb dM_falls_8 (by decide) (fun _ => ?_) (fun h => absurd (by decide) h)
    refine lv_bipush (v := (-2)) hx hb dM_falls_30 (by decide) ?_
    exact cj_reti () X hr V (by simp only [f_fallsM, ij_1]) dM_falls_32
set_option maxRecDepth 100000 in
set_option maxHeartbeats 4000000 in
theorem lp_M_dead {p : Program} {l : Launch} {e : Env} {s : State} {m : MethodId} {args : Array Value} {below : List Frame} {meth : Method} {c : Code} {Q : State → Prop} {D : va_G} {kd : Nat → ClassId} {A : Nat → Prop} {H0 : Heap} {ad : Nat → Nat} {E : Nat} {rn : Nat} {ch : Int32} {n : Nat → Nat} {con : Nat → Int32} {ow : Nat → Nat} {ge : Nat → Bool} {cl : Nat → Bool} {ed : Nat → Nat} {co : Nat → Nat} {hz : Nat → Int64} {lo : Nat → Nat} {pr : Nat → Int32} (X : cj_X p s m args c meth cM_dead 6 RM D kd) (hR : rn ≤ 14) (ea : Nat) (he : ea < 8) (hed : ∀ r, r < rn → ed r < 8) : ∀ (d i : Nat) (H : Heap) (locs : List Loc) (ls : Array Slot), i + d = rn → cj_V D A H0 (wM kd ad E rn ch n con ow ge cl ed co hz lo pr) H locs → lv_has ls 6 [(5, .int (nI i)), (2, .int (cj_dd ed hz ea i)), (3, .long (cj_sn ed hz ea i)), (0, .ref (ad 0)), (1, .int (nI ea))] → (∀ (H : Heap) (locs : List Loc) (ls : Array Slot), cj_V D A H0 (wM kd ad E rn ch n con ow ge cl ed co hz lo pr) H locs → lv_has ls 6 [(5, .int (nI rn)), (2, .int (cj_dd ed hz ea rn)), (3, .long (cj_sn ed hz ea rn)), (0, .ref (ad 0)), (1, .int (nI ea))] → W p l e (cj_rm 0) s m args below meth c H locs 0 0 Q (F0 m 72 ls [])) → W p l e (cj_rm 0) s m args below meth c H locs 0 0 Q (F0 m 7 ls []) := by
  obtain ⟨⟨hx, hb, hml, hown, hts⟩, hK, hlk⟩ := id X
  intro d
  induction d with
  | zero =>
    intro i H locs ls hi V hl kont
    refine lv_iload hx hb dM_dead_7 (lv_at hl 0 rfl) ?_
    refine lv_aload_n hx hb dM_dead_9 rfl (lv_at hl 3 rfl) ?_
    refine gM 1 X V fl_M_50 (by decide) rfl dM_dead_10 ?_
    refine cj_n_ge (tgt := 72) hx hb dM_dead_13 (by decide) (by omega) (by omega) (fun c_1 => ?_) (fun c_1 => ?_)
    ·
      obtain rfl : i = rn := by omega
      exact kont _ _ _ V (lv_sub hl [0, 1, 2, 3, 4] rfl)
    ·
      exact absurd c_1 (by omega)
  | succ d ih =>
    intro i H locs ls hi V hl kont
    refine lv_iload hx hb dM_dead_7 (lv_at hl 0 rfl) ?_
    refine lv_aload_n hx hb dM_dead_9 rfl (lv_at hl 3 rfl) ?_
    refine gM 1 X V fl_M_50 (by decide) rfl dM_dead_10 ?_
    refine cj_n_ge (tgt := 72) hx hb dM_dead_13 (by decide) (by omega) (by omega) (fun c_1 => ?_) (fun c_1 => ?_)
    ·
      exact absurd c_1 (by omega)
    ·
      refine lv_aload_n hx hb dM_dead_16 rfl (lv_at hl 3 rfl) ?_
      refine gM 8 X V fl_M_26 (by decide) rfl dM_dead_17 ?_
      refine lv_iload hx hb dM_dead_20 (lv_at hl 0 rfl) ?_
      refine rM_ed X V (by omega) dM_dead_22 ?_
      have f_e_2 := hed i (by omega)
      refine lv_iload_n hx hb dM_dead_23 rfl (lv_at hl 4 rfl) ?_
      refine cj_n_ne (tgt := 66) hx hb dM_dead_24 (by decide) (by omega) (by omega) (fun c_3 => ?_) (fun c_3 => ?_)
      ·
        refine lv_iinc (v := nI (i + 1)) (lv' := [(5, .int (nI (i + 1))), (2, .int (cj_dd ed hz ea i)), (3, .long (cj_sn ed hz ea i)), (0, .ref (ad 0)), (1, .int (nI ea))]) hx hb dM_dead_66 hl (k := 0) rfl (cj_inc _) (by decide) rfl (fun ls hl => ?_)
        refine lv_goto (tgt := 7) hx hb dM_dead_69 (by decide) ?_
        exact ih (i + 1) _ _ ls (by omega) V (lv_sub hl [0, 1, 2, 3, 4] (by rw [cj_dd_f c_3, cj_sn_f c_3]; rfl)) kont
      ·
        refine lv_iload_n hx hb dM_dead_27 rfl (lv_at hl 1 rfl) ?_
        refine lv_aload_n hx hb dM_dead_28 rfl (lv_at hl 3 rfl) ?_
        refine gM 10 X V fl_M_32 (by decide) rfl dM_dead_29 ?_
        refine lv_iload hx hb dM_dead_32 (lv_at hl 0 rfl) ?_
        refine rM_hi X V (by omega) dM_dead_34 ?_
        refine lv_lload_n hx hb dM_dead_35 rfl (lv_at hl 2 rfl) ?_
        refine lv_ldc2 hx hb hown (hts _ kl_M_76) dM_dead_36 ?_
        refine lv_lxor hx hb dM_dead_39 ?_
        refine lv_land hx hb dM_dead_40 ?_
        refine lv_lconst (v := 0) hx hb dM_dead_41 (by decide) ?_
        refine cj_l_ne (tgt := 53) hx hb dM_dead_42 dM_dead_43 (by decide) (fun c_4 => ?_) (fun c_4 => ?_)
        ·
          refine lv_iconst (v := nI 0) hx hb dM_dead_53 (by decide) ?_
          refine lv_ior hx hb dM_dead_54 ?_
          refine lv_istore_n (lv' := [(2, .int ((cj_dd ed hz ea i) ||| (nI 0))), (5, .int (nI i)), (3, .long (cj_sn ed hz ea i)), (0, .ref (ad 0)), (1, .int (nI ea))]) hx hb dM_dead_55 rfl hl (by decide) rfl (fun ls hl => ?_)
          refine lv_lload_n hx hb dM_dead_56 rfl (lv_at hl 2 rfl) ?_
          refine lv_aload_n hx hb dM_dead_57 rfl (lv_at hl 3 rfl) ?_
          refine gM 10 X V fl_M_32 (by decide) rfl dM_dead_58 ?_
          refine lv_iload hx hb dM_dead_61 (lv_at hl 1 rfl) ?_
          refine rM_hi X V (by omega) dM_dead_63 ?_
          refine lv_lor hx hb dM_dead_64 ?_
          refine lv_lstore_n (lv' := [(3, .long ((cj_sn ed hz ea i) ||| (hz i))), (2, .int ((cj_dd ed hz ea i) ||| (nI 0))), (5, .int (nI i)), (0, .ref (ad 0)), (1, .int (nI ea))]) hx hb dM_dead_65 rfl hl (by decide) rfl (fun ls hl => ?_)
          refine lv_iinc (v := nI (i + 1)) (lv' := [(5, .int (nI (i + 1))), (3, .long ((cj_sn ed hz ea i) ||| (hz i))), (2, .int ((cj_dd ed hz ea i) ||| (nI 0))), (0, .ref (ad 0)), (1, .int (nI ea))]) hx hb dM_dead_66 hl (k := 2) rfl (cj_inc _) (by decide) rfl (fun ls hl => ?_)
          refine lv_goto (tgt := 7) hx hb dM_dead_69 (by decide) ?_
          exact ih (i + 1) _ _ ls (by omega) V (lv_sub hl [0, 2, 1, 3, 4] (by rw [cj_dd_1 c_3 c_4, cj_sn_t c_3, cj_or0]; rfl)) kont
        ·
          refine lv_iconst (v := nI 1) hx hb dM_dead_46 (by decide) ?_
          refine lv_iload hx hb dM_dead_47 (lv_at hl 0 rfl) ?_
          refine lv_ishl hx hb dM_dead_49 ?_
          refine lv_goto (tgt := 54) hx hb dM_dead_50 (by decide) ?_
          refine lv_ior hx hb dM_dead_54 ?_
          refine lv_istore_n (lv' := [(2, .int ((cj_dd ed hz ea i) ||| ((nI 1) <<< ((nI i) &&& 31)))), (5, .int (nI i)), (3, .long (cj_sn ed hz ea i)), (0, .ref (ad 0)), (1, .int (nI ea))]) hx hb dM_dead_55 rfl hl (by decide) rfl (fun ls hl => ?_)
          refine lv_lload_n hx hb dM_dead_56 rfl (lv_at hl 2 rfl) ?_
          refine lv_aload_n hx hb dM_dead_57 rfl (lv_at hl 3 rfl) ?_
          refine gM 10 X V fl_M_32 (by decide) rfl dM_dead_58 ?_
          refine lv_iload hx hb dM_dead_61 (lv_at hl 1 rfl) ?_
          refine rM_hi X V (by omega) dM_dead_63 ?_
          refine lv_lor hx hb dM_dead_64 ?_
          refine lv_lstore_n (lv' := [(3, .long ((cj_sn ed hz ea i) ||| (hz i))), (2, .int ((cj_dd ed hz ea i) ||| ((nI 1) <<< ((nI i) &&& 31)))), (5, .int (nI i)), (0, .ref (ad 0)), (1, .int (nI ea))]) hx hb dM_dead_65 rfl hl (by decide) rfl (fun ls hl => ?_)
          refine lv_iinc (v := nI (i + 1)) (lv' := [(5, .int (nI (i + 1))), (3, .long ((cj_sn ed hz ea i) ||| (hz i))), (2, .int ((cj_dd ed hz ea i) ||| ((nI 1) <<< ((nI i) &&& 31)))), (0, .ref (ad 0)), (1, .int (nI ea))]) hx hb dM_dead_66 hl (k := 2) rfl (cj_inc _) (by decide) rfl (fun ls hl => ?_)
          refine lv_goto (tgt := 7) hx hb dM_dead_69 (by decide) ?_
          exact ih (i + 1) _ _ ls (by omega) V (lv_sub hl [0, 2, 1, 3, 4] (by rw [cj_dd_0 c_3 c_4, cj_sn_t c_3]; rfl)) kont
set_option maxRecDepth 100000 in
set_option maxHeartbeats 4000000 in
theorem lp_M_dead0 {p : Program} {l : Launch} {e : Env} {s : State} {m : MethodId} {args : Array Value} {below : List Frame} {meth : Method} {c : Code} {Q : State → Prop} {D : va_G} {kd : Nat → ClassId} {A : Nat → Prop} {H0 : Heap} {ad : Nat → Nat} {E : Nat} {rn : Nat} {ch : Int32} {n : Nat → Nat} {con : Nat → Int32} {ow : Nat → Nat} {ge : Nat → Bool} {cl : Nat → Bool} {ed : Nat → Nat} {co : Nat → Nat} {hz : Nat → Int64} {lo : Nat → Nat} {pr : Nat → Int32} (X : cj_X p s m args c meth cM_dead 6 RM D kd) (hR : rn ≤ 14) (x : Int32) (hno : ∀ r, r < rn → ¬ nI (ed r) = x) : ∀ (d i : Nat) (H : Heap) (locs : List Loc) (ls : Array Slot), i + d = rn → cj_V D A H0 (wM kd ad E rn ch n con ow ge cl ed co hz lo pr) H locs → lv_has ls 6 [(5, .int (nI i)), (2, .int (nI 0)), (3, .long 0), (0, .ref (ad 0)), (1, .int x)] → (∀ (H : Heap) (locs : List Loc) (ls : Array Slot), cj_V D A H0 (wM kd ad E rn ch n con ow ge cl ed co hz lo pr) H locs → lv_has ls 6 [(5, .int (nI rn)), (2, .int (nI 0)), (3, .long 0), (0, .ref (ad 0)), (1, .int x)] → W p l e (cj_rm 0) s m args below meth c H locs 0 0 Q (F0 m 72 ls [])) → W p l e (cj_rm 0) s m args below meth c H locs 0 0 Q (F0 m 7 ls []) := by
  obtain ⟨⟨hx, hb, hml, hown, hts⟩, hK, hlk⟩ := id X
  intro d
  induction d with
  | zero =>
    intro i H locs ls hi V hl kont
    refine lv_iload hx hb dM_dead_7 (lv_at hl 0 rfl) ?_
    refine lv_aload_n hx hb dM_dead_9 rfl (lv_at hl 3 rfl) ?_
    refine gM 1 X V fl_M_50 (by decide) rfl dM_dead_10 ?_
    refine cj_n_ge (tgt := 72) hx hb dM_dead_13 (by decide) (by omega) (by omega) (fun c_1 => ?_) (fun c_1 => ?_)
    ·
      obtain rfl : i = rn := by omega
      exact kont _ _ _ V (lv_sub hl [0, 1, 2, 3, 4] rfl)
    ·
      exact absurd c_1 (by omega)
  | succ d ih =>
    intro i H locs ls hi V hl kont
    refine lv_iload hx hb dM_dead_7 (lv_at hl 0 rfl) ?_
    refine lv_aload_n hx hb dM_dead_9 rfl (lv_at hl 3 rfl) ?_
    refine gM 1 X V fl_M_50 (by decide) rfl dM_dead_10 ?_
    refine cj_n_ge (tgt := 72) hx hb dM_dead_13 (by decide) (by omega) (by omega) (fun c_1 => ?_) (fun c_1 => ?_)
    ·
      exact absurd c_1 (by omega)
    ·
      refine lv_aload_n hx hb dM_dead_16 rfl (lv_at hl 3 rfl) ?_
      refine gM 8 X V fl_M_26 (by decide) rfl dM_dead_17 ?_
      refine lv_iload hx hb dM_dead_20 (lv_at hl 0 rfl) ?_
      refine rM_ed X V (by omega) dM_dead_22 ?_
      refine lv_iload_n hx hb dM_dead_23 rfl (lv_at hl 4 rfl) ?_
      refine lv_icmp_ne (tgt := 66) hx hb dM_dead_24 (by decide) (fun c_2 => ?_) (fun c_2 => ?_)
      ·
        refine lv_iinc (v := nI (i + 1)) (lv' := [(5, .int (nI (i + 1))), (2, .int (nI 0)), (3, .long 0), (0, .ref (ad 0)), (1, .int x)]) hx hb dM_dead_66 hl (k := 0) rfl (cj_inc _) (by decide) rfl (fun ls hl => ?_)
        refine lv_goto (tgt := 7) hx hb dM_dead_69 (by decide) ?_
        exact ih (i + 1) _ _ ls (by omega) V (lv_sub hl [0, 1, 2, 3, 4] rfl) kont
      ·
        exact absurd c_2 (hno i (by omega))
set_option maxRecDepth 100000 in
set_option maxHeartbeats 4000000 in
theorem c_M_dead (l : Launch) (D : va_G) (kd : Nat → ClassId) (ad : Nat → Nat) {E : Nat} {rn : Nat} {ch : Int32} {n : Nat → Nat} {con : Nat → Int32} {ow : Nat → Nat} {ge : Nat → Bool} {cl : Nat → Bool} {ed : Nat → Nat} {co : Nat → Nat} {hz : Nat → Int64} {lo : Nat → Nat} {pr : Nat → Int32} (hE : E ≤ 8) (hn : ∀ i, n i ≤ 40) (hR : rn ≤ 14) (hed : ∀ r, r < rn → ed r < E) (hco : ∀ r, co r ≤ 100000) (x : Int32) : cj_Mi (S := Unit) l yM_dead cM_dead 6 (some .int) 0 D kd [.ref (ad 0), .int x] (wM kd ad E rn ch n con ow ge cl ed co hz lo pr) (fun r _ => r = f_dead E rn ed hz x) (fun _ => wM kd ad E rn ch n con ow ge cl ed co hz lo pr) := by
  refine cj_ofi (by decide) (Nat.le_of_ble_eq_true rfl) ?_
  intro p e s m below meth c A ls X hr V hl
  obtain ⟨⟨hx, hb, hml, hown, hts⟩, hK, hlk⟩ := id X
  have hl : lv_has ls 6 [(0, .ref (ad 0)), (1, .int x)] := hl
  refine lv_iconst (v := nI 0) hx hb dM_dead_0 (by decide) ?_
  refine lv_istore_n (lv' := [(2, .int (nI 0)), (0, .ref (ad 0)), (1, .int x)]) hx hb dM_dead_1 rfl hl (by decide) rfl (fun ls hl => ?_)
  refine lv_lconst (v := 0) hx hb dM_dead_2 (by decide) ?_
  refine lv_lstore_n (lv' := [(3, .long 0), (2, .int (nI 0)), (0, .ref (ad 0)), (1, .int x)]) hx hb dM_dead_3 rfl hl (by decide) rfl (fun ls hl => ?_)
  refine lv_iconst (v := nI 0) hx hb dM_dead_4 (by decide) ?_
  refine lv_istore (lv' := [(5, .int (nI 0)), (3, .long 0), (2, .int (nI 0)), (0, .ref (ad 0)), (1, .int x)]) hx hb dM_dead_5 hl (by decide) rfl (fun ls hl => ?_)
  by_cases hxe : cj_in x E
  ·
    obtain ⟨ea, hea, rfl⟩ := hxe
    have ix := cj_ix_t hea (show E < 2 ^ 31 by omega)
    refine lp_M_dead X hR ea (by omega) (fun r h => by have := hed r h; omega) rn 0 _ _ ls (by omega) V (lv_sub hl [0, 2, 1, 3, 4] rfl) (fun H locs ls V hl => ?_)
    refine lv_iload_n hx hb dM_dead_72 rfl (lv_at hl 1 rfl) ?_
    exact cj_reti () X hr V (by simp only [f_dead, ix]) dM_dead_73
  ·
    have ix := cj_ix_f hxe
    refine lp_M_dead0 X hR x (fun r h e => hxe ⟨ed r, hed r h, e.symm⟩) rn 0 _ _ ls (by omega) V (lv_sub hl [0, 2, 1, 3, 4] rfl) (fun H locs ls V hl => ?_)
    refine lv_iload_n hx hb dM_dead_72 rfl (lv_at hl 1 rfl) ?_
    exact cj_reti () X hr V (by simp only [f_dead, ix]) dM_dead_73
set_option maxRecDepth 100000 in
set_option maxHeartbeats 4000000 in
theorem lp_M_about {p : Program} {l : Launch} {e : Env} {s : State} {m : MethodId} {args : Array Value} {below : List Frame} {meth : Method} {c : Code} {Q : State → Prop} {D : va_G} {kd : Nat → ClassId} {A : Nat → Prop} {H0 : Heap} {ad : Nat → Nat} {E : Nat} {rn : Nat} {ch : Int32} {n : Nat → Nat} {con : Nat → Int32} {ow : Nat → Nat} {ge : Nat → Bool} {cl : Nat → Bool} {ed : Nat → Nat} {co : Nat → Nat} {hz : Nat → Int64} {lo : Nat → Nat} {pr : Nat → Int32} (X : cj_X p s m args c meth cM_about 5 RM D kd) (j : Nat) (hj : j < 14) (y : Int32) : ∀ (d i : Nat) (H : Heap) (locs : List Loc) (ls : Array Slot), i + d = 40 → cj_V D A H0 (wM kd ad E rn ch n con ow ge cl ed co hz lo pr) H locs → lv_has ls 5 [(4, .int (nI i)), (3, .int (nI (cj_cnt (cj_tb (hz j)) i))), (0, .ref (ad 0)), (1, .int (nI j)), (2, .int y)] → (∀ (H : Heap) (locs : List Loc) (ls : Array Slot), cj_V D A H0 (wM kd ad E rn ch n con ow ge cl ed co hz lo pr) H locs → lv_has ls 5 [(4, .int (nI 40)), (3, .int (nI (cj_cnt (cj_tb (hz j)) 40))), (0, .ref (ad 0)), (1, .int (nI j)), (2, .int y)] → W p l e (cj_rm 1) s m args below meth c H locs 0 0 Q (F0 m 60 ls [])) → W p l e (cj_rm 1) s m args below meth c H locs 0 0 Q (F0 m 29 ls []) := by
  obtain ⟨⟨hx, hb, hml, hown, hts⟩, hK, hlk⟩ := id X
  intro d
  induction d with
  | zero =>
    intro i H locs ls hi V hl kont
    refine lv_iload hx hb dM_about_29 (lv_at hl 0 rfl) ?_
    refine lv_bipush (v := nI 40) hx hb dM_about_31 (by decide) ?_
    refine cj_n_ge (tgt := 60) hx hb dM_about_33 (by decide) (by omega) (by omega) (fun c_1 => ?_) (fun c_1 => ?_)
    ·
      obtain rfl : i = 40 := by omega
      exact kont _ _ _ V (lv_sub hl [0, 1, 2, 3, 4] rfl)
    ·
      exact absurd c_1 (by omega)
  | succ d ih =>
    intro i H locs ls hi V hl kont
    refine lv_iload hx hb dM_about_29 (lv_at hl 0 rfl) ?_
    refine lv_bipush (v := nI 40) hx hb dM_about_31 (by decide) ?_
    refine cj_n_ge (tgt := 60) hx hb dM_about_33 (by decide) (by omega) (by omega) (fun c_1 => ?_) (fun c_1 => ?_)
    ·
      exact absurd c_1 (by omega)
    ·
      refine lv_iload_n hx hb dM_about_36 rfl (lv_at hl 1 rfl) ?_
      refine lv_aload_n hx hb dM_about_37 rfl (lv_at hl 2 rfl) ?_
      refine lv_iload_n hx hb dM_about_38 rfl (lv_at hl 3 rfl) ?_
      refine lv_iload hx hb dM_about_39 (lv_at hl 0 rfl) ?_
      refine cj_cvi X V (c_M_isHit l D kd ad j i (by omega) (by omega)) 0 2 rfl rfl rfl ml_M_61 im_M_isHit se_M_isHit in_M cd_M_isHit hd_M_isHit ⟨by decide, by decide⟩ ⟨Nat.le_refl _, Nat.le_refl _⟩ hl.1 rfl (Nat.le_of_ble_eq_true rfl) dM_about_41 (fun r_9 u_9 H locs hw V => ?_)
      obtain rfl := hw
      refine cj_b_eq (tgt := 51) hx hb dM_about_44 (by decide) (fun c_2 => ?_) (fun c_2 => ?_)
      ·
        refine lv_iconst (v := nI 0) hx hb dM_about_51 (by decide) ?_
        refine cj_iaddN hx hb dM_about_52 ?_
        refine lv_istore_n (lv' := [(3, .int (nI ((cj_cnt (cj_tb (hz j)) i) + 0))), (4, .int (nI i)), (0, .ref (ad 0)), (1, .int (nI j)), (2, .int y)]) hx hb dM_about_53 rfl hl (by decide) rfl (fun ls hl => ?_)
        refine lv_iinc (v := nI (i + 1)) (lv' := [(4, .int (nI (i + 1))), (3, .int (nI ((cj_cnt (cj_tb (hz j)) i) + 0))), (0, .ref (ad 0)), (1, .int (nI j)), (2, .int y)]) hx hb dM_about_54 hl (k := 1) rfl (cj_inc _) (by decide) rfl (fun ls hl => ?_)
        refine lv_goto (tgt := 29) hx hb dM_about_57 (by decide) ?_
        exact ih (i + 1) _ _ ls (by omega) V (lv_sub hl [0, 1, 2, 3, 4] (by rw [cj_cs_f c_2]; rfl)) kont
      ·
        refine lv_iconst (v := nI 1) hx hb dM_about_47 (by decide) ?_
        refine lv_goto (tgt := 52) hx hb dM_about_48 (by decide) ?_
        refine cj_iaddN hx hb dM_about_52 ?_
        refine lv_istore_n (lv' := [(3, .int (nI ((cj_cnt (cj_tb (hz j)) i) + 1))), (4, .int (nI i)), (0, .ref (ad 0)), (1, .int (nI j)), (2, .int y)]) hx hb dM_about_53 rfl hl (by decide) rfl (fun ls hl => ?_)
        refine lv_iinc (v := nI (i + 1)) (lv' := [(4, .int (nI (i + 1))), (3, .int (nI ((cj_cnt (cj_tb (hz j)) i) + 1))), (0, .ref (ad 0)), (1, .int (nI j)), (2, .int y)]) hx hb dM_about_54 hl (k := 1) rfl (cj_inc _) (by decide) rfl (fun ls hl => ?_)
        refine lv_goto (tgt := 29) hx hb dM_about_57 (by decide) ?_
        exact ih (i + 1) _ _ ls (by omega) V (lv_sub hl [0, 1, 2, 3, 4] (by rw [cj_cs_t c_2]; rfl)) kont
set_option maxRecDepth 100000 in
set_option maxHeartbeats 4000000 in
theorem c_M_about (l : Launch) (D : va_G) (kd : Nat → ClassId) (ad : Nat → Nat) {E : Nat} {rn : Nat} {ch : Int32} {n : Nat → Nat} {con : Nat → Int32} {ow : Nat → Nat} {ge : Nat → Bool} {cl : Nat → Bool} {ed : Nat → Nat} {co : Nat → Nat} {hz : Nat → Int64} {lo : Nat → Nat} {pr : Nat → Int32} (hE : E ≤ 8) (hn : ∀ i, n i ≤ 40) (hR : rn ≤ 14) (hed : ∀ r, r < rn → ed r < E) (hco : ∀ r, co r ≤ 100000) (hhz : ∀ r, r < rn → ∀ i, 40 ≤ i → cj_tb (hz r) i = false) (x y : Int32) : cj_Mi (S := Unit) l yM_about cM_about 5 (some .int) 1 D kd [.ref (ad 0), .int x, .int y] (wM kd ad E rn ch n con ow ge cl ed co hz lo pr) (fun r _ => r = f_about rn ed co hz x y) (fun _ => wM kd ad E rn ch n con ow ge cl ed co hz lo pr) := by
  refine cj_ofi (by decide) (Nat.le_of_ble_eq_true rfl) ?_
  intro p e s m below meth c A ls X hr V hl
  obtain ⟨⟨hx, hb, hml, hown, hts⟩, hK, hlk⟩ := id X
  have hl : lv_has ls 5 [(0, .ref (ad 0)), (1, .int x), (2, .int y)] := hl
  refine lv_iload_n hx hb dM_about_0 rfl (lv_at hl 1 rfl) ?_
  refine lv_aload_n hx hb dM_about_1 rfl (lv_at hl 0 rfl) ?_
  refine gM 1 X V fl_M_50 (by decide) rfl dM_about_2 ?_
  refine cj_csi X V (c_M_in l D kd ad x rn (by omega)) ml_M_46 st_M_in in_M cd_M_in hd_M_in ⟨by decide, by decide⟩ ⟨Nat.le_refl _, Nat.le_refl _⟩ hl.1 rfl (Nat.le_of_ble_eq_true rfl) dM_about_5 (fun r_9 u_9 H locs hw V => ?_)
  rcases hw with ⟨rfl, j_1, hj_1, rfl⟩ | ⟨rfl, hj_1⟩
  ·
    have ij_1 := cj_ix_t hj_1 (show rn < 2 ^ 31 by omega)
    refine lv_if_ne (tgt := 13) hx hb dM_about_8 (by decide) (fun _ => ?_) (fun h => absurd h (by decide))
    refine lv_iload_n hx hb dM_about_13 rfl (lv_at hl 2 rfl) ?_
    refine lv_if_ne (tgt := 24) hx hb dM_about_14 (by decide) (fun c_3 => ?_) (fun c_3 => ?_)
    ·
      refine lv_iconst (v := nI 0) hx hb dM_about_24 (by decide) ?_
      refine lv_istore_n (lv' := [(3, .int (nI 0)), (0, .ref (ad 0)), (1, .int (nI j_1)), (2, .int y)]) hx hb dM_about_25 rfl hl (by decide) rfl (fun ls hl => ?_)
      refine lv_iconst (v := nI 0) hx hb dM_about_26 (by decide) ?_
      refine lv_istore (lv' := [(4, .int (nI 0)), (3, .int (nI 0)), (0, .ref (ad 0)), (1, .int (nI j_1)), (2, .int y)]) hx hb dM_about_27 hl (by decide) rfl (fun ls hl => ?_)
      refine lp_M_about X j_1 (by omega) y 40 0 _ _ ls (by omega) V (lv_sub hl [0, 1, 2, 3, 4] rfl) (fun H locs ls V hl => ?_)
      refine lv_iload_n hx hb dM_about_60 rfl (lv_at hl 4 rfl) ?_
      refine lv_iconst (v := nI 1) hx hb dM_about_61 (by decide) ?_
      refine lv_icmp_ne (tgt := 74) hx hb dM_about_62 (by decide) (fun c_4 => ?_) (fun c_4 => ?_)
      ·
        refine lv_iload_n hx hb dM_about_74 rfl (lv_at hl 4 rfl) ?_
        refine lv_iconst (v := nI 2) hx hb dM_about_75 (by decide) ?_
        refine lv_icmp_ne (tgt := 83) hx hb dM_about_76 (by decide) (fun c_5 => ?_) (fun c_5 => ?_)
        ·
          refine lv_iconst (v := (-1)) hx hb dM_about_83 (by decide) ?_
          exact cj_reti () X hr V (by simp only [f_about, ij_1]; rw [if_neg (show ¬ y = nI 0 from c_3)]; rw [if_neg (show ¬ y = nI 1 from c_4)]; rw [if_neg (show ¬ y = nI 2 from c_5)]) dM_about_84
        ·
          refine lv_iload_n hx hb dM_about_79 rfl (lv_at hl 1 rfl) ?_
          refine lv_goto (tgt := 84) hx hb dM_about_80 (by decide) ?_
          exact cj_reti () X hr V (by simp only [f_about, ij_1]; rw [if_neg (show ¬ y = nI 0 from c_3)]; rw [if_neg (show ¬ y = nI 1 from c_4)]; rw [if_pos (show y = nI 2 from c_5)]; rw [cj_pop40 (hhz j_1 (by omega))]) dM_about_84
      ·
        refine lv_aload_n hx hb dM_about_65 rfl (lv_at hl 2 rfl) ?_
        refine gM 9 X V fl_M_29 (by decide) rfl dM_about_66 ?_
        refine lv_iload_n hx hb dM_about_69 rfl (lv_at hl 3 rfl) ?_
        refine rM_co X V (by omega) dM_about_70 ?_
        have f_e_6 := hco j_1
        refine lv_goto (tgt := 84) hx hb dM_about_71 (by decide) ?_
        exact cj_reti () X hr V (by simp only [f_about, ij_1]; rw [if_neg (show ¬ y = nI 0 from c_3)]; rw [if_pos (show y = nI 1 from c_4)]) dM_about_84
    ·
      refine lv_aload_n hx hb dM_about_17 rfl (lv_at hl 0 rfl) ?_
      refine gM 8 X V fl_M_26 (by decide) rfl dM_about_18 ?_
      refine lv_iload_n hx hb dM_about_21 rfl (lv_at hl 1 rfl) ?_
      refine rM_ed X V (by omega) dM_about_22 ?_
      have f_e_7 := hed j_1 (by omega)
      exact cj_reti () X hr V (by simp only [f_about, ij_1]; rw [if_pos (show y = nI 0 from c_3)]) dM_about_23
  ·
    have ij_1 := cj_ix_f hj_1
    refine lv_if_ne (tgt := 13) hx hb dM_about_8 (by decide) (fun h => absurd (by decide) h) (fun _ => ?_)
    refine lv_iconst (v := (-1)) hx hb dM_about_11 (by decide) ?_
    exact cj_reti () X hr V (by simp only [f_about, ij_1]) dM_about_12
end
section
-- PURE: the counts of pairs grow by at most one a line; the reference's choice is the class's
section CJP6
variable {a b : Nat → Int32} {h w : Nat}
theorem cj_lcs_ss (k q : Nat) : cj_lcs a b h w (k + 1) (q + 1) = if a (h - (k + 1)) = b (w - (q + 1)) then cj_lcs a b h w k q + 1 else max (cj_lcs a b h w k (q + 1)) (cj_lcs a b h w (k + 1) q) := rfl
theorem cj_lcs_0q (q : Nat) : cj_lcs a b h w 0 q = 0 := rfl
theorem cj_lcs4 : ∀ (s k q : Nat), k + q ≤ s → cj_lcs a b h w k q ≤ cj_lcs a b h w (k + 1) q ∧ cj_lcs a b h w k q ≤ cj_lcs a b h w k (q + 1) ∧ cj_lcs a b h w (k + 1) q ≤ cj_lcs a b h w k q + 1 ∧ cj_lcs a b h w k (q + 1) ≤ cj_lcs a b h w k q + 1 := by
  intro s
  induction s with
  | zero =>
    intro k q hs
    obtain rfl : k = 0 := by omega
    obtain rfl : q = 0 := by omega
    simp [cj_lcs_0q, cj_lcs_q0]
  | succ s ih =>
    intro k q hs
    refine ⟨?_, ?_, ?_, ?_⟩
    · cases q with
      | zero => rw [cj_lcs_q0, cj_lcs_q0]; exact Nat.le_refl _
      | succ q =>
        have h1 := (ih k q (by omega)).2.2.2
        rw [cj_lcs_ss]
        split <;> omega
    · cases k with
      | zero => rw [cj_lcs_0q]; exact Nat.zero_le _
      | succ k =>
        have h1 := (ih k q (by omega)).2.2.1
        rw [cj_lcs_ss]
        split <;> omega
    · cases q with
      | zero => rw [cj_lcs_q0]; exact Nat.zero_le _
      | succ q =>
        have h1 := ih k q (by omega)
        rw [cj_lcs_ss]
        split <;> omega
    · cases k with
      | zero => rw [cj_lcs_0q]; exact Nat.zero_le _
      | succ k =>
        have h1 := ih k q (by omega)
        rw [cj_lcs_ss]
        split <;> omega
theorem cj_T_d {i j : Nat} (hi : i < h) : cj_T a b h w (i + 1) j ≤ cj_T a b h w i j ∧ cj_T a b h w i j ≤ cj_T a b h w (i + 1) j + 1 := by
  unfold cj_T
  have h1 := cj_lcs4 (a := a) (b := b) (h := h) (w := w) _ (h - (i + 1)) (w - j) (Nat.le_refl _)
  rw [show h - (i + 1) + 1 = h - i by omega] at h1
  exact ⟨h1.1, h1.2.2.1⟩
theorem cj_T_r {i j : Nat} (hj : j < w) : cj_T a b h w i (j + 1) ≤ cj_T a b h w i j ∧ cj_T a b h w i j ≤ cj_T a b h w i (j + 1) + 1 := by
  unfold cj_T
  have h1 := cj_lcs4 (a := a) (b := b) (h := h) (w := w) _ (h - i) (w - (j + 1)) (Nat.le_refl _)
  rw [show w - (j + 1) + 1 = w - j by omega] at h1
  exact ⟨h1.2.1, h1.2.2.2⟩
theorem cj_T_anti {i : Nat} : ∀ (d j : Nat), j + d ≤ w → cj_T a b h w i (j + d) ≤ cj_T a b h w i j
  | 0, _, _ => Nat.le_refl _
  | d + 1, j, hd => Nat.le_trans (cj_T_r (show j + d < w by omega)).1 (cj_T_anti d j (by omega))
theorem cj_T_mono {i j j' : Nat} (h1 : j ≤ j') (h2 : j' ≤ w) : cj_T a b h w i j' ≤ cj_T a b h w i j := by
  have := cj_T_anti (a := a) (b := b) (h := h) (w := w) (i := i) (j' - j) j (by omega)
  rw [show j + (j' - j) = j' by omega] at this
  exact this
/-- the best of three, as the reference takes it -/
theorem cj_T_three {i j : Nat} (hi : i < h) (hj : j < w) : (a i = b j → cj_T a b h w i j = cj_T a b h w (i + 1) (j + 1) + 1 ∧ cj_T a b h w (i + 1) j ≤ cj_T a b h w (i + 1) (j + 1) + 1 ∧ cj_T a b h w i (j + 1) ≤ cj_T a b h w (i + 1) (j + 1) + 1) ∧ (¬ a i = b j → cj_T a b h w i j = max (cj_T a b h w (i + 1) j) (cj_T a b h w i (j + 1))) := by
  refine ⟨fun e => ⟨?_, (cj_T_r hj).2, (cj_T_d hi).2⟩, fun e => ?_⟩
  · rw [cj_T_step hi hj, if_pos e]
  · rw [cj_T_step hi hj, if_neg e]
/-- the least place from f on, of d, at which P -/
def cj_f2 (P : Nat → Bool) : Nat → Nat → Option Nat
  | 0, _ => none
  | d + 1, f => bif P f then some f else cj_f2 P d (f + 1)
theorem cj_f2_t {P : Nat → Bool} {d f : Nat} (hp : P f = true) : cj_f2 P (d + 1) f = some f := by
  show (bif P f then some f else cj_f2 P d (f + 1)) = _
  rw [hp]
  rfl
theorem cj_f2_f {P : Nat → Bool} {d f : Nat} (hp : P f = false) : cj_f2 P (d + 1) f = cj_f2 P d (f + 1) := by
  show (bif P f then some f else cj_f2 P d (f + 1)) = _
  rw [hp]
  rfl
theorem cj_f2_none {P : Nat → Bool} : ∀ {d f : Nat}, (∀ j, f ≤ j → j < f + d → P j = false) → cj_f2 P d f = none
  | 0, _, _ => rfl
  | d + 1, f, hh => by
    rw [cj_f2_f (hh f (Nat.le_refl _) (by omega))]
    exact cj_f2_none (fun j h1 h2 => hh j (by omega) (by omega))
theorem cj_f2_some {P : Nat → Bool} : ∀ {d f q : Nat}, f ≤ q → q < f + d → P q = true → (∀ j, f ≤ j → j < q → P j = false) → cj_f2 P d f = some q
  | 0, _, _, h1, h2, _, _ => by omega
  | d + 1, f, q, h1, h2, h3, h4 => by
    by_cases e : f = q
    · subst e
      exact cj_f2_t h3
    · rw [cj_f2_f (h4 f (Nat.le_refl _) (by omega))]
      exact cj_f2_some (by omega) (by omega) h3 (fun j h5 h6 => h4 j (by omega) h6)
theorem cj_fd_least {b : Nat → Int32} {x : Int32} : ∀ {d f q : Nat}, cj_fd b x d f = some q → ∀ j, f ≤ j → j < q → ¬ b j = x
  | 0, _, _, hh => by cases hh
  | d + 1, f, q, hh => by
    intro j h1 h2
    by_cases hb : b f = x
    · rw [cj_fd_t hb] at hh
      cases hh
      omega
    · rw [cj_fd_f hb] at hh
      by_cases e : j = f
      · rw [e]; exact hb
      · exact cj_fd_least hh j (by omega) h2
theorem cj_fd_no {b : Nat → Int32} {x : Int32} : ∀ {d f : Nat}, cj_fd b x d f = none → ∀ j, f ≤ j → j < f + d → ¬ b j = x
  | 0, _, _ => by intro j h1 h2; omega
  | d + 1, f, hh => by
    intro j h1 h2
    by_cases hb : b f = x
    · rw [cj_fd_t hb] at hh
      cases hh
    · rw [cj_fd_f hb] at hh
      by_cases e : j = f
      · rw [e]; exact hb
      · exact cj_fd_no hh j (by omega) (by omega)
def cj_P (a b : Nat → Int32) (h w i f j : Nat) : Bool := decide (a i = b j) && decide (cj_T a b h w (i + 1) (j + 1) + 1 = cj_T a b h w i f)
/-- the reference's choice -/
theorem cj_pick {i f : Nat} (hi : i < h) (hf : f ≤ w) : cj_f2 (cj_P a b h w i f) (w - f) f = cj_pk a b h w i f := by
  cases hc : cj_fd b (a i) (w - f) f with
  | none =>
    rw [cj_pk_n hc]
    refine cj_f2_none (fun j h1 h2 => ?_)
    have := cj_fd_no hc j h1 h2
    unfold cj_P
    rw [decide_eq_false (fun e => this e.symm)]
    rfl
  | some q =>
    have hq := cj_fd_lt hc
    have hl := cj_fd_least hc
    by_cases e : cj_T a b h w (i + 1) (q + 1) + 1 = cj_T a b h w i f
    · rw [cj_pk_s hc e]
      refine cj_f2_some hq.1 hq.2.1 ?_ (fun j h1 h2 => ?_)
      · unfold cj_P
        rw [decide_eq_true hq.2.2.symm, decide_eq_true e]
        rfl
      · have := hl j h1 h2
        unfold cj_P
        rw [decide_eq_false (fun e => this e.symm)]
        rfl
    · rw [cj_pk_f hc e]
      refine cj_f2_none (fun j h1 h2 => ?_)
      by_cases hj : j < q
      · have := hl j h1 hj
        unfold cj_P
        rw [decide_eq_false (fun e => this e.symm)]
        rfl
      · have h3 : cj_T a b h w (i + 1) (j + 1) ≤ cj_T a b h w (i + 1) (q + 1) := cj_T_mono (by omega) (by omega)
        have h4 : cj_T a b h w i q ≤ cj_T a b h w i f := cj_T_mono hq.1 (by omega)
        have h5 := ((cj_T_three (a := a) (b := b) hi (show q < w by omega)).1 hq.2.2.symm).1
        unfold cj_P
        rw [decide_eq_false (p := cj_T a b h w (i + 1) (j + 1) + 1 = cj_T a b h w i f) (by omega), Bool.and_false]
end CJP6
end
section
-- THE REFERENCE: its table of counts
abbrev cj_m2 (lo : Nat → Nat) : Nat → Nat → Nat := fun i j => lo (41 * i + j)
section CJP7
variable {a b : Nat → Int32} {h w : Nat} {lo : Nat → Nat}
theorem cj_m_step {r q v : Nat} (hw : w ≤ 40) (hq : q ≤ w) (H : cj_J2 a b h w (cj_m2 lo) r (q + 1)) (hv : v = cj_T a b h w r q) : cj_J2 a b h w (cj_m2 (va_up lo (41 * r + q) v)) r q := by
  refine ⟨fun i h1 h2 j hj => ?_, fun j h1 h2 => ?_⟩
  · show va_up lo (41 * r + q) v (41 * i + j) = _
    rw [va_up_ne _ _ (by omega)]
    exact H.1 i h1 h2 j hj
  · show va_up lo (41 * r + q) v (41 * r + j) = _
    by_cases e : j = q
    · rw [e, va_up_self, hv]
    · rw [va_up_ne _ _ (by omega)]
      exact H.2 j (by omega) h2
theorem cj_m_start {r : Nat} (H : cj_J a b h w (cj_m2 lo) (r + 1)) : cj_J2 a b h w (cj_m2 lo) r (w + 1) := ⟨H, fun j h1 h2 => by omega⟩
theorem cj_m_first : cj_J a b h w (cj_m2 lo) (h + 1) := fun i h1 h2 => by omega
end CJP7
theorem cj_fo {pr pr9 : Nat → Int32} {pp : Nat → Option Nat} {i : Nat} {v : Int32} (hP : ∀ j, j < i → pr j = oI (pp j)) (h1 : pr9 i = oI (pp i)) (h2 : ∀ k, k ≠ i → pr9 k = va_up pr i v k) : ∀ j, j < i + 1 → pr9 j = oI (pp j) := by
  intro j hj
  by_cases e : j = i
  · rw [e, h1]
  · rw [h2 j e, va_up_ne _ _ e]
    exact hP j (by omega)
end
section
set_option maxRecDepth 100000 in
set_option maxHeartbeats 4000000 in
theorem lp_M_cmp2 {p : Program} {l : Launch} {e : Env} {s : State} {m : MethodId} {args : Array Value} {below : List Frame} {meth : Method} {c : Code} {Q : State → Prop} {D : va_G} {kd : Nat → ClassId} {A : Nat → Prop} {H0 : Heap} {ad : Nat → Nat} {E : Nat} {rn : Nat} {ch : Int32} {n : Nat → Nat} {con : Nat → Int32} {ow : Nat → Nat} {ge : Nat → Bool} {cl : Nat → Bool} {ed : Nat → Nat} {co : Nat → Nat} {hz : Nat → Int64} {pr : Nat → Int32} (X : cj_X p s m args c meth cM_compare 11 RM D kd) (fa ga : Nat) (hf : fa < 8) (hg : ga < 8) (hnf : n fa ≤ 40) (hng : n ga ≤ 40) (ra : Nat) (hra : ra ≤ n fa) : ∀ (a : Nat) (lo : Nat → Nat) (H : Heap) (locs : List Loc) (ls : Array Slot), a ≤ n ga + 1 → cj_J2 (fun i => con (40 * fa + i)) (fun i => con (40 * ga + i)) (n fa) (n ga) (cj_m2 lo) ra a → cj_V D A H0 (wM kd ad E rn ch n con ow ge cl ed co hz lo pr) H locs → lv_has ls 11 [(6, .int (cj_p a)), (5, .int (nI ra)), (4, .int (nI (n ga))), (3, .int (nI (n fa))), (0, .ref (ad 0)), (1, .int (nI fa)), (2, .int (nI ga))] → (∀ (lo : Nat → Nat) (H : Heap) (locs : List Loc) (ls : Array Slot), cj_J2 (fun i => con (40 * fa + i)) (fun i => con (40 * ga + i)) (n fa) (n ga) (cj_m2 lo) ra 0 → cj_V D A H0 (wM kd ad E rn ch n con ow ge cl ed co hz lo pr) H locs → lv_has ls 11 [(5, .int (nI ra)), (4, .int (nI (n ga))), (3, .int (nI (n fa))), (0, .ref (ad 0)), (1, .int (nI fa)), (2, .int (nI ga))] → W p l e (cj_rm 1) s m args below meth c H locs 0 0 Q (F0 m 187 ls [])) → W p l e (cj_rm 1) s m args below meth c H locs 0 0 Q (F0 m 41 ls []) := by
  obtain ⟨⟨hx, hb, hml, hown, hts⟩, hK, hlk⟩ := id X
  intro a
  induction a with
  | zero =>
    intro lo H locs ls hag hJ V hl kont
    rw [cj_p0] at hl
    refine lv_iload hx hb dM_compare_41 (lv_at hl 0 rfl) ?_
    refine lv_if_lt (tgt := 187) hx hb dM_compare_43 (by decide) (fun _ => ?_) (fun h => absurd (by decide) h)
    exact kont _ _ _ _ hJ V (lv_sub hl [1, 2, 3, 4, 5, 6] rfl)
  | succ a ih =>
    intro lo H locs ls hag hJ V hl kont
    rw [cj_ps] at hl
    refine lv_iload hx hb dM_compare_41 (lv_at hl 0 rfl) ?_
    refine cj_z_lt (tgt := 187) hx hb dM_compare_43 (by omega) (by decide) ?_
    refine lv_iconst (v := nI 0) hx hb dM_compare_46 (by decide) ?_
    refine lv_istore (lv' := [(7, .int (nI 0)), (6, .int (nI a)), (5, .int (nI ra)), (4, .int (nI (n ga))), (3, .int (nI (n fa))), (0, .ref (ad 0)), (1, .int (nI fa)), (2, .int (nI ga))]) hx hb dM_compare_47 hl (by decide) rfl (fun ls hl => ?_)
    refine lv_iload hx hb dM_compare_49 (lv_at hl 2 rfl) ?_
    refine lv_iload_n hx hb dM_compare_51 rfl (lv_at hl 4 rfl) ?_
    refine cj_n_ge (tgt := 166) hx hb dM_compare_52 (by decide) (by omega) (by omega) (fun c_2 => ?_) (fun c_2 => ?_)
    ·
      refine lv_aload_n hx hb dM_compare_166 rfl (lv_at hl 5 rfl) ?_
      refine gM 11 X V fl_M_36 (by decide) rfl dM_compare_167 ?_
      refine lv_bipush (v := nI 41) hx hb dM_compare_170 (by decide) ?_
      refine lv_iload hx hb dM_compare_172 (lv_at hl 2 rfl) ?_
      refine cj_imulN hx hb dM_compare_174 ?_
      refine lv_iload hx hb dM_compare_175 (lv_at hl 1 rfl) ?_
      refine cj_iaddN hx hb dM_compare_177 ?_
      refine lv_iload hx hb dM_compare_178 (lv_at hl 0 rfl) ?_
      refine sM_lo X V (by omega) dM_compare_180 (fun H locs V => ?_)
      refine lv_iinc (v := cj_p a) (lv' := [(6, .int (cj_p a)), (7, .int (nI 0)), (5, .int (nI ra)), (4, .int (nI (n ga))), (3, .int (nI (n fa))), (0, .ref (ad 0)), (1, .int (nI fa)), (2, .int (nI ga))]) hx hb dM_compare_181 hl (k := 1) rfl (cj_dp _) (by decide) rfl (fun ls hl => ?_)
      refine lv_goto (tgt := 41) hx hb dM_compare_184 (by decide) ?_
      exact ih _ _ _ ls (by omega) (cj_m_step hng (by omega) hJ (by rw [show ra = n fa by omega, cj_T_h])) V (lv_sub hl [0, 2, 3, 4, 5, 6, 7] rfl) kont
    ·
      refine lv_iload hx hb dM_compare_55 (lv_at hl 1 rfl) ?_
      refine lv_iload hx hb dM_compare_57 (lv_at hl 3 rfl) ?_
      refine cj_n_ge (tgt := 166) hx hb dM_compare_59 (by decide) (by omega) (by omega) (fun c_3 => ?_) (fun c_3 => ?_)
      ·
        refine lv_aload_n hx hb dM_compare_166 rfl (lv_at hl 5 rfl) ?_
        refine gM 11 X V fl_M_36 (by decide) rfl dM_compare_167 ?_
        refine lv_bipush (v := nI 41) hx hb dM_compare_170 (by decide) ?_
        refine lv_iload hx hb dM_compare_172 (lv_at hl 2 rfl) ?_
        refine cj_imulN hx hb dM_compare_174 ?_
        refine lv_iload hx hb dM_compare_175 (lv_at hl 1 rfl) ?_
        refine cj_iaddN hx hb dM_compare_177 ?_
        refine lv_iload hx hb dM_compare_178 (lv_at hl 0 rfl) ?_
        refine sM_lo X V (by omega) dM_compare_180 (fun H locs V => ?_)
        refine lv_iinc (v := cj_p a) (lv' := [(6, .int (cj_p a)), (7, .int (nI 0)), (5, .int (nI ra)), (4, .int (nI (n ga))), (3, .int (nI (n fa))), (0, .ref (ad 0)), (1, .int (nI fa)), (2, .int (nI ga))]) hx hb dM_compare_181 hl (k := 1) rfl (cj_dp _) (by decide) rfl (fun ls hl => ?_)
        refine lv_goto (tgt := 41) hx hb dM_compare_184 (by decide) ?_
        exact ih _ _ _ ls (by omega) (cj_m_step hng (by omega) hJ (by rw [show a = n ga by omega, cj_T_w])) V (lv_sub hl [0, 2, 3, 4, 5, 6, 7] rfl) kont
      ·
        have hA : lo (41 * (ra + 1) + a) = cj_T (fun i => con (40 * fa + i)) (fun i => con (40 * ga + i)) (n fa) (n ga) (ra + 1) a := hJ.1 (ra + 1) (Nat.le_refl _) (by omega) a (by omega)
        have hB : lo (41 * ra + a + 1) = cj_T (fun i => con (40 * fa + i)) (fun i => con (40 * ga + i)) (n fa) (n ga) ra (a + 1) := hJ.2 (a + 1) (Nat.le_refl _) (by omega)
        have hC : lo (41 * (ra + 1) + a + 1) = cj_T (fun i => con (40 * fa + i)) (fun i => con (40 * ga + i)) (n fa) (n ga) (ra + 1) (a + 1) := hJ.1 (ra + 1) (Nat.le_refl _) (by omega) (a + 1) (by omega)
        have tA : cj_T (fun i => con (40 * fa + i)) (fun i => con (40 * ga + i)) (n fa) (n ga) (ra + 1) a ≤ 40 := cj_T_le40 hnf (by omega) (by omega)
        have tB : cj_T (fun i => con (40 * fa + i)) (fun i => con (40 * ga + i)) (n fa) (n ga) ra (a + 1) ≤ 40 := cj_T_le40 hnf (by omega) (by omega)
        have tC : cj_T (fun i => con (40 * fa + i)) (fun i => con (40 * ga + i)) (n fa) (n ga) (ra + 1) (a + 1) ≤ 40 := cj_T_le40 hnf (by omega) (by omega)
        have t3 := cj_T_three (a := fun i => con (40 * fa + i)) (b := fun i => con (40 * ga + i)) (show ra < n fa by omega) (show a < n ga by omega)
        refine lv_aload_n hx hb dM_compare_62 rfl (lv_at hl 5 rfl) ?_
        refine gM 11 X V fl_M_36 (by decide) rfl dM_compare_63 ?_
        refine lv_bipush (v := nI 41) hx hb dM_compare_66 (by decide) ?_
        refine lv_iload hx hb dM_compare_68 (lv_at hl 2 rfl) ?_
        refine lv_iconst (v := nI 1) hx hb dM_compare_70 (by decide) ?_
        refine cj_iaddN hx hb dM_compare_71 ?_
        refine cj_imulN hx hb dM_compare_72 ?_
        refine lv_iload hx hb dM_compare_73 (lv_at hl 1 rfl) ?_
        refine cj_iaddN hx hb dM_compare_75 ?_
        refine rM_lo X V (by omega) dM_compare_76 ?_
        refine lv_istore (lv' := [(8, .int (nI (lo ((41 * (ra + 1)) + a)))), (7, .int (nI 0)), (6, .int (nI a)), (5, .int (nI ra)), (4, .int (nI (n ga))), (3, .int (nI (n fa))), (0, .ref (ad 0)), (1, .int (nI fa)), (2, .int (nI ga))]) hx hb dM_compare_77 hl (by decide) rfl (fun ls hl => ?_)
        refine lv_aload_n hx hb dM_compare_79 rfl (lv_at hl 6 rfl) ?_
        refine gM 11 X V fl_M_36 (by decide) rfl dM_compare_80 ?_
        refine lv_bipush (v := nI 41) hx hb dM_compare_83 (by decide) ?_
        refine lv_iload hx hb dM_compare_85 (lv_at hl 3 rfl) ?_
        refine cj_imulN hx hb dM_compare_87 ?_
        refine lv_iload hx hb dM_compare_88 (lv_at hl 2 rfl) ?_
        refine cj_iaddN hx hb dM_compare_90 ?_
        refine lv_iconst (v := nI 1) hx hb dM_compare_91 (by decide) ?_
        refine cj_iaddN hx hb dM_compare_92 ?_
        refine rM_lo X V (by omega) dM_compare_93 ?_
        refine lv_istore (lv' := [(9, .int (nI (lo (((41 * ra) + a) + 1)))), (8, .int (nI (lo ((41 * (ra + 1)) + a)))), (7, .int (nI 0)), (6, .int (nI a)), (5, .int (nI ra)), (4, .int (nI (n ga))), (3, .int (nI (n fa))), (0, .ref (ad 0)), (1, .int (nI fa)), (2, .int (nI ga))]) hx hb dM_compare_94 hl (by decide) rfl (fun ls hl => ?_)
        refine lv_aload_n hx hb dM_compare_96 rfl (lv_at hl 7 rfl) ?_
        refine lv_iload_n hx hb dM_compare_97 rfl (lv_at hl 8 rfl) ?_
        refine lv_iload hx hb dM_compare_98 (lv_at hl 4 rfl) ?_
        refine lv_iload_n hx hb dM_compare_100 rfl (lv_at hl 9 rfl) ?_
        refine lv_iload hx hb dM_compare_101 (lv_at hl 3 rfl) ?_
        refine cj_cvi X V (c_M_isAlike l D kd ad fa ra ga a (by omega) (by omega) (by omega) (by omega)) 0 2 rfl rfl rfl ml_M_64 im_M_isAlike se_M_isAlike in_M cd_M_isAlike hd_M_isAlike ⟨by decide, by decide⟩ ⟨Nat.le_refl _, Nat.le_refl _⟩ hl.1 rfl (Nat.le_of_ble_eq_true rfl) dM_compare_103 (fun r_9 u_9 H locs hw V => ?_)
        obtain rfl := hw
        refine cj_b_eq (tgt := 131) hx hb dM_compare_106 (by decide) (fun c_4 => ?_) (fun c_4 => ?_)
        ·
          refine lv_iconst (v := nI 0) hx hb dM_compare_131 (by decide) ?_
          refine lv_istore (lv' := [(10, .int (nI 0)), (9, .int (nI (lo (((41 * ra) + a) + 1)))), (8, .int (nI (lo ((41 * (ra + 1)) + a)))), (7, .int (nI 0)), (6, .int (nI a)), (5, .int (nI ra)), (4, .int (nI (n ga))), (3, .int (nI (n fa))), (0, .ref (ad 0)), (1, .int (nI fa)), (2, .int (nI ga))]) hx hb dM_compare_132 hl (by decide) rfl (fun ls hl => ?_)
          refine lv_iload hx hb dM_compare_134 (lv_at hl 2 rfl) ?_
          refine lv_iload hx hb dM_compare_136 (lv_at hl 1 rfl) ?_
          refine cj_n_le (tgt := 146) hx hb dM_compare_138 (by decide) (by omega) (by omega) (fun c_5 => ?_) (fun c_5 => ?_)
          ·
            refine lv_iload hx hb dM_compare_146 (lv_at hl 1 rfl) ?_
            refine lv_istore (lv' := [(7, .int (nI (lo (((41 * ra) + a) + 1)))), (10, .int (nI 0)), (9, .int (nI (lo (((41 * ra) + a) + 1)))), (8, .int (nI (lo ((41 * (ra + 1)) + a)))), (6, .int (nI a)), (5, .int (nI ra)), (4, .int (nI (n ga))), (3, .int (nI (n fa))), (0, .ref (ad 0)), (1, .int (nI fa)), (2, .int (nI ga))]) hx hb dM_compare_148 hl (by decide) rfl (fun ls hl => ?_)
            refine lv_iload hx hb dM_compare_150 (lv_at hl 1 rfl) ?_
            refine lv_iload hx hb dM_compare_152 (lv_at hl 0 rfl) ?_
            refine cj_n_le (tgt := 162) hx hb dM_compare_154 (by decide) (by omega) (by omega) (fun c_6 => ?_) (fun c_6 => ?_)
            ·
              refine lv_iload hx hb dM_compare_162 (lv_at hl 0 rfl) ?_
              refine lv_istore (lv' := [(7, .int (nI (lo (((41 * ra) + a) + 1)))), (10, .int (nI 0)), (9, .int (nI (lo (((41 * ra) + a) + 1)))), (8, .int (nI (lo ((41 * (ra + 1)) + a)))), (6, .int (nI a)), (5, .int (nI ra)), (4, .int (nI (n ga))), (3, .int (nI (n fa))), (0, .ref (ad 0)), (1, .int (nI fa)), (2, .int (nI ga))]) hx hb dM_compare_164 hl (by decide) rfl (fun ls hl => ?_)
              refine lv_aload_n hx hb dM_compare_166 rfl (lv_at hl 8 rfl) ?_
              refine gM 11 X V fl_M_36 (by decide) rfl dM_compare_167 ?_
              refine lv_bipush (v := nI 41) hx hb dM_compare_170 (by decide) ?_
              refine lv_iload hx hb dM_compare_172 (lv_at hl 5 rfl) ?_
              refine cj_imulN hx hb dM_compare_174 ?_
              refine lv_iload hx hb dM_compare_175 (lv_at hl 4 rfl) ?_
              refine cj_iaddN hx hb dM_compare_177 ?_
              refine lv_iload hx hb dM_compare_178 (lv_at hl 0 rfl) ?_
              refine sM_lo X V (by omega) dM_compare_180 (fun H locs V => ?_)
              refine lv_iinc (v := cj_p a) (lv' := [(6, .int (cj_p a)), (7, .int (nI (lo (((41 * ra) + a) + 1)))), (10, .int (nI 0)), (9, .int (nI (lo (((41 * ra) + a) + 1)))), (8, .int (nI (lo ((41 * (ra + 1)) + a)))), (5, .int (nI ra)), (4, .int (nI (n ga))), (3, .int (nI (n fa))), (0, .ref (ad 0)), (1, .int (nI fa)), (2, .int (nI ga))]) hx hb dM_compare_181 hl (k := 4) rfl (cj_dp _) (by decide) rfl (fun ls hl => ?_)
              refine lv_goto (tgt := 41) hx hb dM_compare_184 (by decide) ?_
              exact ih _ _ _ ls (by omega) (cj_m_step hng (by omega) hJ (by have t4 := t3.2 (of_decide_eq_false c_4); omega)) V (lv_sub hl [0, 5, 6, 7, 8, 9, 10] rfl) kont
            ·
              refine lv_iload hx hb dM_compare_157 (lv_at hl 1 rfl) ?_
              refine lv_goto (tgt := 164) hx hb dM_compare_159 (by decide) ?_
              refine lv_istore (lv' := [(7, .int (nI 0)), (10, .int (nI 0)), (9, .int (nI (lo (((41 * ra) + a) + 1)))), (8, .int (nI (lo ((41 * (ra + 1)) + a)))), (6, .int (nI a)), (5, .int (nI ra)), (4, .int (nI (n ga))), (3, .int (nI (n fa))), (0, .ref (ad 0)), (1, .int (nI fa)), (2, .int (nI ga))]) hx hb dM_compare_164 hl (by decide) rfl (fun ls hl => ?_)
              refine lv_aload_n hx hb dM_compare_166 rfl (lv_at hl 8 rfl) ?_
              refine gM 11 X V fl_M_36 (by decide) rfl dM_compare_167 ?_
              refine lv_bipush (v := nI 41) hx hb dM_compare_170 (by decide) ?_
              refine lv_iload hx hb dM_compare_172 (lv_at hl 5 rfl) ?_
              refine cj_imulN hx hb dM_compare_174 ?_
              refine lv_iload hx hb dM_compare_175 (lv_at hl 4 rfl) ?_
              refine cj_iaddN hx hb dM_compare_177 ?_
              refine lv_iload hx hb dM_compare_178 (lv_at hl 0 rfl) ?_
              refine sM_lo X V (by omega) dM_compare_180 (fun H locs V => ?_)
              refine lv_iinc (v := cj_p a) (lv' := [(6, .int (cj_p a)), (7, .int (nI 0)), (10, .int (nI 0)), (9, .int (nI (lo (((41 * ra) + a) + 1)))), (8, .int (nI (lo ((41 * (ra + 1)) + a)))), (5, .int (nI ra)), (4, .int (nI (n ga))), (3, .int (nI (n fa))), (0, .ref (ad 0)), (1, .int (nI fa)), (2, .int (nI ga))]) hx hb dM_compare_181 hl (k := 4) rfl (cj_dp _) (by decide) rfl (fun ls hl => ?_)
              refine lv_goto (tgt := 41) hx hb dM_compare_184 (by decide) ?_
              exact ih _ _ _ ls (by omega) (cj_m_step hng (by omega) hJ (by have t4 := t3.2 (of_decide_eq_false c_4); omega)) V (lv_sub hl [0, 5, 6, 7, 8, 9, 10] rfl) kont
          ·
            refine lv_iload hx hb dM_compare_141 (lv_at hl 2 rfl) ?_
            refine lv_goto (tgt := 148) hx hb dM_compare_143 (by decide) ?_
            refine lv_istore (lv' := [(7, .int (nI (lo ((41 * (ra + 1)) + a)))), (10, .int (nI 0)), (9, .int (nI (lo (((41 * ra) + a) + 1)))), (8, .int (nI (lo ((41 * (ra + 1)) + a)))), (6, .int (nI a)), (5, .int (nI ra)), (4, .int (nI (n ga))), (3, .int (nI (n fa))), (0, .ref (ad 0)), (1, .int (nI fa)), (2, .int (nI ga))]) hx hb dM_compare_148 hl (by decide) rfl (fun ls hl => ?_)
            refine lv_iload hx hb dM_compare_150 (lv_at hl 1 rfl) ?_
            refine lv_iload hx hb dM_compare_152 (lv_at hl 0 rfl) ?_
            refine cj_n_le (tgt := 162) hx hb dM_compare_154 (by decide) (by omega) (by omega) (fun c_7 => ?_) (fun c_7 => ?_)
            ·
              refine lv_iload hx hb dM_compare_162 (lv_at hl 0 rfl) ?_
              refine lv_istore (lv' := [(7, .int (nI (lo ((41 * (ra + 1)) + a)))), (10, .int (nI 0)), (9, .int (nI (lo (((41 * ra) + a) + 1)))), (8, .int (nI (lo ((41 * (ra + 1)) + a)))), (6, .int (nI a)), (5, .int (nI ra)), (4, .int (nI (n ga))), (3, .int (nI (n fa))), (0, .ref (ad 0)), (1, .int (nI fa)), (2, .int (nI ga))]) hx hb dM_compare_164 hl (by decide) rfl (fun ls hl => ?_)
              refine lv_aload_n hx hb dM_compare_166 rfl (lv_at hl 8 rfl) ?_
              refine gM 11 X V fl_M_36 (by decide) rfl dM_compare_167 ?_
              refine lv_bipush (v := nI 41) hx hb dM_compare_170 (by decide) ?_
              refine lv_iload hx hb dM_compare_172 (lv_at hl 5 rfl) ?_
              refine cj_imulN hx hb dM_compare_174 ?_
              refine lv_iload hx hb dM_compare_175 (lv_at hl 4 rfl) ?_
              refine cj_iaddN hx hb dM_compare_177 ?_
              refine lv_iload hx hb dM_compare_178 (lv_at hl 0 rfl) ?_
              refine sM_lo X V (by omega) dM_compare_180 (fun H locs V => ?_)
              refine lv_iinc (v := cj_p a) (lv' := [(6, .int (cj_p a)), (7, .int (nI (lo ((41 * (ra + 1)) + a)))), (10, .int (nI 0)), (9, .int (nI (lo (((41 * ra) + a) + 1)))), (8, .int (nI (lo ((41 * (ra + 1)) + a)))), (5, .int (nI ra)), (4, .int (nI (n ga))), (3, .int (nI (n fa))), (0, .ref (ad 0)), (1, .int (nI fa)), (2, .int (nI ga))]) hx hb dM_compare_181 hl (k := 4) rfl (cj_dp _) (by decide) rfl (fun ls hl => ?_)
              refine lv_goto (tgt := 41) hx hb dM_compare_184 (by decide) ?_
              exact ih _ _ _ ls (by omega) (cj_m_step hng (by omega) hJ (by have t4 := t3.2 (of_decide_eq_false c_4); omega)) V (lv_sub hl [0, 5, 6, 7, 8, 9, 10] rfl) kont
            ·
              refine lv_iload hx hb dM_compare_157 (lv_at hl 1 rfl) ?_
              refine lv_goto (tgt := 164) hx hb dM_compare_159 (by decide) ?_
              refine lv_istore (lv' := [(7, .int (nI 0)), (10, .int (nI 0)), (9, .int (nI (lo (((41 * ra) + a) + 1)))), (8, .int (nI (lo ((41 * (ra + 1)) + a)))), (6, .int (nI a)), (5, .int (nI ra)), (4, .int (nI (n ga))), (3, .int (nI (n fa))), (0, .ref (ad 0)), (1, .int (nI fa)), (2, .int (nI ga))]) hx hb dM_compare_164 hl (by decide) rfl (fun ls hl => ?_)
              refine lv_aload_n hx hb dM_compare_166 rfl (lv_at hl 8 rfl) ?_
              refine gM 11 X V fl_M_36 (by decide) rfl dM_compare_167 ?_
              refine lv_bipush (v := nI 41) hx hb dM_compare_170 (by decide) ?_
              refine lv_iload hx hb dM_compare_172 (lv_at hl 5 rfl) ?_
              refine cj_imulN hx hb dM_compare_174 ?_
              refine lv_iload hx hb dM_compare_175 (lv_at hl 4 rfl) ?_
              refine cj_iaddN hx hb dM_compare_177 ?_
              refine lv_iload hx hb dM_compare_178 (lv_at hl 0 rfl) ?_
              refine sM_lo X V (by omega) dM_compare_180 (fun H locs V => ?_)
              refine lv_iinc (v := cj_p a) (lv' := [(6, .int (cj_p a)), (7, .int (nI 0)), (10, .int (nI 0)), (9, .int (nI (lo (((41 * ra) + a) + 1)))), (8, .int (nI (lo ((41 * (ra + 1)) + a)))), (5, .int (nI ra)), (4, .int (nI (n ga))), (3, .int (nI (n fa))), (0, .ref (ad 0)), (1, .int (nI fa)), (2, .int (nI ga))]) hx hb dM_compare_181 hl (k := 4) rfl (cj_dp _) (by decide) rfl (fun ls hl => ?_)
              refine lv_goto (tgt := 41) hx hb dM_compare_184 (by decide) ?_
              exact ih _ _ _ ls (by omega) (cj_m_step hng (by omega) hJ (by have t4 := t3.2 (of_decide_eq_false c_4); omega)) V (lv_sub hl [0, 5, 6, 7, 8, 9, 10] rfl) kont
        ·
          refine lv_aload_n hx hb dM_compare_109 rfl (lv_at hl 7 rfl) ?_
          refine gM 11 X V fl_M_36 (by decide) rfl dM_compare_110 ?_
          refine lv_bipush (v := nI 41) hx hb dM_compare_113 (by decide) ?_
          refine lv_iload hx hb dM_compare_115 (lv_at hl 4 rfl) ?_
          refine lv_iconst (v := nI 1) hx hb dM_compare_117 (by decide) ?_
          refine cj_iaddN hx hb dM_compare_118 ?_
          refine cj_imulN hx hb dM_compare_119 ?_
          refine lv_iload hx hb dM_compare_120 (lv_at hl 3 rfl) ?_
          refine cj_iaddN hx hb dM_compare_122 ?_
          refine lv_iconst (v := nI 1) hx hb dM_compare_123 (by decide) ?_
          refine cj_iaddN hx hb dM_compare_124 ?_
          refine rM_lo X V (by omega) dM_compare_125 ?_
          refine lv_iconst (v := nI 1) hx hb dM_compare_126 (by decide) ?_
          refine cj_iaddN hx hb dM_compare_127 ?_
          refine lv_goto (tgt := 132) hx hb dM_compare_128 (by decide) ?_
          refine lv_istore (lv' := [(10, .int (nI ((lo (((41 * (ra + 1)) + a) + 1)) + 1))), (9, .int (nI (lo (((41 * ra) + a) + 1)))), (8, .int (nI (lo ((41 * (ra + 1)) + a)))), (7, .int (nI 0)), (6, .int (nI a)), (5, .int (nI ra)), (4, .int (nI (n ga))), (3, .int (nI (n fa))), (0, .ref (ad 0)), (1, .int (nI fa)), (2, .int (nI ga))]) hx hb dM_compare_132 hl (by decide) rfl (fun ls hl => ?_)
          refine lv_iload hx hb dM_compare_134 (lv_at hl 2 rfl) ?_
          refine lv_iload hx hb dM_compare_136 (lv_at hl 1 rfl) ?_
          refine cj_n_le (tgt := 146) hx hb dM_compare_138 (by decide) (by omega) (by omega) (fun c_8 => ?_) (fun c_8 => ?_)
          ·
            refine lv_iload hx hb dM_compare_146 (lv_at hl 1 rfl) ?_
            refine lv_istore (lv' := [(7, .int (nI (lo (((41 * ra) + a) + 1)))), (10, .int (nI ((lo (((41 * (ra + 1)) + a) + 1)) + 1))), (9, .int (nI (lo (((41 * ra) + a) + 1)))), (8, .int (nI (lo ((41 * (ra + 1)) + a)))), (6, .int (nI a)), (5, .int (nI ra)), (4, .int (nI (n ga))), (3, .int (nI (n fa))), (0, .ref (ad 0)), (1, .int (nI fa)), (2, .int (nI ga))]) hx hb dM_compare_148 hl (by decide) rfl (fun ls hl => ?_)
            refine lv_iload hx hb dM_compare_150 (lv_at hl 1 rfl) ?_
            refine lv_iload hx hb dM_compare_152 (lv_at hl 0 rfl) ?_
            refine cj_n_le (tgt := 162) hx hb dM_compare_154 (by decide) (by omega) (by omega) (fun c_9 => ?_) (fun c_9 => ?_)
            ·
              refine lv_iload hx hb dM_compare_162 (lv_at hl 0 rfl) ?_
              refine lv_istore (lv' := [(7, .int (nI (lo (((41 * ra) + a) + 1)))), (10, .int (nI ((lo (((41 * (ra + 1)) + a) + 1)) + 1))), (9, .int (nI (lo (((41 * ra) + a) + 1)))), (8, .int (nI (lo ((41 * (ra + 1)) + a)))), (6, .int (nI a)), (5, .int (nI ra)), (4, .int (nI (n ga))), (3, .int (nI (n fa))), (0, .ref (ad 0)), (1, .int (nI fa)), (2, .int (nI ga))]) hx hb dM_compare_164 hl (by decide) rfl (fun ls hl => ?_)
              refine lv_aload_n hx hb dM_compare_166 rfl (lv_at hl 8 rfl) ?_
              refine gM 11 X V fl_M_36 (by decide) rfl dM_compare_167 ?_
              refine lv_bipush (v := nI 41) hx hb dM_compare_170 (by decide) ?_
              refine lv_iload hx hb dM_compare_172 (lv_at hl 5 rfl) ?_
              refine cj_imulN hx hb dM_compare_174 ?_
              refine lv_iload hx hb dM_compare_175 (lv_at hl 4 rfl) ?_
              refine cj_iaddN hx hb dM_compare_177 ?_
              refine lv_iload hx hb dM_compare_178 (lv_at hl 0 rfl) ?_
              refine sM_lo X V (by omega) dM_compare_180 (fun H locs V => ?_)
              refine lv_iinc (v := cj_p a) (lv' := [(6, .int (cj_p a)), (7, .int (nI (lo (((41 * ra) + a) + 1)))), (10, .int (nI ((lo (((41 * (ra + 1)) + a) + 1)) + 1))), (9, .int (nI (lo (((41 * ra) + a) + 1)))), (8, .int (nI (lo ((41 * (ra + 1)) + a)))), (5, .int (nI ra)), (4, .int (nI (n ga))), (3, .int (nI (n fa))), (0, .ref (ad 0)), (1, .int (nI fa)), (2, .int (nI ga))]) hx hb dM_compare_181 hl (k := 4) rfl (cj_dp _) (by decide) rfl (fun ls hl => ?_)
              refine lv_goto (tgt := 41) hx hb dM_compare_184 (by decide) ?_
              exact ih _ _ _ ls (by omega) (cj_m_step hng (by omega) hJ (by have t4 := t3.1 (of_decide_eq_true c_4); omega)) V (lv_sub hl [0, 5, 6, 7, 8, 9, 10] rfl) kont
            ·
              refine lv_iload hx hb dM_compare_157 (lv_at hl 1 rfl) ?_
              refine lv_goto (tgt := 164) hx hb dM_compare_159 (by decide) ?_
              refine lv_istore (lv' := [(7, .int (nI ((lo (((41 * (ra + 1)) + a) + 1)) + 1))), (10, .int (nI ((lo (((41 * (ra + 1)) + a) + 1)) + 1))), (9, .int (nI (lo (((41 * ra) + a) + 1)))), (8, .int (nI (lo ((41 * (ra + 1)) + a)))), (6, .int (nI a)), (5, .int (nI ra)), (4, .int (nI (n ga))), (3, .int (nI (n fa))), (0, .ref (ad 0)), (1, .int (nI fa)), (2, .int (nI ga))]) hx hb dM_compare_164 hl (by decide) rfl (fun ls hl => ?_)
              refine lv_aload_n hx hb dM_compare_166 rfl (lv_at hl 8 rfl) ?_
              refine gM 11 X V fl_M_36 (by decide) rfl dM_compare_167 ?_
              refine lv_bipush (v := nI 41) hx hb dM_compare_170 (by decide) ?_
              refine lv_iload hx hb dM_compare_172 (lv_at hl 5 rfl) ?_
              refine cj_imulN hx hb dM_compare_174 ?_
              refine lv_iload hx hb dM_compare_175 (lv_at hl 4 rfl) ?_
              refine cj_iaddN hx hb dM_compare_177 ?_
              refine lv_iload hx hb dM_compare_178 (lv_at hl 0 rfl) ?_
              refine sM_lo X V (by omega) dM_compare_180 (fun H locs V => ?_)
              refine lv_iinc (v := cj_p a) (lv' := [(6, .int (cj_p a)), (7, .int (nI ((lo (((41 * (ra + 1)) + a) + 1)) + 1))), (10, .int (nI ((lo (((41 * (ra + 1)) + a) + 1)) + 1))), (9, .int (nI (lo (((41 * ra) + a) + 1)))), (8, .int (nI (lo ((41 * (ra + 1)) + a)))), (5, .int (nI ra)), (4, .int (nI (n ga))), (3, .int (nI (n fa))), (0, .ref (ad 0)), (1, .int (nI fa)), (2, .int (nI ga))]) hx hb dM_compare_181 hl (k := 4) rfl (cj_dp _) (by decide) rfl (fun ls hl => ?_)
              refine lv_goto (tgt := 41) hx hb dM_compare_184 (by decide) ?_
              exact ih _ _ _ ls (by omega) (cj_m_step hng (by omega) hJ (by have t4 := t3.1 (of_decide_eq_true c_4); omega)) V (lv_sub hl [0, 5, 6, 7, 8, 9, 10] rfl) kont
          ·
            refine lv_iload hx hb dM_compare_141 (lv_at hl 2 rfl) ?_
            refine lv_goto (tgt := 148) hx hb dM_compare_143 (by decide) ?_
            refine lv_istore (lv' := [(7, .int (nI (lo ((41 * (ra + 1)) + a)))), (10, .int (nI ((lo (((41 * (ra + 1)) + a) + 1)) + 1))), (9, .int (nI (lo (((41 * ra) + a) + 1)))), (8, .int (nI (lo ((41 * (ra + 1)) + a)))), (6, .int (nI a)), (5, .int (nI ra)), (4, .int (nI (n ga))), (3, .int (nI (n fa))), (0, .ref (ad 0)), (1, .int (nI fa)), (2, .int (nI ga))]) hx hb dM_compare_148 hl (by decide) rfl (fun ls hl => ?_)
            refine lv_iload hx hb dM_compare_150 (lv_at hl 1 rfl) ?_
            refine lv_iload hx hb dM_compare_152 (lv_at hl 0 rfl) ?_
            refine cj_n_le (tgt := 162) hx hb dM_compare_154 (by decide) (by omega) (by omega) (fun c_10 => ?_) (fun c_10 => ?_)
            ·
              refine lv_iload hx hb dM_compare_162 (lv_at hl 0 rfl) ?_
              refine lv_istore (lv' := [(7, .int (nI (lo ((41 * (ra + 1)) + a)))), (10, .int (nI ((lo (((41 * (ra + 1)) + a) + 1)) + 1))), (9, .int (nI (lo (((41 * ra) + a) + 1)))), (8, .int (nI (lo ((41 * (ra + 1)) + a)))), (6, .int (nI a)), (5, .int (nI ra)), (4, .int (nI (n ga))), (3, .int (nI (n fa))), (0, .ref (ad 0)), (1, .int (nI fa)), (2, .int (nI ga))]) hx hb dM_compare_164 hl (by decide) rfl (fun ls hl => ?_)
              refine lv_aload_n hx hb dM_compare_166 rfl (lv_at hl 8 rfl) ?_
              refine gM 11 X V fl_M_36 (by decide) rfl dM_compare_167 ?_
              refine lv_bipush (v := nI 41) hx hb dM_compare_170 (by decide) ?_
              refine lv_iload hx hb dM_compare_172 (lv_at hl 5 rfl) ?_
              refine cj_imulN hx hb dM_compare_174 ?_
              refine lv_iload hx hb dM_compare_175 (lv_at hl 4 rfl) ?_
              refine cj_iaddN hx hb dM_compare_177 ?_
              refine lv_iload hx hb dM_compare_178 (lv_at hl 0 rfl) ?_
              refine sM_lo X V (by omega) dM_compare_180 (fun H locs V => ?_)
              refine lv_iinc (v := cj_p a) (lv' := [(6, .int (cj_p a)), (7, .int (nI (lo ((41 * (ra + 1)) + a)))), (10, .int (nI ((lo (((41 * (ra + 1)) + a) + 1)) + 1))), (9, .int (nI (lo (((41 * ra) + a) + 1)))), (8, .int (nI (lo ((41 * (ra + 1)) + a)))), (5, .int (nI ra)), (4, .int (nI (n ga))), (3, .int (nI (n fa))), (0, .ref (ad 0)), (1, .int (nI fa)), (2, .int (nI ga))]) hx hb dM_compare_181 hl (k := 4) rfl (cj_dp _) (by decide) rfl (fun ls hl => ?_)
              refine lv_goto (tgt := 41) hx hb dM_compare_184 (by decide) ?_
              exact ih _ _ _ ls (by omega) (cj_m_step hng (by omega) hJ (by have t4 := t3.1 (of_decide_eq_true c_4); omega)) V (lv_sub hl [0, 5, 6, 7, 8, 9, 10] rfl) kont
            ·
              refine lv_iload hx hb dM_compare_157 (lv_at hl 1 rfl) ?_
              refine lv_goto (tgt := 164) hx hb dM_compare_159 (by decide) ?_
              refine lv_istore (lv' := [(7, .int (nI ((lo (((41 * (ra + 1)) + a) + 1)) + 1))), (10, .int (nI ((lo (((41 * (ra + 1)) + a) + 1)) + 1))), (9, .int (nI (lo (((41 * ra) + a) + 1)))), (8, .int (nI (lo ((41 * (ra + 1)) + a)))), (6, .int (nI a)), (5, .int (nI ra)), (4, .int (nI (n ga))), (3, .int (nI (n fa))), (0, .ref (ad 0)), (1, .int (nI fa)), (2, .int (nI ga))]) hx hb dM_compare_164 hl (by decide) rfl (fun ls hl => ?_)
              refine lv_aload_n hx hb dM_compare_166 rfl (lv_at hl 8 rfl) ?_
              refine gM 11 X V fl_M_36 (by decide) rfl dM_compare_167 ?_
              refine lv_bipush (v := nI 41) hx hb dM_compare_170 (by decide) ?_
              refine lv_iload hx hb dM_compare_172 (lv_at hl 5 rfl) ?_
              refine cj_imulN hx hb dM_compare_174 ?_
              refine lv_iload hx hb dM_compare_175 (lv_at hl 4 rfl) ?_
              refine cj_iaddN hx hb dM_compare_177 ?_
              refine lv_iload hx hb dM_compare_178 (lv_at hl 0 rfl) ?_
              refine sM_lo X V (by omega) dM_compare_180 (fun H locs V => ?_)
              refine lv_iinc (v := cj_p a) (lv' := [(6, .int (cj_p a)), (7, .int (nI ((lo (((41 * (ra + 1)) + a) + 1)) + 1))), (10, .int (nI ((lo (((41 * (ra + 1)) + a) + 1)) + 1))), (9, .int (nI (lo (((41 * ra) + a) + 1)))), (8, .int (nI (lo ((41 * (ra + 1)) + a)))), (5, .int (nI ra)), (4, .int (nI (n ga))), (3, .int (nI (n fa))), (0, .ref (ad 0)), (1, .int (nI fa)), (2, .int (nI ga))]) hx hb dM_compare_181 hl (k := 4) rfl (cj_dp _) (by decide) rfl (fun ls hl => ?_)
              refine lv_goto (tgt := 41) hx hb dM_compare_184 (by decide) ?_
              exact ih _ _ _ ls (by omega) (cj_m_step hng (by omega) hJ (by have t4 := t3.1 (of_decide_eq_true c_4); omega)) V (lv_sub hl [0, 5, 6, 7, 8, 9, 10] rfl) kont
set_option maxRecDepth 100000 in
set_option maxHeartbeats 4000000 in
theorem lp_M_cmp1 {p : Program} {l : Launch} {e : Env} {s : State} {m : MethodId} {args : Array Value} {below : List Frame} {meth : Method} {c : Code} {Q : State → Prop} {D : va_G} {kd : Nat → ClassId} {A : Nat → Prop} {H0 : Heap} {ad : Nat → Nat} {E : Nat} {rn : Nat} {ch : Int32} {n : Nat → Nat} {con : Nat → Int32} {ow : Nat → Nat} {ge : Nat → Bool} {cl : Nat → Bool} {ed : Nat → Nat} {co : Nat → Nat} {hz : Nat → Int64} {pr : Nat → Int32} (X : cj_X p s m args c meth cM_compare 11 RM D kd) (fa ga : Nat) (hf : fa < 8) (hg : ga < 8) (hnf : n fa ≤ 40) (hng : n ga ≤ 40) : ∀ (a : Nat) (lo : Nat → Nat) (H : Heap) (locs : List Loc) (ls : Array Slot), a ≤ n fa + 1 → cj_J (fun i => con (40 * fa + i)) (fun i => con (40 * ga + i)) (n fa) (n ga) (cj_m2 lo) a → cj_V D A H0 (wM kd ad E rn ch n con ow ge cl ed co hz lo pr) H locs → lv_has ls 11 [(5, .int (cj_p a)), (4, .int (nI (n ga))), (3, .int (nI (n fa))), (0, .ref (ad 0)), (1, .int (nI fa)), (2, .int (nI ga))] → (∀ (lo : Nat → Nat) (H : Heap) (locs : List Loc) (ls : Array Slot), cj_J (fun i => con (40 * fa + i)) (fun i => con (40 * ga + i)) (n fa) (n ga) (cj_m2 lo) 0 → cj_V D A H0 (wM kd ad E rn ch n con ow ge cl ed co hz lo pr) H locs → lv_has ls 11 [(4, .int (nI (n ga))), (3, .int (nI (n fa))), (0, .ref (ad 0)), (1, .int (nI fa)), (2, .int (nI ga))] → W p l e (cj_rm 1) s m args below meth c H locs 0 0 Q (F0 m 193 ls [])) → W p l e (cj_rm 1) s m args below meth c H locs 0 0 Q (F0 m 32 ls []) := by
  obtain ⟨⟨hx, hb, hml, hown, hts⟩, hK, hlk⟩ := id X
  intro a
  induction a with
  | zero =>
    intro lo H locs ls haf hJ V hl kont
    rw [cj_p0] at hl
    refine lv_iload hx hb dM_compare_32 (lv_at hl 0 rfl) ?_
    refine lv_if_lt (tgt := 193) hx hb dM_compare_34 (by decide) (fun _ => ?_) (fun h => absurd (by decide) h)
    exact kont _ _ _ _ hJ V (lv_sub hl [1, 2, 3, 4, 5] rfl)
  | succ a ih =>
    intro lo H locs ls haf hJ V hl kont
    rw [cj_ps] at hl
    refine lv_iload hx hb dM_compare_32 (lv_at hl 0 rfl) ?_
    refine cj_z_lt (tgt := 193) hx hb dM_compare_34 (by omega) (by decide) ?_
    refine lv_iload hx hb dM_compare_37 (lv_at hl 1 rfl) ?_
    refine lv_istore (lv' := [(6, .int (nI (n ga))), (5, .int (nI a)), (4, .int (nI (n ga))), (3, .int (nI (n fa))), (0, .ref (ad 0)), (1, .int (nI fa)), (2, .int (nI ga))]) hx hb dM_compare_39 hl (by decide) rfl (fun ls hl => ?_)
    refine lp_M_cmp2 X fa ga hf hg hnf hng a (by omega) (n ga + 1) _ _ _ ls (Nat.le_refl _) (cj_m_start hJ) V (lv_sub hl [0, 1, 2, 3, 4, 5, 6] (by rw [cj_ps]; rfl)) (fun lo H locs ls hJ V hl => ?_)
    refine lv_iinc (v := cj_p a) (lv' := [(5, .int (cj_p a)), (4, .int (nI (n ga))), (3, .int (nI (n fa))), (0, .ref (ad 0)), (1, .int (nI fa)), (2, .int (nI ga))]) hx hb dM_compare_187 hl (k := 0) rfl (cj_dp _) (by decide) rfl (fun ls hl => ?_)
    refine lv_goto (tgt := 32) hx hb dM_compare_190 (by decide) ?_
    exact ih _ _ _ ls (by omega) (cj_J2_end hJ) V (lv_sub hl [0, 1, 2, 3, 4, 5] rfl) kont
set_option maxRecDepth 100000 in
set_option maxHeartbeats 4000000 in
theorem lp_M_ch2 {p : Program} {l : Launch} {e : Env} {s : State} {m : MethodId} {args : Array Value} {below : List Frame} {meth : Method} {c : Code} {Q : State → Prop} {D : va_G} {kd : Nat → ClassId} {A : Nat → Prop} {H0 : Heap} {ad : Nat → Nat} {E : Nat} {rn : Nat} {ch : Int32} {n : Nat → Nat} {con : Nat → Int32} {ow : Nat → Nat} {ge : Nat → Bool} {cl : Nat → Bool} {ed : Nat → Nat} {co : Nat → Nat} {hz : Nat → Int64} {lo : Nat → Nat} (X : cj_X p s m args c meth cM_compare 11 RM D kd) (fa ga : Nat) (hf : fa < 8) (hg : ga < 8) (hnf : n fa ≤ 40) (hng : n ga ≤ 40) (hJ : cj_J (fun i => con (40 * fa + i)) (fun i => con (40 * ga + i)) (n fa) (n ga) (cj_m2 lo) 0) (ra fr : Nat) (hra : ra < n fa) (hfr : fr ≤ n ga) : ∀ (d i : Nat) (pr : Nat → Int32) (H : Heap) (locs : List Loc) (ls : Array Slot), i + d = n ga → pr ra = (-1) → cj_V D A H0 (wM kd ad E rn ch n con ow ge cl ed co hz lo pr) H locs → lv_has ls 11 [(7, .int (nI i)), (6, .int (nI ra)), (5, .int (nI fr)), (4, .int (nI (n ga))), (3, .int (nI (n fa))), (0, .ref (ad 0)), (1, .int (nI fa)), (2, .int (nI ga))] → (∀ (pr9 : Nat → Int32) (H : Heap) (locs : List Loc) (ls : Array Slot), pr9 ra = oI (cj_f2 (cj_P (fun i => con (40 * fa + i)) (fun i => con (40 * ga + i)) (n fa) (n ga) ra fr) d i) → (∀ k, k ≠ ra → pr9 k = pr k) → cj_V D A H0 (wM kd ad E rn ch n con ow ge cl ed co hz lo pr9) H locs → lv_has ls 11 [(6, .int (nI ra)), (5, .int (nI fr)), (4, .int (nI (n ga))), (3, .int (nI (n fa))), (0, .ref (ad 0)), (1, .int (nI fa)), (2, .int (nI ga))] → W p l e (cj_rm 1) s m args below meth c H locs 0 0 Q (F0 m 298 ls [])) → W p l e (cj_rm 1) s m args below meth c H locs 0 0 Q (F0 m 217 ls []) := by
  obtain ⟨⟨hx, hb, hml, hown, hts⟩, hK, hlk⟩ := id X
  intro d
  induction d with
  | zero =>
    intro i pr H locs ls hi hpr V hl kont
    refine lv_iload hx hb dM_compare_217 (lv_at hl 0 rfl) ?_
    refine lv_iload hx hb dM_compare_219 (lv_at hl 3 rfl) ?_
    refine cj_n_ge (tgt := 298) hx hb dM_compare_221 (by decide) (by omega) (by omega) (fun c_1 => ?_) (fun c_1 => ?_)
    ·
      exact kont _ _ _ _ hpr (fun _ _ => rfl) V (lv_sub hl [1, 2, 3, 4, 5, 6, 7] rfl)
    ·
      exact absurd c_1 (by omega)
  | succ d ih =>
    intro i pr H locs ls hi hpr V hl kont
    refine lv_iload hx hb dM_compare_217 (lv_at hl 0 rfl) ?_
    refine lv_iload hx hb dM_compare_219 (lv_at hl 3 rfl) ?_
    refine cj_n_ge (tgt := 298) hx hb dM_compare_221 (by decide) (by omega) (by omega) (fun c_1 => ?_) (fun c_1 => ?_)
    ·
      exact absurd c_1 (by omega)
    ·
      refine lv_aload_n hx hb dM_compare_224 rfl (lv_at hl 5 rfl) ?_
      refine gM 12 X V fl_M_39 (by decide) rfl dM_compare_225 ?_
      refine lv_iload hx hb dM_compare_228 (lv_at hl 1 rfl) ?_
      refine rM_pr X V (by omega) dM_compare_230 ?_
      refine cj_ti hpr ?_
      refine lv_iconst (v := (-1)) hx hb dM_compare_231 (by decide) ?_
      refine lv_icmp_ne (tgt := 298) hx hb dM_compare_232 (by decide) (fun h => absurd rfl h) (fun _ => ?_)
      refine lv_aload_n hx hb dM_compare_235 rfl (lv_at hl 5 rfl) ?_
      refine lv_iload_n hx hb dM_compare_236 rfl (lv_at hl 6 rfl) ?_
      refine lv_iload hx hb dM_compare_237 (lv_at hl 1 rfl) ?_
      refine lv_iload_n hx hb dM_compare_239 rfl (lv_at hl 7 rfl) ?_
      refine lv_iload hx hb dM_compare_240 (lv_at hl 0 rfl) ?_
      refine cj_cvi X V (c_M_isAlike l D kd ad fa ra ga i (by omega) (by omega) (by omega) (by omega)) 0 2 rfl rfl rfl ml_M_64 im_M_isAlike se_M_isAlike in_M cd_M_isAlike hd_M_isAlike ⟨by decide, by decide⟩ ⟨Nat.le_refl _, Nat.le_refl _⟩ hl.1 rfl (Nat.le_of_ble_eq_true rfl) dM_compare_242 (fun r_9 u_9 H locs hw V => ?_)
      obtain rfl := hw
      refine cj_b_eq (tgt := 292) hx hb dM_compare_245 (by decide) (fun c_3 => ?_) (fun c_3 => ?_)
      ·
        refine lv_iinc (v := nI (i + 1)) (lv' := [(7, .int (nI (i + 1))), (6, .int (nI ra)), (5, .int (nI fr)), (4, .int (nI (n ga))), (3, .int (nI (n fa))), (0, .ref (ad 0)), (1, .int (nI fa)), (2, .int (nI ga))]) hx hb dM_compare_292 hl (k := 0) rfl (cj_inc _) (by decide) rfl (fun ls hl => ?_)
        refine lv_goto (tgt := 217) hx hb dM_compare_295 (by decide) ?_
        have hp : cj_P (fun i => con (40 * fa + i)) (fun i => con (40 * ga + i)) (n fa) (n ga) ra fr i = false := by unfold cj_P; rw [c_3]; rfl
        exact ih (i + 1) _ _ _ ls (by omega) hpr V (lv_sub hl [0, 1, 2, 3, 4, 5, 6, 7] rfl) (fun pr9 H locs ls h1 h2 => kont pr9 H locs ls (by rw [cj_f2_f hp]; exact h1) h2)
      ·
        refine lv_aload_n hx hb dM_compare_248 rfl (lv_at hl 5 rfl) ?_
        refine gM 11 X V fl_M_36 (by decide) rfl dM_compare_249 ?_
        refine lv_bipush (v := nI 41) hx hb dM_compare_252 (by decide) ?_
        refine lv_iload hx hb dM_compare_254 (lv_at hl 1 rfl) ?_
        refine lv_iconst (v := nI 1) hx hb dM_compare_256 (by decide) ?_
        refine cj_iaddN hx hb dM_compare_257 ?_
        refine cj_imulN hx hb dM_compare_258 ?_
        refine lv_iload hx hb dM_compare_259 (lv_at hl 0 rfl) ?_
        refine cj_iaddN hx hb dM_compare_261 ?_
        refine lv_iconst (v := nI 1) hx hb dM_compare_262 (by decide) ?_
        refine cj_iaddN hx hb dM_compare_263 ?_
        refine rM_lo X V (by omega) dM_compare_264 ?_
        have eC : lo (41 * (ra + 1) + i + 1) = cj_T (fun i => con (40 * fa + i)) (fun i => con (40 * ga + i)) (n fa) (n ga) (ra + 1) (i + 1) := hJ (ra + 1) (by omega) (by omega) (i + 1) (by omega)
        have tC : cj_T (fun i => con (40 * fa + i)) (fun i => con (40 * ga + i)) (n fa) (n ga) (ra + 1) (i + 1) ≤ 40 := cj_T_le40 hnf (by omega) (by omega)
        refine lv_iconst (v := nI 1) hx hb dM_compare_265 (by decide) ?_
        refine cj_iaddN hx hb dM_compare_266 ?_
        refine lv_aload_n hx hb dM_compare_267 rfl (lv_at hl 5 rfl) ?_
        refine gM 11 X V fl_M_36 (by decide) rfl dM_compare_268 ?_
        refine lv_bipush (v := nI 41) hx hb dM_compare_271 (by decide) ?_
        refine lv_iload hx hb dM_compare_273 (lv_at hl 1 rfl) ?_
        refine cj_imulN hx hb dM_compare_275 ?_
        refine lv_iload hx hb dM_compare_276 (lv_at hl 2 rfl) ?_
        refine cj_iaddN hx hb dM_compare_278 ?_
        refine rM_lo X V (by omega) dM_compare_279 ?_
        have eF : lo (41 * ra + fr) = cj_T (fun i => con (40 * fa + i)) (fun i => con (40 * ga + i)) (n fa) (n ga) ra fr := hJ ra (by omega) (by omega) fr (by omega)
        have tF : cj_T (fun i => con (40 * fa + i)) (fun i => con (40 * ga + i)) (n fa) (n ga) ra fr ≤ 40 := cj_T_le40 hnf (by omega) (by omega)
        refine cj_n_ne (tgt := 292) hx hb dM_compare_280 (by decide) (by omega) (by omega) (fun c_4 => ?_) (fun c_4 => ?_)
        ·
          refine lv_iinc (v := nI (i + 1)) (lv' := [(7, .int (nI (i + 1))), (6, .int (nI ra)), (5, .int (nI fr)), (4, .int (nI (n ga))), (3, .int (nI (n fa))), (0, .ref (ad 0)), (1, .int (nI fa)), (2, .int (nI ga))]) hx hb dM_compare_292 hl (k := 0) rfl (cj_inc _) (by decide) rfl (fun ls hl => ?_)
          refine lv_goto (tgt := 217) hx hb dM_compare_295 (by decide) ?_
          have hp : cj_P (fun i => con (40 * fa + i)) (fun i => con (40 * ga + i)) (n fa) (n ga) ra fr i = false := by unfold cj_P; rw [c_3, decide_eq_false (show ¬ (cj_T (fun i => con (40 * fa + i)) (fun i => con (40 * ga + i)) (n fa) (n ga) (ra + 1) (i + 1) + 1 = cj_T (fun i => con (40 * fa + i)) (fun i => con (40 * ga + i)) (n fa) (n ga) ra fr) by omega)]; rfl
          exact ih (i + 1) _ _ _ ls (by omega) hpr V (lv_sub hl [0, 1, 2, 3, 4, 5, 6, 7] rfl) (fun pr9 H locs ls h1 h2 => kont pr9 H locs ls (by rw [cj_f2_f hp]; exact h1) h2)
        ·
          refine lv_aload_n hx hb dM_compare_283 rfl (lv_at hl 5 rfl) ?_
          refine gM 12 X V fl_M_39 (by decide) rfl dM_compare_284 ?_
          refine lv_iload hx hb dM_compare_287 (lv_at hl 1 rfl) ?_
          refine lv_iload hx hb dM_compare_289 (lv_at hl 0 rfl) ?_
          refine sM_pr X V (by omega) dM_compare_291 (fun H locs V => ?_)
          refine lv_iinc (v := nI (i + 1)) (lv' := [(7, .int (nI (i + 1))), (6, .int (nI ra)), (5, .int (nI fr)), (4, .int (nI (n ga))), (3, .int (nI (n fa))), (0, .ref (ad 0)), (1, .int (nI fa)), (2, .int (nI ga))]) hx hb dM_compare_292 hl (k := 0) rfl (cj_inc _) (by decide) rfl (fun ls hl => ?_)
          refine lv_goto (tgt := 217) hx hb dM_compare_295 (by decide) ?_
          have hp : cj_P (fun i => con (40 * fa + i)) (fun i => con (40 * ga + i)) (n fa) (n ga) ra fr i = true := by unfold cj_P; rw [c_3, decide_eq_true (show cj_T (fun i => con (40 * fa + i)) (fun i => con (40 * ga + i)) (n fa) (n ga) (ra + 1) (i + 1) + 1 = cj_T (fun i => con (40 * fa + i)) (fun i => con (40 * ga + i)) (n fa) (n ga) ra fr by omega)]; rfl
          refine lv_iload hx hb dM_compare_217 (lv_at hl 0 rfl) ?_
          refine lv_iload hx hb dM_compare_219 (lv_at hl 3 rfl) ?_
          refine cj_n_ge (tgt := 298) hx hb dM_compare_221 (by decide) (by omega) (by omega) (fun c_5 => ?_) (fun c_5 => ?_)
          ·
            exact kont _ _ _ _ (by rw [va_up_self, cj_f2_t hp]; rfl) (fun k hk => va_up_ne _ _ hk) V (lv_sub hl [1, 2, 3, 4, 5, 6, 7] rfl)
          ·
            refine lv_aload_n hx hb dM_compare_224 rfl (lv_at hl 5 rfl) ?_
            refine gM 12 X V fl_M_39 (by decide) rfl dM_compare_225 ?_
            refine lv_iload hx hb dM_compare_228 (lv_at hl 1 rfl) ?_
            refine rM_pr X V (by omega) dM_compare_230 ?_
            rw [va_up_self]
            refine lv_iconst (v := (-1)) hx hb dM_compare_231 (by decide) ?_
            refine lv_icmp_ne (tgt := 298) hx hb dM_compare_232 (by decide) (fun _ => ?_) (fun h => absurd h (cj_nm1 (by omega)))
            exact kont _ _ _ _ (by rw [va_up_self, cj_f2_t hp]; rfl) (fun k hk => va_up_ne _ _ hk) V (lv_sub hl [1, 2, 3, 4, 5, 6, 7] rfl)
set_option maxRecDepth 100000 in
set_option maxHeartbeats 4000000 in
theorem lp_M_ch1 {p : Program} {l : Launch} {e : Env} {s : State} {m : MethodId} {args : Array Value} {below : List Frame} {meth : Method} {c : Code} {Q : State → Prop} {D : va_G} {kd : Nat → ClassId} {A : Nat → Prop} {H0 : Heap} {ad : Nat → Nat} {E : Nat} {rn : Nat} {ch : Int32} {n : Nat → Nat} {con : Nat → Int32} {ow : Nat → Nat} {ge : Nat → Bool} {cl : Nat → Bool} {ed : Nat → Nat} {co : Nat → Nat} {hz : Nat → Int64} {lo : Nat → Nat} (X : cj_X p s m args c meth cM_compare 11 RM D kd) (fa ga : Nat) (hf : fa < 8) (hg : ga < 8) (hnf : n fa ≤ 40) (hng : n ga ≤ 40) (hJ : cj_J (fun i => con (40 * fa + i)) (fun i => con (40 * ga + i)) (n fa) (n ga) (cj_m2 lo) 0) : ∀ (d i : Nat) (pr : Nat → Int32) (H : Heap) (locs : List Loc) (ls : Array Slot), i + d = n fa → (∀ j, j < i → pr j = oI (cj_pp (fun i => con (40 * fa + i)) (fun i => con (40 * ga + i)) (n fa) (n ga) j)) → cj_V D A H0 (wM kd ad E rn ch n con ow ge cl ed co hz lo pr) H locs → lv_has ls 11 [(6, .int (nI i)), (5, .int (nI (cj_pf (fun i => con (40 * fa + i)) (fun i => con (40 * ga + i)) (n fa) (n ga) i))), (4, .int (nI (n ga))), (3, .int (nI (n fa))), (0, .ref (ad 0)), (1, .int (nI fa)), (2, .int (nI ga))] → (∀ (pr : Nat → Int32) (H : Heap) (locs : List Loc) (ls : Array Slot), (∀ j, j < n fa → pr j = oI (cj_pp (fun i => con (40 * fa + i)) (fun i => con (40 * ga + i)) (n fa) (n ga) j)) → cj_V D A H0 (wM kd ad E rn ch n con ow ge cl ed co hz lo pr) H locs → lv_has ls 11 [(6, .int (nI (n fa))), (5, .int (nI (cj_pf (fun i => con (40 * fa + i)) (fun i => con (40 * ga + i)) (n fa) (n ga) (n fa)))), (4, .int (nI (n ga))), (3, .int (nI (n fa))), (0, .ref (ad 0)), (1, .int (nI fa)), (2, .int (nI ga))] → W p l e (cj_rm 1) s m args below meth c H locs 0 0 Q (F0 m 331 ls [])) → W p l e (cj_rm 1) s m args below meth c H locs 0 0 Q (F0 m 199 ls []) := by
  obtain ⟨⟨hx, hb, hml, hown, hts⟩, hK, hlk⟩ := id X
  intro d
  induction d with
  | zero =>
    intro i pr H locs ls hi hP V hl kont
    have hpf := cj_pf_le (a := fun i => con (40 * fa + i)) (b := fun i => con (40 * ga + i)) (h := n fa) (w := n ga) i
    refine lv_iload hx hb dM_compare_199 (lv_at hl 0 rfl) ?_
    refine lv_iload_n hx hb dM_compare_201 rfl (lv_at hl 3 rfl) ?_
    refine cj_n_ge (tgt := 331) hx hb dM_compare_202 (by decide) (by omega) (by omega) (fun c_1 => ?_) (fun c_1 => ?_)
    ·
      obtain rfl : i = n fa := by omega
      exact kont _ _ _ _ hP V (lv_sub hl [0, 1, 2, 3, 4, 5, 6] rfl)
    ·
      exact absurd c_1 (by omega)
  | succ d ih =>
    intro i pr H locs ls hi hP V hl kont
    have hpf := cj_pf_le (a := fun i => con (40 * fa + i)) (b := fun i => con (40 * ga + i)) (h := n fa) (w := n ga) i
    refine lv_iload hx hb dM_compare_199 (lv_at hl 0 rfl) ?_
    refine lv_iload_n hx hb dM_compare_201 rfl (lv_at hl 3 rfl) ?_
    refine cj_n_ge (tgt := 331) hx hb dM_compare_202 (by decide) (by omega) (by omega) (fun c_1 => ?_) (fun c_1 => ?_)
    ·
      exact absurd c_1 (by omega)
    ·
      refine lv_aload_n hx hb dM_compare_205 rfl (lv_at hl 4 rfl) ?_
      refine gM 12 X V fl_M_39 (by decide) rfl dM_compare_206 ?_
      refine lv_iload hx hb dM_compare_209 (lv_at hl 0 rfl) ?_
      refine lv_iconst (v := (-1)) hx hb dM_compare_211 (by decide) ?_
      refine sM_pr X V (by omega) dM_compare_212 (fun H locs V => ?_)
      refine lv_iload hx hb dM_compare_213 (lv_at hl 1 rfl) ?_
      refine lv_istore (lv' := [(7, .int (nI (cj_pf (fun i => con (40 * fa + i)) (fun i => con (40 * ga + i)) (n fa) (n ga) i))), (6, .int (nI i)), (5, .int (nI (cj_pf (fun i => con (40 * fa + i)) (fun i => con (40 * ga + i)) (n fa) (n ga) i))), (4, .int (nI (n ga))), (3, .int (nI (n fa))), (0, .ref (ad 0)), (1, .int (nI fa)), (2, .int (nI ga))]) hx hb dM_compare_215 hl (by decide) rfl (fun ls hl => ?_)
      refine lp_M_ch2 X fa ga hf hg hnf hng hJ i (cj_pf (fun i => con (40 * fa + i)) (fun i => con (40 * ga + i)) (n fa) (n ga) i) (by omega) hpf (n ga - cj_pf (fun i => con (40 * fa + i)) (fun i => con (40 * ga + i)) (n fa) (n ga) i) (cj_pf (fun i => con (40 * fa + i)) (fun i => con (40 * ga + i)) (n fa) (n ga) i) _ _ _ ls (by omega) (va_up_self _ _ _) V (lv_sub hl [0, 1, 2, 3, 4, 5, 6, 7] rfl) (fun pr9 H locs ls h1 h2 V hl => ?_)
      rw [cj_pick (by omega) hpf] at h1
      have h1 : pr9 i = oI (cj_pp (fun i => con (40 * fa + i)) (fun i => con (40 * ga + i)) (n fa) (n ga) i) := h1
      have hP9 := cj_fo hP h1 h2
      rcases hk : cj_pp (fun i => con (40 * fa + i)) (fun i => con (40 * ga + i)) (n fa) (n ga) i with _ | q
      ·
        have h3 : pr9 i = (-1) := by rw [h1, hk]; rfl
        refine lv_aload_n hx hb dM_compare_298 rfl (lv_at hl 4 rfl) ?_
        refine gM 12 X V fl_M_39 (by decide) rfl dM_compare_299 ?_
        refine lv_iload hx hb dM_compare_302 (lv_at hl 0 rfl) ?_
        refine rM_pr X V (by omega) dM_compare_304 ?_
        refine cj_ti h3 ?_
        refine lv_iconst (v := (-1)) hx hb dM_compare_305 (by decide) ?_
        refine lv_icmp_ne (tgt := 314) hx hb dM_compare_306 (by decide) (fun h => absurd rfl h) (fun _ => ?_)
        refine lv_iload hx hb dM_compare_309 (lv_at hl 1 rfl) ?_
        refine lv_goto (tgt := 323) hx hb dM_compare_311 (by decide) ?_
        refine lv_istore (lv' := [(5, .int (nI (cj_pf (fun i => con (40 * fa + i)) (fun i => con (40 * ga + i)) (n fa) (n ga) i))), (6, .int (nI i)), (4, .int (nI (n ga))), (3, .int (nI (n fa))), (0, .ref (ad 0)), (1, .int (nI fa)), (2, .int (nI ga))]) hx hb dM_compare_323 hl (by decide) rfl (fun ls hl => ?_)
        refine lv_iinc (v := nI (i + 1)) (lv' := [(6, .int (nI (i + 1))), (5, .int (nI (cj_pf (fun i => con (40 * fa + i)) (fun i => con (40 * ga + i)) (n fa) (n ga) i))), (4, .int (nI (n ga))), (3, .int (nI (n fa))), (0, .ref (ad 0)), (1, .int (nI fa)), (2, .int (nI ga))]) hx hb dM_compare_325 hl (k := 1) rfl (cj_inc _) (by decide) rfl (fun ls hl => ?_)
        refine lv_goto (tgt := 199) hx hb dM_compare_328 (by decide) ?_
        exact ih (i + 1) _ _ _ ls (by omega) hP9 V (lv_sub hl [0, 1, 2, 3, 4, 5, 6] (by rw [cj_pf_n hk]; rfl)) kont
      ·
        have h3 : pr9 i = nI q := by rw [h1, hk]; rfl
        have hq := cj_pp_lt hk
        refine lv_aload_n hx hb dM_compare_298 rfl (lv_at hl 4 rfl) ?_
        refine gM 12 X V fl_M_39 (by decide) rfl dM_compare_299 ?_
        refine lv_iload hx hb dM_compare_302 (lv_at hl 0 rfl) ?_
        refine rM_pr X V (by omega) dM_compare_304 ?_
        refine cj_ti h3 ?_
        refine lv_iconst (v := (-1)) hx hb dM_compare_305 (by decide) ?_
        refine lv_icmp_ne (tgt := 314) hx hb dM_compare_306 (by decide) (fun _ => ?_) (fun h => absurd h (cj_nm1 (by omega)))
        refine lv_aload_n hx hb dM_compare_314 rfl (lv_at hl 4 rfl) ?_
        refine gM 12 X V fl_M_39 (by decide) rfl dM_compare_315 ?_
        refine lv_iload hx hb dM_compare_318 (lv_at hl 0 rfl) ?_
        refine rM_pr X V (by omega) dM_compare_320 ?_
        refine cj_ti h3 ?_
        refine lv_iconst (v := nI 1) hx hb dM_compare_321 (by decide) ?_
        refine cj_iaddN hx hb dM_compare_322 ?_
        refine lv_istore (lv' := [(5, .int (nI (q + 1))), (6, .int (nI i)), (4, .int (nI (n ga))), (3, .int (nI (n fa))), (0, .ref (ad 0)), (1, .int (nI fa)), (2, .int (nI ga))]) hx hb dM_compare_323 hl (by decide) rfl (fun ls hl => ?_)
        refine lv_iinc (v := nI (i + 1)) (lv' := [(6, .int (nI (i + 1))), (5, .int (nI (q + 1))), (4, .int (nI (n ga))), (3, .int (nI (n fa))), (0, .ref (ad 0)), (1, .int (nI fa)), (2, .int (nI ga))]) hx hb dM_compare_325 hl (k := 1) rfl (cj_inc _) (by decide) rfl (fun ls hl => ?_)
        refine lv_goto (tgt := 199) hx hb dM_compare_328 (by decide) ?_
        exact ih (i + 1) _ _ _ ls (by omega) hP9 V (lv_sub hl [0, 1, 2, 3, 4, 5, 6] (by rw [cj_pf_s hk]; rfl)) kont
set_option maxRecDepth 100000 in
set_option maxHeartbeats 4000000 in
theorem c_M_compare (l : Launch) (D : va_G) (kd : Nat → ClassId) (ad : Nat → Nat) {E : Nat} {rn : Nat} {ch : Int32} {n : Nat → Nat} {con : Nat → Int32} {ow : Nat → Nat} {ge : Nat → Bool} {cl : Nat → Bool} {ed : Nat → Nat} {co : Nat → Nat} {hz : Nat → Int64} {lo : Nat → Nat} {pr : Nat → Int32} (fa ga : Nat) (hf : fa < 8) (hg : ga < 8) (hn : ∀ i, n i ≤ 40) : cj_Mv (S := (Nat → Nat) × (Nat → Int32)) l yM_compare cM_compare 11 none 1 D kd [.ref (ad 0), .int (nI fa), .int (nI ga)] (wM kd ad E rn ch n con ow ge cl ed co hz lo pr) (fun u => ∀ j, j < n fa → u.2 j = oI (cj_pp (fun i => con (40 * fa + i)) (fun i => con (40 * ga + i)) (n fa) (n ga) j)) (fun u => wM kd ad E rn ch n con ow ge (va_up (va_up cl fa true) ga true) ed co hz u.1 u.2) := by
  refine cj_ofv (by decide) (Nat.le_of_ble_eq_true rfl) ?_
  intro p e s m below meth c A ls X hr V hl
  obtain ⟨⟨hx, hb, hml, hown, hts⟩, hK, hlk⟩ := id X
  have hl : lv_has ls 11 [(0, .ref (ad 0)), (1, .int (nI fa)), (2, .int (nI ga))] := hl
  refine lv_aload_n hx hb dM_compare_0 rfl (lv_at hl 0 rfl) ?_
  refine gM 7 X V fl_M_23 (by decide) rfl dM_compare_1 ?_
  refine lv_iload_n hx hb dM_compare_4 rfl (lv_at hl 1 rfl) ?_
  refine lv_iconst (v := nI 1) hx hb dM_compare_5 (by decide) ?_
  refine sM_cl (x := true) X V (by omega) dM_compare_6 (fun H locs V => ?_)
  refine lv_aload_n hx hb dM_compare_7 rfl (lv_at hl 0 rfl) ?_
  refine gM 7 X V fl_M_23 (by decide) rfl dM_compare_8 ?_
  refine lv_iload_n hx hb dM_compare_11 rfl (lv_at hl 2 rfl) ?_
  refine lv_iconst (v := nI 1) hx hb dM_compare_12 (by decide) ?_
  refine sM_cl (x := true) X V (by omega) dM_compare_13 (fun H locs V => ?_)
  refine lv_aload_n hx hb dM_compare_14 rfl (lv_at hl 0 rfl) ?_
  refine gM 3 X V fl_M_7 (by decide) rfl dM_compare_15 ?_
  refine lv_iload_n hx hb dM_compare_18 rfl (lv_at hl 1 rfl) ?_
  refine rM_n X V (by omega) dM_compare_19 ?_
  refine lv_istore_n (lv' := [(3, .int (nI (n fa))), (0, .ref (ad 0)), (1, .int (nI fa)), (2, .int (nI ga))]) hx hb dM_compare_20 rfl hl (by decide) rfl (fun ls hl => ?_)
  refine lv_aload_n hx hb dM_compare_21 rfl (lv_at hl 1 rfl) ?_
  refine gM 3 X V fl_M_7 (by decide) rfl dM_compare_22 ?_
  refine lv_iload_n hx hb dM_compare_25 rfl (lv_at hl 3 rfl) ?_
  refine rM_n X V (by omega) dM_compare_26 ?_
  refine lv_istore (lv' := [(4, .int (nI (n ga))), (3, .int (nI (n fa))), (0, .ref (ad 0)), (1, .int (nI fa)), (2, .int (nI ga))]) hx hb dM_compare_27 hl (by decide) rfl (fun ls hl => ?_)
  refine lv_iload_n hx hb dM_compare_29 rfl (lv_at hl 1 rfl) ?_
  refine lv_istore (lv' := [(5, .int (nI (n fa))), (4, .int (nI (n ga))), (3, .int (nI (n fa))), (0, .ref (ad 0)), (1, .int (nI fa)), (2, .int (nI ga))]) hx hb dM_compare_30 hl (by decide) rfl (fun ls hl => ?_)
  refine lp_M_cmp1 X fa ga hf hg (hn fa) (hn ga) (n fa + 1) _ _ _ ls (Nat.le_refl _) cj_m_first V (lv_sub hl [0, 1, 2, 3, 4, 5] (by rw [cj_ps]; rfl)) (fun lo H locs ls hJ V hl => ?_)
  refine lv_iconst (v := nI 0) hx hb dM_compare_193 (by decide) ?_
  refine lv_istore (lv' := [(5, .int (nI 0)), (4, .int (nI (n ga))), (3, .int (nI (n fa))), (0, .ref (ad 0)), (1, .int (nI fa)), (2, .int (nI ga))]) hx hb dM_compare_194 hl (by decide) rfl (fun ls hl => ?_)
  refine lv_iconst (v := nI 0) hx hb dM_compare_196 (by decide) ?_
  refine lv_istore (lv' := [(6, .int (nI 0)), (5, .int (nI 0)), (4, .int (nI (n ga))), (3, .int (nI (n fa))), (0, .ref (ad 0)), (1, .int (nI fa)), (2, .int (nI ga))]) hx hb dM_compare_197 hl (by decide) rfl (fun ls hl => ?_)
  refine lp_M_ch1 X fa ga hf hg (hn fa) (hn ga) hJ (n fa) 0 _ _ _ ls (by omega) (fun _ h => absurd h (Nat.not_lt_zero _)) V (lv_sub hl [0, 1, 2, 3, 4, 5, 6] rfl) (fun pr H locs ls hP V hl => ?_)
  exact cj_retv (lo, pr) X hr V hP dM_compare_331
end
section
-- THE REFERENCE: fresh lines
abbrev cj_c2 (con : Nat → Int32) : Nat → Nat → Int32 := fun ea i => con (40 * ea + i)
def cj_pa (pp : Nat → Option Nat) : Nat → Int64
  | 0 => 0
  | i + 1 => match pp i with
    | none => cj_pa pp i
    | some q => cj_pa pp i ||| cj_bit q
theorem cj_pa_n {pp : Nat → Option Nat} {i : Nat} (h : pp i = none) : cj_pa pp (i + 1) = cj_pa pp i := by
  show (match pp i with | none => cj_pa pp i | some q => cj_pa pp i ||| cj_bit q) = _
  rw [h]
theorem cj_pa_s {pp : Nat → Option Nat} {i q : Nat} (h : pp i = some q) : cj_pa pp (i + 1) = cj_pa pp i ||| cj_bit q := by
  show (match pp i with | none => cj_pa pp i | some q => cj_pa pp i ||| cj_bit q) = _
  rw [h]
def cj_FR (ge : Nat → Bool) (old h : Int64) (ea : Nat) (b : Bool) (i : Nat) : Bool := !cj_tb old i && (!ge (40 * ea + i) && (!b || cj_tb h i))
def f_freshM (E rn : Nat) (n : Nat → Nat) (con : Nat → Nat → Int32) (ge : Nat → Bool) (ed : Nat → Nat) (hz : Nat → Int64) (x y : Int32) (b : Bool) : Int32 := match cj_ix x rn with
  | none => -1
  | some j => match cj_ix y E with
    | none => -1
    | some ea => nI (cj_cnt (cj_FR ge (cj_pa (cj_pp (con ea) (con (ed j)) (n ea) (n (ed j))) (n ea)) (hz j) (ed j) b) (n (ed j)))
theorem cj_sar0 {x : Int64} {i : Nat} (hi : i < 64) : ((x >>> ((nI i).toInt64 &&& 63)) &&& lN 1 = 0) ↔ cj_tb x i = false := by
  rw [← cj_sar_bit hi]
  generalize x >>> ((nI i).toInt64 &&& 63) = z
  have := cj_and_bit (x := z) (i := 0) (by decide)
  rw [show cj_bit 0 = lN 1 from rfl] at this
  exact this
theorem cj_sar0_f {x : Int64} {i : Nat} (hi : i < 64) (h : ¬ (x >>> ((nI i).toInt64 &&& 63)) &&& lN 1 = 0) : cj_tb x i = true := by
  cases hc : cj_tb x i with
  | true => rfl
  | false => exact absurd ((cj_sar0 hi).mpr hc) h
end
section
set_option maxRecDepth 100000 in
set_option maxHeartbeats 4000000 in
theorem c_M_same (l : Launch) (D : va_G) (kd : Nat → ClassId) (ad : Nat → Nat) {E : Nat} {rn : Nat} {ch : Int32} {n : Nat → Nat} {con : Nat → Int32} {ow : Nat → Nat} {ge : Nat → Bool} {cl : Nat → Bool} {ed : Nat → Nat} {co : Nat → Nat} {hz : Nat → Int64} {lo : Nat → Nat} {pr : Nat → Int32} (hE : E ≤ 8) (hn : ∀ i, n i ≤ 40) (hR : rn ≤ 14) (hed : ∀ r, r < rn → ed r < E) (hco : ∀ r, co r ≤ 100000) (x y z : Int32) : cj_Mi (S := (Nat → Bool) × (Nat → Nat) × (Nat → Int32)) l yM_same cM_same 4 (some .int) 2 D kd [.ref (ad 0), .int x, .int y, .int z] (wM kd ad E rn ch n con ow ge cl ed co hz lo pr) (fun r u => r = f_same E n (cj_c2 con) x y z ∧ u.1 = k_cl cl (q_same E n x y z)) (fun u => wM kd ad E rn ch n con ow ge u.1 ed co hz u.2.1 u.2.2) := by
  refine cj_ofi (by decide) (Nat.le_of_ble_eq_true rfl) ?_
  intro p e s m below meth c A ls X hr V hl
  obtain ⟨⟨hx, hb, hml, hown, hts⟩, hK, hlk⟩ := id X
  have hl : lv_has ls 4 [(0, .ref (ad 0)), (1, .int x), (2, .int y), (3, .int z)] := hl
  refine lv_iload_n hx hb dM_same_0 rfl (lv_at hl 1 rfl) ?_
  refine lv_aload_n hx hb dM_same_1 rfl (lv_at hl 0 rfl) ?_
  refine gM 0 X V fl_M_42 (by decide) rfl dM_same_2 ?_
  refine cj_csi X V (c_M_in l D kd ad x E (by omega)) ml_M_46 st_M_in in_M cd_M_in hd_M_in ⟨by decide, by decide⟩ ⟨Nat.le_refl _, Nat.le_refl _⟩ hl.1 rfl (Nat.le_of_ble_eq_true rfl) dM_same_5 (fun r_9 u_9 H locs hw V => ?_)
  rcases hw with ⟨rfl, j_1, hj_1, rfl⟩ | ⟨rfl, hj_1⟩
  ·
    have ij_1 := cj_ix_t hj_1 (show E < 2 ^ 31 by omega)
    refine lv_if_eq (tgt := 35) hx hb dM_same_8 (by decide) (fun h => absurd h (by decide)) (fun _ => ?_)
    refine lv_iload_n hx hb dM_same_11 rfl (lv_at hl 2 rfl) ?_
    refine lv_aload_n hx hb dM_same_12 rfl (lv_at hl 0 rfl) ?_
    refine gM 0 X V fl_M_42 (by decide) rfl dM_same_13 ?_
    refine cj_csi X V (c_M_in l D kd ad y E (by omega)) ml_M_46 st_M_in in_M cd_M_in hd_M_in ⟨by decide, by decide⟩ ⟨Nat.le_refl _, Nat.le_refl _⟩ hl.1 rfl (Nat.le_of_ble_eq_true rfl) dM_same_16 (fun r_9 u_9 H locs hw V => ?_)
    rcases hw with ⟨rfl, j_3, hj_3, rfl⟩ | ⟨rfl, hj_3⟩
    ·
      have ij_3 := cj_ix_t hj_3 (show E < 2 ^ 31 by omega)
      refine lv_if_eq (tgt := 35) hx hb dM_same_19 (by decide) (fun h => absurd h (by decide)) (fun _ => ?_)
      refine lv_iload_n hx hb dM_same_22 rfl (lv_at hl 3 rfl) ?_
      refine lv_aload_n hx hb dM_same_23 rfl (lv_at hl 0 rfl) ?_
      refine gM 3 X V fl_M_7 (by decide) rfl dM_same_24 ?_
      refine lv_iload_n hx hb dM_same_27 rfl (lv_at hl 1 rfl) ?_
      refine rM_n X V (by omega) dM_same_28 ?_
      have f_e_5 := hn j_1
      refine cj_csi X V (c_M_in l D kd ad z (n j_1) (by omega)) ml_M_46 st_M_in in_M cd_M_in hd_M_in ⟨by decide, by decide⟩ ⟨Nat.le_refl _, Nat.le_refl _⟩ hl.1 rfl (Nat.le_of_ble_eq_true rfl) dM_same_29 (fun r_9 u_9 H locs hw V => ?_)
      rcases hw with ⟨rfl, j_6, hj_6, rfl⟩ | ⟨rfl, hj_6⟩
      ·
        have ij_6 := cj_ix_t hj_6 (show n j_1 < 2 ^ 31 by omega)
        refine lv_if_ne (tgt := 37) hx hb dM_same_32 (by decide) (fun _ => ?_) (fun h => absurd h (by decide))
        refine lv_aload_n hx hb dM_same_37 rfl (lv_at hl 0 rfl) ?_
        refine lv_iload_n hx hb dM_same_38 rfl (lv_at hl 1 rfl) ?_
        refine lv_iload_n hx hb dM_same_39 rfl (lv_at hl 2 rfl) ?_
        refine cj_cvv X V (c_M_compare l D kd ad j_1 j_3 (by omega) (by omega) hn) 0 2 rfl rfl rfl ml_M_68 im_M_compare se_M_compare in_M cd_M_compare hd_M_compare ⟨by decide, by decide⟩ ⟨Nat.le_refl _, Nat.le_refl _⟩ hl.1 rfl (Nat.le_of_ble_eq_true rfl) dM_same_40 (fun uc H locs hw V => ?_)
        have hP := hw
        refine lv_aload_n hx hb dM_same_43 rfl (lv_at hl 0 rfl) ?_
        refine gM 12 X V fl_M_39 (by decide) rfl dM_same_44 ?_
        refine lv_iload_n hx hb dM_same_47 rfl (lv_at hl 3 rfl) ?_
        refine rM_pr X V (by omega) dM_same_48 ?_
        exact cj_reti (va_up (va_up cl j_1 true) j_3 true, uc.1, uc.2) X hr V (by refine ⟨?_, ?_⟩; · { simp only [f_same, ij_1, ij_3, ij_6]; exact hP j_6 (by omega) }; · { simp only [q_same, ij_1, ij_3, ij_6]; rfl }) dM_same_49
      ·
        have ij_6 := cj_ix_f hj_6
        refine lv_if_ne (tgt := 37) hx hb dM_same_32 (by decide) (fun h => absurd (by decide) h) (fun _ => ?_)
        refine lv_iconst (v := (-1)) hx hb dM_same_35 (by decide) ?_
        exact cj_reti (cl, lo, pr) X hr V (by refine ⟨?_, ?_⟩; · { simp only [f_same, ij_1, ij_3, ij_6] }; · { simp only [q_same, ij_1, ij_3, ij_6]; rfl }) dM_same_36
    ·
      have ij_3 := cj_ix_f hj_3
      refine lv_if_eq (tgt := 35) hx hb dM_same_19 (by decide) (fun _ => ?_) (fun h => absurd (by decide) h)
      refine lv_iconst (v := (-1)) hx hb dM_same_35 (by decide) ?_
      exact cj_reti (cl, lo, pr) X hr V (by refine ⟨?_, ?_⟩; · { simp only [f_same, ij_1, ij_3] }; · { simp only [q_same, ij_1, ij_3]; rfl }) dM_same_36
  ·
    have ij_1 := cj_ix_f hj_1
    refine lv_if_eq (tgt := 35) hx hb dM_same_8 (by decide) (fun _ => ?_) (fun h => absurd (by decide) h)
    refine lv_iconst (v := (-1)) hx hb dM_same_35 (by decide) ?_
    exact cj_reti (cl, lo, pr) X hr V (by refine ⟨?_, ?_⟩; · { simp only [f_same, ij_1] }; · { simp only [q_same, ij_1]; rfl }) dM_same_36
set_option maxRecDepth 100000 in
set_option maxHeartbeats 4000000 in
theorem lp_M_map {p : Program} {l : Launch} {e : Env} {s : State} {m : MethodId} {args : Array Value} {below : List Frame} {meth : Method} {c : Code} {Q : State → Prop} {D : va_G} {kd : Nat → ClassId} {A : Nat → Prop} {H0 : Heap} {ad : Nat → Nat} {E : Nat} {rn : Nat} {ch : Int32} {n : Nat → Nat} {con : Nat → Int32} {ow : Nat → Nat} {ge : Nat → Bool} {cl : Nat → Bool} {ed : Nat → Nat} {co : Nat → Nat} {hz : Nat → Int64} {lo : Nat → Nat} {pr : Nat → Int32} (X : cj_X p s m args c meth cM_map 6 RM D kd) (hn : ∀ i, n i ≤ 40) (j ea : Nat) (hj : j < 14) (hej : ed j < 8) (pp : Nat → Option Nat) (hpr : ∀ i, i < n (ed j) → pr i = oI (pp i)) (hpp : ∀ i q, pp i = some q → q < 40) : ∀ (d i : Nat) (H : Heap) (locs : List Loc) (ls : Array Slot), i + d = n (ed j) → cj_V D A H0 (wM kd ad E rn ch n con ow ge cl ed co hz lo pr) H locs → lv_has ls 6 [(5, .int (nI i)), (3, .long (cj_po pp (hz j) i)), (0, .ref (ad 0)), (1, .int (nI j)), (2, .int (nI ea))] → (∀ (H : Heap) (locs : List Loc) (ls : Array Slot), cj_V D A H0 (wM kd ad E rn ch n con ow ge cl ed co hz lo pr) H locs → lv_has ls 6 [(5, .int (nI (n (ed j)))), (3, .long (cj_po pp (hz j) (n (ed j)))), (0, .ref (ad 0)), (1, .int (nI j)), (2, .int (nI ea))] → W p l e (cj_rm 2) s m args below meth c H locs 0 0 Q (F0 m 108 ls [])) → W p l e (cj_rm 2) s m args below meth c H locs 0 0 Q (F0 m 49 ls []) := by
  obtain ⟨⟨hx, hb, hml, hown, hts⟩, hK, hlk⟩ := id X
  intro d
  induction d with
  | zero =>
    intro i H locs ls hi V hl kont
    have hnj := hn (ed j)
    refine lv_iload hx hb dM_map_49 (lv_at hl 0 rfl) ?_
    refine lv_aload_n hx hb dM_map_51 rfl (lv_at hl 2 rfl) ?_
    refine gM 3 X V fl_M_7 (by decide) rfl dM_map_52 ?_
    refine lv_aload_n hx hb dM_map_55 rfl (lv_at hl 2 rfl) ?_
    refine gM 8 X V fl_M_26 (by decide) rfl dM_map_56 ?_
    refine lv_iload_n hx hb dM_map_59 rfl (lv_at hl 3 rfl) ?_
    refine rM_ed X V (by omega) dM_map_60 ?_
    refine rM_n X V (by omega) dM_map_61 ?_
    have f_e_1 := hn (ed j)
    refine cj_n_ge (tgt := 108) hx hb dM_map_62 (by decide) (by omega) (by omega) (fun c_2 => ?_) (fun c_2 => ?_)
    ·
      obtain rfl : i = n (ed j) := by omega
      exact kont _ _ _ V (lv_sub hl [0, 1, 2, 3, 4] rfl)
    ·
      exact absurd c_2 (by omega)
  | succ d ih =>
    intro i H locs ls hi V hl kont
    have hnj := hn (ed j)
    refine lv_iload hx hb dM_map_49 (lv_at hl 0 rfl) ?_
    refine lv_aload_n hx hb dM_map_51 rfl (lv_at hl 2 rfl) ?_
    refine gM 3 X V fl_M_7 (by decide) rfl dM_map_52 ?_
    refine lv_aload_n hx hb dM_map_55 rfl (lv_at hl 2 rfl) ?_
    refine gM 8 X V fl_M_26 (by decide) rfl dM_map_56 ?_
    refine lv_iload_n hx hb dM_map_59 rfl (lv_at hl 3 rfl) ?_
    refine rM_ed X V (by omega) dM_map_60 ?_
    refine rM_n X V (by omega) dM_map_61 ?_
    have f_e_1 := hn (ed j)
    refine cj_n_ge (tgt := 108) hx hb dM_map_62 (by decide) (by omega) (by omega) (fun c_2 => ?_) (fun c_2 => ?_)
    ·
      exact absurd c_2 (by omega)
    ·
      refine lv_lload_n hx hb dM_map_65 rfl (lv_at hl 1 rfl) ?_
      refine lv_aload_n hx hb dM_map_66 rfl (lv_at hl 2 rfl) ?_
      refine lv_iload_n hx hb dM_map_67 rfl (lv_at hl 3 rfl) ?_
      refine lv_iload hx hb dM_map_68 (lv_at hl 0 rfl) ?_
      refine cj_cvi X V (c_M_isHit l D kd ad j i (by omega) (by omega)) 0 2 rfl rfl rfl ml_M_61 im_M_isHit se_M_isHit in_M cd_M_isHit hd_M_isHit ⟨by decide, by decide⟩ ⟨Nat.le_refl _, Nat.le_refl _⟩ hl.1 rfl (Nat.le_of_ble_eq_true rfl) dM_map_70 (fun r_9 u_9 H locs hw V => ?_)
      obtain rfl := hw
      refine cj_b_eq (tgt := 99) hx hb dM_map_73 (by decide) (fun c_3 => ?_) (fun c_3 => ?_)
      ·
        refine lv_lconst (v := 0) hx hb dM_map_99 (by decide) ?_
        refine lv_lor hx hb dM_map_100 ?_
        refine lv_lstore_n (lv' := [(3, .long ((cj_po pp (hz j) i) ||| 0)), (5, .int (nI i)), (0, .ref (ad 0)), (1, .int (nI j)), (2, .int (nI ea))]) hx hb dM_map_101 rfl hl (by decide) rfl (fun ls hl => ?_)
        refine lv_iinc (v := nI (i + 1)) (lv' := [(5, .int (nI (i + 1))), (3, .long ((cj_po pp (hz j) i) ||| 0)), (0, .ref (ad 0)), (1, .int (nI j)), (2, .int (nI ea))]) hx hb dM_map_102 hl (k := 1) rfl (cj_inc _) (by decide) rfl (fun ls hl => ?_)
        refine lv_goto (tgt := 49) hx hb dM_map_105 (by decide) ?_
        exact ih (i + 1) _ _ ls (by omega) V (lv_sub hl [0, 1, 2, 3, 4] (by rw [cj_po_f c_3, cj_or0L]; rfl)) kont
      ·
        rcases hq : pp i with _ | q
        ·
          have hpi : pr i = (-1) := by rw [hpr i (by omega), hq]; rfl
          refine lv_aload_n hx hb dM_map_76 rfl (lv_at hl 2 rfl) ?_
          refine gM 12 X V fl_M_39 (by decide) rfl dM_map_77 ?_
          refine lv_iload hx hb dM_map_80 (lv_at hl 0 rfl) ?_
          refine rM_pr X V (by omega) dM_map_82 ?_
          refine cj_ti hpi ?_
          refine lv_iconst (v := (-1)) hx hb dM_map_83 (by decide) ?_
          refine lv_icmp_eq (tgt := 99) hx hb dM_map_84 (by decide) (fun _ => ?_) (fun h => absurd rfl h)
          refine lv_lconst (v := 0) hx hb dM_map_99 (by decide) ?_
          refine lv_lor hx hb dM_map_100 ?_
          refine lv_lstore_n (lv' := [(3, .long ((cj_po pp (hz j) i) ||| 0)), (5, .int (nI i)), (0, .ref (ad 0)), (1, .int (nI j)), (2, .int (nI ea))]) hx hb dM_map_101 rfl hl (by decide) rfl (fun ls hl => ?_)
          refine lv_iinc (v := nI (i + 1)) (lv' := [(5, .int (nI (i + 1))), (3, .long ((cj_po pp (hz j) i) ||| 0)), (0, .ref (ad 0)), (1, .int (nI j)), (2, .int (nI ea))]) hx hb dM_map_102 hl (k := 1) rfl (cj_inc _) (by decide) rfl (fun ls hl => ?_)
          refine lv_goto (tgt := 49) hx hb dM_map_105 (by decide) ?_
          exact ih (i + 1) _ _ ls (by omega) V (lv_sub hl [0, 1, 2, 3, 4] (by rw [cj_po_n hq, cj_or0L]; rfl)) kont
        ·
          have hpi : pr i = nI q := by rw [hpr i (by omega), hq]; rfl
          have hq40 := hpp i q hq
          refine lv_aload_n hx hb dM_map_76 rfl (lv_at hl 2 rfl) ?_
          refine gM 12 X V fl_M_39 (by decide) rfl dM_map_77 ?_
          refine lv_iload hx hb dM_map_80 (lv_at hl 0 rfl) ?_
          refine rM_pr X V (by omega) dM_map_82 ?_
          refine cj_ti hpi ?_
          refine lv_iconst (v := (-1)) hx hb dM_map_83 (by decide) ?_
          refine lv_icmp_eq (tgt := 99) hx hb dM_map_84 (by decide) (fun h => absurd h (cj_nm1 (by omega))) (fun _ => ?_)
          refine lv_lconst (v := lN 1) hx hb dM_map_87 (by decide) ?_
          refine lv_aload_n hx hb dM_map_88 rfl (lv_at hl 2 rfl) ?_
          refine gM 12 X V fl_M_39 (by decide) rfl dM_map_89 ?_
          refine lv_iload hx hb dM_map_92 (lv_at hl 0 rfl) ?_
          refine rM_pr X V (by omega) dM_map_94 ?_
          refine cj_ti hpi ?_
          refine lv_lshl hx hb dM_map_95 (cj_shl1 (by omega)) ?_
          refine lv_goto (tgt := 100) hx hb dM_map_96 (by decide) ?_
          refine lv_lor hx hb dM_map_100 ?_
          refine lv_lstore_n (lv' := [(3, .long ((cj_po pp (hz j) i) ||| (cj_bit q))), (5, .int (nI i)), (0, .ref (ad 0)), (1, .int (nI j)), (2, .int (nI ea))]) hx hb dM_map_101 rfl hl (by decide) rfl (fun ls hl => ?_)
          refine lv_iinc (v := nI (i + 1)) (lv' := [(5, .int (nI (i + 1))), (3, .long ((cj_po pp (hz j) i) ||| (cj_bit q))), (0, .ref (ad 0)), (1, .int (nI j)), (2, .int (nI ea))]) hx hb dM_map_102 hl (k := 1) rfl (cj_inc _) (by decide) rfl (fun ls hl => ?_)
          refine lv_goto (tgt := 49) hx hb dM_map_105 (by decide) ?_
          exact ih (i + 1) _ _ ls (by omega) V (lv_sub hl [0, 1, 2, 3, 4] (by rw [cj_po_s c_3 hq]; rfl)) kont
set_option maxRecDepth 100000 in
set_option maxHeartbeats 4000000 in
theorem c_M_map (l : Launch) (D : va_G) (kd : Nat → ClassId) (ad : Nat → Nat) {E : Nat} {rn : Nat} {ch : Int32} {n : Nat → Nat} {con : Nat → Int32} {ow : Nat → Nat} {ge : Nat → Bool} {cl : Nat → Bool} {ed : Nat → Nat} {co : Nat → Nat} {hz : Nat → Int64} {lo : Nat → Nat} {pr : Nat → Int32} (hE : E ≤ 8) (hn : ∀ i, n i ≤ 40) (hR : rn ≤ 14) (hed : ∀ r, r < rn → ed r < E) (hco : ∀ r, co r ≤ 100000) (x y : Int32) : cj_Mi (S := Nat × (Nat → Nat) × (Nat → Nat) × (Nat → Int64) × (Nat → Bool) × (Nat → Nat) × (Nat → Int32)) l yM_map cM_map 6 (some .int) 2 D kd [.ref (ad 0), .int x, .int y] (wM kd ad E rn ch n con ow ge cl ed co hz lo pr) (fun r u => r = f_add rn (o_map E rn n (cj_c2 con) ed co hz x y) ∧ u.1 = a_rn rn (o_map E rn n (cj_c2 con) ed co hz x y) ∧ u.2.1 = a_ed rn ed (o_map E rn n (cj_c2 con) ed co hz x y) ∧ u.2.2.1 = a_co rn co (o_map E rn n (cj_c2 con) ed co hz x y) ∧ u.2.2.2.1 = a_hz rn hz (o_map E rn n (cj_c2 con) ed co hz x y) ∧ u.2.2.2.2.1 = a_cl (k_cl cl (q_map E rn ed x y)) (o_map E rn n (cj_c2 con) ed co hz x y)) (fun u => wM kd ad E u.1 ch n con ow ge u.2.2.2.2.1 u.2.1 u.2.2.1 u.2.2.2.1 u.2.2.2.2.2.1 u.2.2.2.2.2.2) := by
  refine cj_ofi (by decide) (Nat.le_of_ble_eq_true rfl) ?_
  intro p e s m below meth c A ls X hr V hl
  obtain ⟨⟨hx, hb, hml, hown, hts⟩, hK, hlk⟩ := id X
  have hl : lv_has ls 6 [(0, .ref (ad 0)), (1, .int x), (2, .int y)] := hl
  refine lv_iload_n hx hb dM_map_0 rfl (lv_at hl 1 rfl) ?_
  refine lv_aload_n hx hb dM_map_1 rfl (lv_at hl 0 rfl) ?_
  refine gM 1 X V fl_M_50 (by decide) rfl dM_map_2 ?_
  refine cj_csi X V (c_M_in l D kd ad x rn (by omega)) ml_M_46 st_M_in in_M cd_M_in hd_M_in ⟨by decide, by decide⟩ ⟨Nat.le_refl _, Nat.le_refl _⟩ hl.1 rfl (Nat.le_of_ble_eq_true rfl) dM_map_5 (fun r_9 u_9 H locs hw V => ?_)
  rcases hw with ⟨rfl, j_1, hj_1, rfl⟩ | ⟨rfl, hj_1⟩
  ·
    have ij_1 := cj_ix_t hj_1 (show rn < 2 ^ 31 by omega)
    refine lv_if_eq (tgt := 31) hx hb dM_map_8 (by decide) (fun h => absurd h (by decide)) (fun _ => ?_)
    refine lv_iload_n hx hb dM_map_11 rfl (lv_at hl 2 rfl) ?_
    refine lv_aload_n hx hb dM_map_12 rfl (lv_at hl 0 rfl) ?_
    refine gM 0 X V fl_M_42 (by decide) rfl dM_map_13 ?_
    refine cj_csi X V (c_M_in l D kd ad y E (by omega)) ml_M_46 st_M_in in_M cd_M_in hd_M_in ⟨by decide, by decide⟩ ⟨Nat.le_refl _, Nat.le_refl _⟩ hl.1 rfl (Nat.le_of_ble_eq_true rfl) dM_map_16 (fun r_9 u_9 H locs hw V => ?_)
    rcases hw with ⟨rfl, j_3, hj_3, rfl⟩ | ⟨rfl, hj_3⟩
    ·
      have ij_3 := cj_ix_t hj_3 (show E < 2 ^ 31 by omega)
      refine lv_if_eq (tgt := 31) hx hb dM_map_19 (by decide) (fun h => absurd h (by decide)) (fun _ => ?_)
      refine lv_aload_n hx hb dM_map_22 rfl (lv_at hl 0 rfl) ?_
      refine gM 1 X V fl_M_50 (by decide) rfl dM_map_23 ?_
      refine lv_bipush (v := nI 14) hx hb dM_map_26 (by decide) ?_
      refine cj_n_ne (tgt := 33) hx hb dM_map_28 (by decide) (by omega) (by omega) (fun c_5 => ?_) (fun c_5 => ?_)
      ·
        refine lv_aload_n hx hb dM_map_33 rfl (lv_at hl 0 rfl) ?_
        refine lv_aload_n hx hb dM_map_34 rfl (lv_at hl 0 rfl) ?_
        refine gM 8 X V fl_M_26 (by decide) rfl dM_map_35 ?_
        refine lv_iload_n hx hb dM_map_38 rfl (lv_at hl 1 rfl) ?_
        refine rM_ed X V (by omega) dM_map_39 ?_
        have f_e_6 := hed j_1 (by omega)
        refine lv_iload_n hx hb dM_map_40 rfl (lv_at hl 2 rfl) ?_
        refine cj_cvv X V (c_M_compare l D kd ad (ed j_1) j_3 (by omega) (by omega) hn) 0 2 rfl rfl rfl ml_M_68 im_M_compare se_M_compare in_M cd_M_compare hd_M_compare ⟨by decide, by decide⟩ ⟨Nat.le_refl _, Nat.le_refl _⟩ hl.1 rfl (Nat.le_of_ble_eq_true rfl) dM_map_41 (fun uc H locs hw V => ?_)
        have hP := hw
        refine lv_lconst (v := 0) hx hb dM_map_44 (by decide) ?_
        refine lv_lstore_n (lv' := [(3, .long 0), (0, .ref (ad 0)), (1, .int (nI j_1)), (2, .int (nI j_3))]) hx hb dM_map_45 rfl hl (by decide) rfl (fun ls hl => ?_)
        refine lv_iconst (v := nI 0) hx hb dM_map_46 (by decide) ?_
        refine lv_istore (lv' := [(5, .int (nI 0)), (3, .long 0), (0, .ref (ad 0)), (1, .int (nI j_1)), (2, .int (nI j_3))]) hx hb dM_map_47 hl (by decide) rfl (fun ls hl => ?_)
        have hej := hed j_1 (by omega)
        refine lp_M_map X hn j_1 j_3 (by omega) (by omega) (cj_pp (fun i => con (40 * (ed j_1) + i)) (fun i => con (40 * j_3 + i)) (n (ed j_1)) (n j_3)) hP (fun i q h => by have h1 := cj_pp_lt h; have h2 := hn j_3; omega) (n (ed j_1)) 0 _ _ ls (by omega) V (lv_sub hl [0, 1, 2, 3, 4] rfl) (fun H locs ls V hl => ?_)
        refine lv_aload_n hx hb dM_map_108 rfl (lv_at hl 2 rfl) ?_
        refine lv_iload_n hx hb dM_map_109 rfl (lv_at hl 4 rfl) ?_
        refine lv_aload_n hx hb dM_map_110 rfl (lv_at hl 2 rfl) ?_
        refine gM 9 X V fl_M_29 (by decide) rfl dM_map_111 ?_
        refine lv_iload_n hx hb dM_map_114 rfl (lv_at hl 3 rfl) ?_
        refine rM_co X V (by omega) dM_map_115 ?_
        have f_e_7 := hco j_1
        refine lv_lload_n hx hb dM_map_116 rfl (lv_at hl 1 rfl) ?_
        refine cj_cvi X V (c_M_newRun l D kd ad j_3 (co j_1) (cj_po (cj_pp (fun i => con (40 * (ed j_1) + i)) (fun i => con (40 * j_3 + i)) (n (ed j_1)) (n j_3)) (hz j_1) (n (ed j_1))) (by omega) (by omega)) 0 2 rfl rfl rfl ml_M_54 im_M_newRun se_M_newRun in_M cd_M_newRun hd_M_newRun ⟨by decide, by decide⟩ ⟨Nat.le_refl _, Nat.le_refl _⟩ hl.1 rfl (Nat.le_of_ble_eq_true rfl) dM_map_117 (fun r_9 ua H locs hw V => ?_)
        obtain ⟨rfl, rfl⟩ := hw
        exact cj_reti (rn + 1, va_up ed rn j_3, va_up co rn (co j_1), va_up hz rn (cj_po (cj_pp (fun i => con (40 * (ed j_1) + i)) (fun i => con (40 * j_3 + i)) (n (ed j_1)) (n j_3)) (hz j_1) (n (ed j_1))), va_up (va_up (va_up cl (ed j_1) true) j_3 true) j_3 true, uc.1, uc.2) X hr V (by simp only [o_map, q_map, ij_1, ij_3]; rw [if_pos (show rn < 14 by omega), if_pos (show rn < 14 by omega)]; refine ⟨?_, ?_, ?_, ?_, ?_, ?_⟩ <;> first | rfl | trivial) dM_map_120
      ·
        refine lv_iconst (v := (-1)) hx hb dM_map_31 (by decide) ?_
        exact cj_reti (rn, ed, co, hz, cl, lo, pr) X hr V (by simp only [o_map, q_map, ij_1, ij_3]; rw [if_neg (show ¬ rn < 14 by omega), if_neg (show ¬ rn < 14 by omega)]; refine ⟨?_, ?_, ?_, ?_, ?_, ?_⟩ <;> first | rfl | trivial) dM_map_32
    ·
      have ij_3 := cj_ix_f hj_3
      refine lv_if_eq (tgt := 31) hx hb dM_map_19 (by decide) (fun _ => ?_) (fun h => absurd (by decide) h)
      refine lv_iconst (v := (-1)) hx hb dM_map_31 (by decide) ?_
      exact cj_reti (rn, ed, co, hz, cl, lo, pr) X hr V (by simp only [o_map, q_map, ij_1, ij_3]; refine ⟨?_, ?_, ?_, ?_, ?_, ?_⟩ <;> first | rfl | trivial) dM_map_32
  ·
    have ij_1 := cj_ix_f hj_1
    refine lv_if_eq (tgt := 31) hx hb dM_map_8 (by decide) (fun _ => ?_) (fun h => absurd (by decide) h)
    refine lv_iconst (v := (-1)) hx hb dM_map_31 (by decide) ?_
    exact cj_reti (rn, ed, co, hz, cl, lo, pr) X hr V (by simp only [o_map, q_map, ij_1]; refine ⟨?_, ?_, ?_, ?_, ?_, ?_⟩ <;> first | rfl | trivial) dM_map_32
set_option maxRecDepth 100000 in
set_option maxHeartbeats 4000000 in
theorem lp_M_frA {p : Program} {l : Launch} {e : Env} {s : State} {m : MethodId} {args : Array Value} {below : List Frame} {meth : Method} {c : Code} {Q : State → Prop} {D : va_G} {kd : Nat → ClassId} {A : Nat → Prop} {H0 : Heap} {ad : Nat → Nat} {E : Nat} {rn : Nat} {ch : Int32} {n : Nat → Nat} {con : Nat → Int32} {ow : Nat → Nat} {ge : Nat → Bool} {cl : Nat → Bool} {ed : Nat → Nat} {co : Nat → Nat} {hz : Nat → Int64} {lo : Nat → Nat} {pr : Nat → Int32} (X : cj_X p s m args c meth cM_fresh 10 RM D kd) (hn : ∀ i, n i ≤ 40) (j ea : Nat) (b : Bool) (hj : j < 14) (hej : ed j < 8) (hea : ea < 8) (pp : Nat → Option Nat) (hpr : ∀ i, i < n ea → pr i = oI (pp i)) (hpp : ∀ i q, pp i = some q → q < 40) : ∀ (d i : Nat) (H : Heap) (locs : List Loc) (ls : Array Slot), i + d = n ea → cj_V D A H0 (wM kd ad E rn ch n con ow ge cl ed co hz lo pr) H locs → lv_has ls 10 [(7, .int (nI i)), (5, .long (cj_pa pp i)), (4, .int (nI (ed j))), (0, .ref (ad 0)), (1, .int (nI j)), (2, .int (nI ea)), (3, .int (bI b))] → (∀ (H : Heap) (locs : List Loc) (ls : Array Slot), cj_V D A H0 (wM kd ad E rn ch n con ow ge cl ed co hz lo pr) H locs → lv_has ls 10 [(7, .int (nI (n ea))), (5, .long (cj_pa pp (n ea))), (4, .int (nI (ed j))), (0, .ref (ad 0)), (1, .int (nI j)), (2, .int (nI ea)), (3, .int (bI b))] → W p l e (cj_rm 2) s m args below meth c H locs 0 0 Q (F0 m 91 ls [])) → W p l e (cj_rm 2) s m args below meth c H locs 0 0 Q (F0 m 45 ls []) := by
  obtain ⟨⟨hx, hb, hml, hown, hts⟩, hK, hlk⟩ := id X
  intro d
  induction d with
  | zero =>
    intro i H locs ls hi V hl kont
    have hne := hn ea
    refine lv_iload hx hb dM_fresh_45 (lv_at hl 0 rfl) ?_
    refine lv_aload_n hx hb dM_fresh_47 rfl (lv_at hl 3 rfl) ?_
    refine gM 3 X V fl_M_7 (by decide) rfl dM_fresh_48 ?_
    refine lv_iload_n hx hb dM_fresh_51 rfl (lv_at hl 5 rfl) ?_
    refine rM_n X V (by omega) dM_fresh_52 ?_
    have f_e_1 := hn ea
    refine cj_n_ge (tgt := 91) hx hb dM_fresh_53 (by decide) (by omega) (by omega) (fun c_2 => ?_) (fun c_2 => ?_)
    ·
      obtain rfl : i = n ea := by omega
      exact kont _ _ _ V (lv_sub hl [0, 1, 2, 3, 4, 5, 6] rfl)
    ·
      exact absurd c_2 (by omega)
  | succ d ih =>
    intro i H locs ls hi V hl kont
    have hne := hn ea
    refine lv_iload hx hb dM_fresh_45 (lv_at hl 0 rfl) ?_
    refine lv_aload_n hx hb dM_fresh_47 rfl (lv_at hl 3 rfl) ?_
    refine gM 3 X V fl_M_7 (by decide) rfl dM_fresh_48 ?_
    refine lv_iload_n hx hb dM_fresh_51 rfl (lv_at hl 5 rfl) ?_
    refine rM_n X V (by omega) dM_fresh_52 ?_
    have f_e_1 := hn ea
    refine cj_n_ge (tgt := 91) hx hb dM_fresh_53 (by decide) (by omega) (by omega) (fun c_2 => ?_) (fun c_2 => ?_)
    ·
      exact absurd c_2 (by omega)
    ·
      rcases hq : pp i with _ | q
      ·
        have hpi : pr i = (-1) := by rw [hpr i (by omega), hq]; rfl
        refine lv_lload hx hb dM_fresh_56 (lv_at hl 1 rfl) ?_
        refine lv_aload_n hx hb dM_fresh_58 rfl (lv_at hl 3 rfl) ?_
        refine gM 12 X V fl_M_39 (by decide) rfl dM_fresh_59 ?_
        refine lv_iload hx hb dM_fresh_62 (lv_at hl 0 rfl) ?_
        refine rM_pr X V (by omega) dM_fresh_64 ?_
        refine cj_ti hpi ?_
        refine lv_iconst (v := (-1)) hx hb dM_fresh_65 (by decide) ?_
        refine lv_icmp_ne (tgt := 73) hx hb dM_fresh_66 (by decide) (fun h => absurd rfl h) (fun _ => ?_)
        refine lv_lconst (v := 0) hx hb dM_fresh_69 (by decide) ?_
        refine lv_goto (tgt := 82) hx hb dM_fresh_70 (by decide) ?_
        refine lv_lor hx hb dM_fresh_82 ?_
        refine lv_lstore (lv' := [(5, .long ((cj_pa pp i) ||| 0)), (7, .int (nI i)), (4, .int (nI (ed j))), (0, .ref (ad 0)), (1, .int (nI j)), (2, .int (nI ea)), (3, .int (bI b))]) hx hb dM_fresh_83 hl (by decide) rfl (fun ls hl => ?_)
        refine lv_iinc (v := nI (i + 1)) (lv' := [(7, .int (nI (i + 1))), (5, .long ((cj_pa pp i) ||| 0)), (4, .int (nI (ed j))), (0, .ref (ad 0)), (1, .int (nI j)), (2, .int (nI ea)), (3, .int (bI b))]) hx hb dM_fresh_85 hl (k := 1) rfl (cj_inc _) (by decide) rfl (fun ls hl => ?_)
        refine lv_goto (tgt := 45) hx hb dM_fresh_88 (by decide) ?_
        exact ih (i + 1) _ _ ls (by omega) V (lv_sub hl [0, 1, 2, 3, 4, 5, 6] (by rw [cj_pa_n hq, cj_or0L]; rfl)) kont
      ·
        have hpi : pr i = nI q := by rw [hpr i (by omega), hq]; rfl
        have hq40 := hpp i q hq
        refine lv_lload hx hb dM_fresh_56 (lv_at hl 1 rfl) ?_
        refine lv_aload_n hx hb dM_fresh_58 rfl (lv_at hl 3 rfl) ?_
        refine gM 12 X V fl_M_39 (by decide) rfl dM_fresh_59 ?_
        refine lv_iload hx hb dM_fresh_62 (lv_at hl 0 rfl) ?_
        refine rM_pr X V (by omega) dM_fresh_64 ?_
        refine cj_ti hpi ?_
        refine lv_iconst (v := (-1)) hx hb dM_fresh_65 (by decide) ?_
        refine lv_icmp_ne (tgt := 73) hx hb dM_fresh_66 (by decide) (fun _ => ?_) (fun h => absurd h (cj_nm1 (by omega)))
        refine lv_lconst (v := lN 1) hx hb dM_fresh_73 (by decide) ?_
        refine lv_aload_n hx hb dM_fresh_74 rfl (lv_at hl 3 rfl) ?_
        refine gM 12 X V fl_M_39 (by decide) rfl dM_fresh_75 ?_
        refine lv_iload hx hb dM_fresh_78 (lv_at hl 0 rfl) ?_
        refine rM_pr X V (by omega) dM_fresh_80 ?_
        refine cj_ti hpi ?_
        refine lv_lshl hx hb dM_fresh_81 (cj_shl1 (by omega)) ?_
        refine lv_lor hx hb dM_fresh_82 ?_
        refine lv_lstore (lv' := [(5, .long ((cj_pa pp i) ||| (cj_bit q))), (7, .int (nI i)), (4, .int (nI (ed j))), (0, .ref (ad 0)), (1, .int (nI j)), (2, .int (nI ea)), (3, .int (bI b))]) hx hb dM_fresh_83 hl (by decide) rfl (fun ls hl => ?_)
        refine lv_iinc (v := nI (i + 1)) (lv' := [(7, .int (nI (i + 1))), (5, .long ((cj_pa pp i) ||| (cj_bit q))), (4, .int (nI (ed j))), (0, .ref (ad 0)), (1, .int (nI j)), (2, .int (nI ea)), (3, .int (bI b))]) hx hb dM_fresh_85 hl (k := 1) rfl (cj_inc _) (by decide) rfl (fun ls hl => ?_)
        refine lv_goto (tgt := 45) hx hb dM_fresh_88 (by decide) ?_
        exact ih (i + 1) _ _ ls (by omega) V (lv_sub hl [0, 1, 2, 3, 4, 5, 6] (by rw [cj_pa_s hq]; rfl)) kont
set_option maxRecDepth 100000 in
set_option maxHeartbeats 4000000 in
theorem lp_M_frB {p : Program} {l : Launch} {e : Env} {s : State} {m : MethodId} {args : Array Value} {below : List Frame} {meth : Method} {c : Code} {Q : State → Prop} {D : va_G} {kd : Nat → ClassId} {A : Nat → Prop} {H0 : Heap} {ad : Nat → Nat} {E : Nat} {rn : Nat} {ch : Int32} {n : Nat → Nat} {con : Nat → Int32} {ow : Nat → Nat} {ge : Nat → Bool} {cl : Nat → Bool} {ed : Nat → Nat} {co : Nat → Nat} {hz : Nat → Int64} {lo : Nat → Nat} {pr : Nat → Int32} (X : cj_X p s m args c meth cM_fresh 10 RM D kd) (hn : ∀ i, n i ≤ 40) (j ea : Nat) (b : Bool) (hj : j < 14) (hej : ed j < 8) (hea : ea < 8) (old : Int64) : ∀ (d i : Nat) (H : Heap) (locs : List Loc) (ls : Array Slot), i + d = n (ed j) → cj_V D A H0 (wM kd ad E rn ch n con ow ge cl ed co hz lo pr) H locs → lv_has ls 10 [(8, .int (nI i)), (7, .int (nI (cj_cnt (cj_FR ge old (hz j) (ed j) b) i))), (5, .long old), (4, .int (nI (ed j))), (0, .ref (ad 0)), (1, .int (nI j)), (2, .int (nI ea)), (3, .int (bI b))] → (∀ (H : Heap) (locs : List Loc) (ls : Array Slot), cj_V D A H0 (wM kd ad E rn ch n con ow ge cl ed co hz lo pr) H locs → lv_has ls 10 [(8, .int (nI (n (ed j)))), (7, .int (nI (cj_cnt (cj_FR ge old (hz j) (ed j) b) (n (ed j))))), (5, .long old), (4, .int (nI (ed j))), (0, .ref (ad 0)), (1, .int (nI j)), (2, .int (nI ea)), (3, .int (bI b))] → W p l e (cj_rm 2) s m args below meth c H locs 0 0 Q (F0 m 179 ls [])) → W p l e (cj_rm 2) s m args below meth c H locs 0 0 Q (F0 m 97 ls []) := by
  obtain ⟨⟨hx, hb, hml, hown, hts⟩, hK, hlk⟩ := id X
  intro d
  induction d with
  | zero =>
    intro i H locs ls hi V hl kont
    have hnj := hn (ed j)
    refine lv_iload hx hb dM_fresh_97 (lv_at hl 0 rfl) ?_
    refine lv_aload_n hx hb dM_fresh_99 rfl (lv_at hl 4 rfl) ?_
    refine gM 3 X V fl_M_7 (by decide) rfl dM_fresh_100 ?_
    refine lv_iload hx hb dM_fresh_103 (lv_at hl 3 rfl) ?_
    refine rM_n X V (by omega) dM_fresh_105 ?_
    have f_e_1 := hn (ed j)
    refine cj_n_ge (tgt := 179) hx hb dM_fresh_106 (by decide) (by omega) (by omega) (fun c_2 => ?_) (fun c_2 => ?_)
    ·
      obtain rfl : i = n (ed j) := by omega
      exact kont _ _ _ V (lv_sub hl [0, 1, 2, 3, 4, 5, 6, 7] rfl)
    ·
      exact absurd c_2 (by omega)
  | succ d ih =>
    intro i H locs ls hi V hl kont
    have hnj := hn (ed j)
    refine lv_iload hx hb dM_fresh_97 (lv_at hl 0 rfl) ?_
    refine lv_aload_n hx hb dM_fresh_99 rfl (lv_at hl 4 rfl) ?_
    refine gM 3 X V fl_M_7 (by decide) rfl dM_fresh_100 ?_
    refine lv_iload hx hb dM_fresh_103 (lv_at hl 3 rfl) ?_
    refine rM_n X V (by omega) dM_fresh_105 ?_
    have f_e_1 := hn (ed j)
    refine cj_n_ge (tgt := 179) hx hb dM_fresh_106 (by decide) (by omega) (by omega) (fun c_2 => ?_) (fun c_2 => ?_)
    ·
      exact absurd c_2 (by omega)
    ·
      refine lv_lload hx hb dM_fresh_109 (lv_at hl 2 rfl) ?_
      refine lv_iload hx hb dM_fresh_111 (lv_at hl 0 rfl) ?_
      refine lv_lshr hx hb dM_fresh_113 rfl ?_
      refine lv_lconst (v := lN 1) hx hb dM_fresh_114 (by decide) ?_
      refine lv_land hx hb dM_fresh_115 ?_
      refine lv_lconst (v := 0) hx hb dM_fresh_116 (by decide) ?_
      refine cj_l_ne (tgt := 141) hx hb dM_fresh_117 dM_fresh_118 (by decide) (fun c_3 => ?_) (fun c_3 => ?_)
      ·
        refine lv_iconst (v := nI 0) hx hb dM_fresh_141 (by decide) ?_
        refine lv_istore (lv' := [(9, .int (nI 0)), (8, .int (nI i)), (7, .int (nI (cj_cnt (cj_FR ge old (hz j) (ed j) b) i))), (5, .long old), (4, .int (nI (ed j))), (0, .ref (ad 0)), (1, .int (nI j)), (2, .int (nI ea)), (3, .int (bI b))]) hx hb dM_fresh_142 hl (by decide) rfl (fun ls hl => ?_)
        refine lv_iload hx hb dM_fresh_144 (lv_at hl 2 rfl) ?_
        refine lv_iload hx hb dM_fresh_146 (lv_at hl 0 rfl) ?_
        refine lv_if_eq (tgt := 169) hx hb dM_fresh_148 (by decide) (fun _ => ?_) (fun h => absurd (by decide) h)
        refine lv_iconst (v := nI 0) hx hb dM_fresh_169 (by decide) ?_
        refine cj_iaddN hx hb dM_fresh_170 ?_
        refine lv_istore (lv' := [(7, .int (nI ((cj_cnt (cj_FR ge old (hz j) (ed j) b) i) + 0))), (9, .int (nI 0)), (8, .int (nI i)), (5, .long old), (4, .int (nI (ed j))), (0, .ref (ad 0)), (1, .int (nI j)), (2, .int (nI ea)), (3, .int (bI b))]) hx hb dM_fresh_171 hl (by decide) rfl (fun ls hl => ?_)
        refine lv_iinc (v := nI (i + 1)) (lv' := [(8, .int (nI (i + 1))), (7, .int (nI ((cj_cnt (cj_FR ge old (hz j) (ed j) b) i) + 0))), (9, .int (nI 0)), (5, .long old), (4, .int (nI (ed j))), (0, .ref (ad 0)), (1, .int (nI j)), (2, .int (nI ea)), (3, .int (bI b))]) hx hb dM_fresh_173 hl (k := 2) rfl (cj_inc _) (by decide) rfl (fun ls hl => ?_)
        refine lv_goto (tgt := 97) hx hb dM_fresh_176 (by decide) ?_
        have hold := cj_sar0_f (by omega) c_3
        exact ih (i + 1) _ _ ls (by omega) V (lv_sub hl [0, 1, 3, 4, 5, 6, 7, 8] (by rw [cj_cs_f (show cj_FR ge old (hz j) (ed j) b i = false by simp [cj_FR, hold, hold])]; rfl)) kont
      ·
        refine lv_aload_n hx hb dM_fresh_121 rfl (lv_at hl 4 rfl) ?_
        refine gM 6 X V fl_M_19 (by decide) rfl dM_fresh_122 ?_
        refine lv_bipush (v := nI 40) hx hb dM_fresh_125 (by decide) ?_
        refine lv_iload hx hb dM_fresh_127 (lv_at hl 3 rfl) ?_
        refine cj_imulN hx hb dM_fresh_129 ?_
        refine lv_iload hx hb dM_fresh_130 (lv_at hl 0 rfl) ?_
        refine cj_iaddN hx hb dM_fresh_132 ?_
        refine rM_ge X V (by omega) dM_fresh_133 ?_
        refine cj_b_ne (tgt := 141) hx hb dM_fresh_134 (by decide) (fun c_5 => ?_) (fun c_5 => ?_)
        ·
          refine lv_iconst (v := nI 0) hx hb dM_fresh_141 (by decide) ?_
          refine lv_istore (lv' := [(9, .int (nI 0)), (8, .int (nI i)), (7, .int (nI (cj_cnt (cj_FR ge old (hz j) (ed j) b) i))), (5, .long old), (4, .int (nI (ed j))), (0, .ref (ad 0)), (1, .int (nI j)), (2, .int (nI ea)), (3, .int (bI b))]) hx hb dM_fresh_142 hl (by decide) rfl (fun ls hl => ?_)
          refine lv_iload hx hb dM_fresh_144 (lv_at hl 2 rfl) ?_
          refine lv_iload hx hb dM_fresh_146 (lv_at hl 0 rfl) ?_
          refine lv_if_eq (tgt := 169) hx hb dM_fresh_148 (by decide) (fun _ => ?_) (fun h => absurd (by decide) h)
          refine lv_iconst (v := nI 0) hx hb dM_fresh_169 (by decide) ?_
          refine cj_iaddN hx hb dM_fresh_170 ?_
          refine lv_istore (lv' := [(7, .int (nI ((cj_cnt (cj_FR ge old (hz j) (ed j) b) i) + 0))), (9, .int (nI 0)), (8, .int (nI i)), (5, .long old), (4, .int (nI (ed j))), (0, .ref (ad 0)), (1, .int (nI j)), (2, .int (nI ea)), (3, .int (bI b))]) hx hb dM_fresh_171 hl (by decide) rfl (fun ls hl => ?_)
          refine lv_iinc (v := nI (i + 1)) (lv' := [(8, .int (nI (i + 1))), (7, .int (nI ((cj_cnt (cj_FR ge old (hz j) (ed j) b) i) + 0))), (9, .int (nI 0)), (5, .long old), (4, .int (nI (ed j))), (0, .ref (ad 0)), (1, .int (nI j)), (2, .int (nI ea)), (3, .int (bI b))]) hx hb dM_fresh_173 hl (k := 2) rfl (cj_inc _) (by decide) rfl (fun ls hl => ?_)
          refine lv_goto (tgt := 97) hx hb dM_fresh_176 (by decide) ?_
          have hold := (cj_sar0 (by omega)).mp c_3
          exact ih (i + 1) _ _ ls (by omega) V (lv_sub hl [0, 1, 3, 4, 5, 6, 7, 8] (by rw [cj_cs_f (show cj_FR ge old (hz j) (ed j) b i = false by simp [cj_FR, hold, c_5])]; rfl)) kont
        ·
          refine lv_iconst (v := nI 1) hx hb dM_fresh_137 (by decide) ?_
          refine lv_goto (tgt := 142) hx hb dM_fresh_138 (by decide) ?_
          refine lv_istore (lv' := [(9, .int (nI 1)), (8, .int (nI i)), (7, .int (nI (cj_cnt (cj_FR ge old (hz j) (ed j) b) i))), (5, .long old), (4, .int (nI (ed j))), (0, .ref (ad 0)), (1, .int (nI j)), (2, .int (nI ea)), (3, .int (bI b))]) hx hb dM_fresh_142 hl (by decide) rfl (fun ls hl => ?_)
          refine lv_iload hx hb dM_fresh_144 (lv_at hl 2 rfl) ?_
          refine lv_iload hx hb dM_fresh_146 (lv_at hl 0 rfl) ?_
          refine lv_if_eq (tgt := 169) hx hb dM_fresh_148 (by decide) (fun h => absurd h (by decide)) (fun _ => ?_)
          refine lv_iload_n hx hb dM_fresh_151 rfl (lv_at hl 8 rfl) ?_
          refine cj_b_eq (tgt := 165) hx hb dM_fresh_152 (by decide) (fun c_8 => ?_) (fun c_8 => ?_)
          ·
            refine lv_iconst (v := nI 1) hx hb dM_fresh_165 (by decide) ?_
            refine lv_goto (tgt := 170) hx hb dM_fresh_166 (by decide) ?_
            refine cj_iaddN hx hb dM_fresh_170 ?_
            refine lv_istore (lv' := [(7, .int (nI ((cj_cnt (cj_FR ge old (hz j) (ed j) b) i) + 1))), (9, .int (nI 1)), (8, .int (nI i)), (5, .long old), (4, .int (nI (ed j))), (0, .ref (ad 0)), (1, .int (nI j)), (2, .int (nI ea)), (3, .int (bI b))]) hx hb dM_fresh_171 hl (by decide) rfl (fun ls hl => ?_)
            refine lv_iinc (v := nI (i + 1)) (lv' := [(8, .int (nI (i + 1))), (7, .int (nI ((cj_cnt (cj_FR ge old (hz j) (ed j) b) i) + 1))), (9, .int (nI 1)), (5, .long old), (4, .int (nI (ed j))), (0, .ref (ad 0)), (1, .int (nI j)), (2, .int (nI ea)), (3, .int (bI b))]) hx hb dM_fresh_173 hl (k := 2) rfl (cj_inc _) (by decide) rfl (fun ls hl => ?_)
            refine lv_goto (tgt := 97) hx hb dM_fresh_176 (by decide) ?_
            have hold := (cj_sar0 (by omega)).mp c_3
            exact ih (i + 1) _ _ ls (by omega) V (lv_sub hl [0, 1, 3, 4, 5, 6, 7, 8] (by rw [cj_cs_t (show cj_FR ge old (hz j) (ed j) b i = true by simp [cj_FR, hold, c_5, c_8])]; rfl)) kont
          ·
            refine lv_aload_n hx hb dM_fresh_155 rfl (lv_at hl 5 rfl) ?_
            refine lv_iload_n hx hb dM_fresh_156 rfl (lv_at hl 6 rfl) ?_
            refine lv_iload hx hb dM_fresh_157 (lv_at hl 1 rfl) ?_
            refine cj_cvi X V (c_M_isHit l D kd ad j i (by omega) (by omega)) 0 2 rfl rfl rfl ml_M_61 im_M_isHit se_M_isHit in_M cd_M_isHit hd_M_isHit ⟨by decide, by decide⟩ ⟨Nat.le_refl _, Nat.le_refl _⟩ hl.1 rfl (Nat.le_of_ble_eq_true rfl) dM_fresh_159 (fun r_9 u_9 H locs hw V => ?_)
            obtain rfl := hw
            refine cj_b_eq (tgt := 169) hx hb dM_fresh_162 (by decide) (fun c_9 => ?_) (fun c_9 => ?_)
            ·
              refine lv_iconst (v := nI 0) hx hb dM_fresh_169 (by decide) ?_
              refine cj_iaddN hx hb dM_fresh_170 ?_
              refine lv_istore (lv' := [(7, .int (nI ((cj_cnt (cj_FR ge old (hz j) (ed j) b) i) + 0))), (9, .int (nI 1)), (8, .int (nI i)), (5, .long old), (4, .int (nI (ed j))), (0, .ref (ad 0)), (1, .int (nI j)), (2, .int (nI ea)), (3, .int (bI b))]) hx hb dM_fresh_171 hl (by decide) rfl (fun ls hl => ?_)
              refine lv_iinc (v := nI (i + 1)) (lv' := [(8, .int (nI (i + 1))), (7, .int (nI ((cj_cnt (cj_FR ge old (hz j) (ed j) b) i) + 0))), (9, .int (nI 1)), (5, .long old), (4, .int (nI (ed j))), (0, .ref (ad 0)), (1, .int (nI j)), (2, .int (nI ea)), (3, .int (bI b))]) hx hb dM_fresh_173 hl (k := 2) rfl (cj_inc _) (by decide) rfl (fun ls hl => ?_)
              refine lv_goto (tgt := 97) hx hb dM_fresh_176 (by decide) ?_
              have hold := (cj_sar0 (by omega)).mp c_3
              exact ih (i + 1) _ _ ls (by omega) V (lv_sub hl [0, 1, 3, 4, 5, 6, 7, 8] (by rw [cj_cs_f (show cj_FR ge old (hz j) (ed j) b i = false by simp [cj_FR, hold, c_5, c_8, c_9])]; rfl)) kont
            ·
              refine lv_iconst (v := nI 1) hx hb dM_fresh_165 (by decide) ?_
              refine lv_goto (tgt := 170) hx hb dM_fresh_166 (by decide) ?_
              refine cj_iaddN hx hb dM_fresh_170 ?_
              refine lv_istore (lv' := [(7, .int (nI ((cj_cnt (cj_FR ge old (hz j) (ed j) b) i) + 1))), (9, .int (nI 1)), (8, .int (nI i)), (5, .long old), (4, .int (nI (ed j))), (0, .ref (ad 0)), (1, .int (nI j)), (2, .int (nI ea)), (3, .int (bI b))]) hx hb dM_fresh_171 hl (by decide) rfl (fun ls hl => ?_)
              refine lv_iinc (v := nI (i + 1)) (lv' := [(8, .int (nI (i + 1))), (7, .int (nI ((cj_cnt (cj_FR ge old (hz j) (ed j) b) i) + 1))), (9, .int (nI 1)), (5, .long old), (4, .int (nI (ed j))), (0, .ref (ad 0)), (1, .int (nI j)), (2, .int (nI ea)), (3, .int (bI b))]) hx hb dM_fresh_173 hl (k := 2) rfl (cj_inc _) (by decide) rfl (fun ls hl => ?_)
              refine lv_goto (tgt := 97) hx hb dM_fresh_176 (by decide) ?_
              have hold := (cj_sar0 (by omega)).mp c_3
              exact ih (i + 1) _ _ ls (by omega) V (lv_sub hl [0, 1, 3, 4, 5, 6, 7, 8] (by rw [cj_cs_t (show cj_FR ge old (hz j) (ed j) b i = true by simp [cj_FR, hold, c_5, c_8, c_9])]; rfl)) kont
set_option maxRecDepth 100000 in
set_option maxHeartbeats 4000000 in
theorem c_M_fresh (l : Launch) (D : va_G) (kd : Nat → ClassId) (ad : Nat → Nat) {E : Nat} {rn : Nat} {ch : Int32} {n : Nat → Nat} {con : Nat → Int32} {ow : Nat → Nat} {ge : Nat → Bool} {cl : Nat → Bool} {ed : Nat → Nat} {co : Nat → Nat} {hz : Nat → Int64} {lo : Nat → Nat} {pr : Nat → Int32} (hE : E ≤ 8) (hn : ∀ i, n i ≤ 40) (hR : rn ≤ 14) (hed : ∀ r, r < rn → ed r < E) (hco : ∀ r, co r ≤ 100000) (x y : Int32) (b : Bool) : cj_Mi (S := (Nat → Bool) × (Nat → Nat) × (Nat → Int32)) l yM_fresh cM_fresh 10 (some .int) 2 D kd [.ref (ad 0), .int x, .int y, .int (bI b)] (wM kd ad E rn ch n con ow ge cl ed co hz lo pr) (fun r u => r = f_freshM E rn n (cj_c2 con) ge ed hz x y b ∧ u.1 = k_cl cl (q_fresh E rn ed x y)) (fun u => wM kd ad E rn ch n con ow ge u.1 ed co hz u.2.1 u.2.2) := by
  refine cj_ofi (by decide) (Nat.le_of_ble_eq_true rfl) ?_
  intro p e s m below meth c A ls X hr V hl
  obtain ⟨⟨hx, hb, hml, hown, hts⟩, hK, hlk⟩ := id X
  have hl : lv_has ls 10 [(0, .ref (ad 0)), (1, .int x), (2, .int y), (3, .int (bI b))] := hl
  refine lv_iload_n hx hb dM_fresh_0 rfl (lv_at hl 1 rfl) ?_
  refine lv_aload_n hx hb dM_fresh_1 rfl (lv_at hl 0 rfl) ?_
  refine gM 1 X V fl_M_50 (by decide) rfl dM_fresh_2 ?_
  refine cj_csi X V (c_M_in l D kd ad x rn (by omega)) ml_M_46 st_M_in in_M cd_M_in hd_M_in ⟨by decide, by decide⟩ ⟨Nat.le_refl _, Nat.le_refl _⟩ hl.1 rfl (Nat.le_of_ble_eq_true rfl) dM_fresh_5 (fun r_9 u_9 H locs hw V => ?_)
  rcases hw with ⟨rfl, j_1, hj_1, rfl⟩ | ⟨rfl, hj_1⟩
  ·
    have ij_1 := cj_ix_t hj_1 (show rn < 2 ^ 31 by omega)
    refine lv_if_eq (tgt := 22) hx hb dM_fresh_8 (by decide) (fun h => absurd h (by decide)) (fun _ => ?_)
    refine lv_iload_n hx hb dM_fresh_11 rfl (lv_at hl 2 rfl) ?_
    refine lv_aload_n hx hb dM_fresh_12 rfl (lv_at hl 0 rfl) ?_
    refine gM 0 X V fl_M_42 (by decide) rfl dM_fresh_13 ?_
    refine cj_csi X V (c_M_in l D kd ad y E (by omega)) ml_M_46 st_M_in in_M cd_M_in hd_M_in ⟨by decide, by decide⟩ ⟨Nat.le_refl _, Nat.le_refl _⟩ hl.1 rfl (Nat.le_of_ble_eq_true rfl) dM_fresh_16 (fun r_9 u_9 H locs hw V => ?_)
    rcases hw with ⟨rfl, j_3, hj_3, rfl⟩ | ⟨rfl, hj_3⟩
    ·
      have ij_3 := cj_ix_t hj_3 (show E < 2 ^ 31 by omega)
      refine lv_if_ne (tgt := 24) hx hb dM_fresh_19 (by decide) (fun _ => ?_) (fun h => absurd h (by decide))
      refine lv_aload_n hx hb dM_fresh_24 rfl (lv_at hl 0 rfl) ?_
      refine gM 8 X V fl_M_26 (by decide) rfl dM_fresh_25 ?_
      refine lv_iload_n hx hb dM_fresh_28 rfl (lv_at hl 1 rfl) ?_
      refine rM_ed X V (by omega) dM_fresh_29 ?_
      have f_e_5 := hed j_1 (by omega)
      refine lv_istore (lv' := [(4, .int (nI (ed j_1))), (0, .ref (ad 0)), (1, .int (nI j_1)), (2, .int (nI j_3)), (3, .int (bI b))]) hx hb dM_fresh_30 hl (by decide) rfl (fun ls hl => ?_)
      refine lv_aload_n hx hb dM_fresh_32 rfl (lv_at hl 1 rfl) ?_
      refine lv_iload_n hx hb dM_fresh_33 rfl (lv_at hl 3 rfl) ?_
      refine lv_iload hx hb dM_fresh_34 (lv_at hl 0 rfl) ?_
      refine cj_cvv X V (c_M_compare l D kd ad j_3 (ed j_1) (by omega) (by omega) hn) 0 2 rfl rfl rfl ml_M_68 im_M_compare se_M_compare in_M cd_M_compare hd_M_compare ⟨by decide, by decide⟩ ⟨Nat.le_refl _, Nat.le_refl _⟩ hl.1 rfl (Nat.le_of_ble_eq_true rfl) dM_fresh_36 (fun uc H locs hw V => ?_)
      have hP := hw
      refine lv_lconst (v := 0) hx hb dM_fresh_39 (by decide) ?_
      refine lv_lstore (lv' := [(5, .long 0), (4, .int (nI (ed j_1))), (0, .ref (ad 0)), (1, .int (nI j_1)), (2, .int (nI j_3)), (3, .int (bI b))]) hx hb dM_fresh_40 hl (by decide) rfl (fun ls hl => ?_)
      refine lv_iconst (v := nI 0) hx hb dM_fresh_42 (by decide) ?_
      refine lv_istore (lv' := [(7, .int (nI 0)), (5, .long 0), (4, .int (nI (ed j_1))), (0, .ref (ad 0)), (1, .int (nI j_1)), (2, .int (nI j_3)), (3, .int (bI b))]) hx hb dM_fresh_43 hl (by decide) rfl (fun ls hl => ?_)
      have hej := hed j_1 (by omega)
      refine lp_M_frA X hn j_1 j_3 b (by omega) (by omega) (by omega) (cj_pp (fun i => con (40 * j_3 + i)) (fun i => con (40 * (ed j_1) + i)) (n j_3) (n (ed j_1))) hP (fun i q h => by have h1 := cj_pp_lt h; have h2 := hn (ed j_1); omega) (n j_3) 0 _ _ ls (by omega) V (lv_sub hl [0, 1, 2, 3, 4, 5, 6] rfl) (fun H locs ls V hl => ?_)
      refine lv_iconst (v := nI 0) hx hb dM_fresh_91 (by decide) ?_
      refine lv_istore (lv' := [(7, .int (nI 0)), (5, .long (cj_pa (cj_pp (fun i => con (40 * j_3 + i)) (fun i => con (40 * (ed j_1) + i)) (n j_3) (n (ed j_1))) (n j_3))), (4, .int (nI (ed j_1))), (0, .ref (ad 0)), (1, .int (nI j_1)), (2, .int (nI j_3)), (3, .int (bI b))]) hx hb dM_fresh_92 hl (by decide) rfl (fun ls hl => ?_)
      refine lv_iconst (v := nI 0) hx hb dM_fresh_94 (by decide) ?_
      refine lv_istore (lv' := [(8, .int (nI 0)), (7, .int (nI 0)), (5, .long (cj_pa (cj_pp (fun i => con (40 * j_3 + i)) (fun i => con (40 * (ed j_1) + i)) (n j_3) (n (ed j_1))) (n j_3))), (4, .int (nI (ed j_1))), (0, .ref (ad 0)), (1, .int (nI j_1)), (2, .int (nI j_3)), (3, .int (bI b))]) hx hb dM_fresh_95 hl (by decide) rfl (fun ls hl => ?_)
      refine lp_M_frB X hn j_1 j_3 b (by omega) (by omega) (by omega) (cj_pa (cj_pp (fun i => con (40 * j_3 + i)) (fun i => con (40 * (ed j_1) + i)) (n j_3) (n (ed j_1))) (n j_3)) (n (ed j_1)) 0 _ _ ls (by omega) V (lv_sub hl [0, 1, 2, 3, 4, 5, 6, 7] rfl) (fun H locs ls V hl => ?_)
      refine lv_iload hx hb dM_fresh_179 (lv_at hl 1 rfl) ?_
      exact cj_reti (va_up (va_up cl j_3 true) (ed j_1) true, uc.1, uc.2) X hr V (by refine ⟨?_, ?_⟩; · { simp only [f_freshM, ij_1, ij_3] }; · { simp only [q_fresh, ij_1, ij_3]; rfl }) dM_fresh_181
    ·
      have ij_3 := cj_ix_f hj_3
      refine lv_if_ne (tgt := 24) hx hb dM_fresh_19 (by decide) (fun h => absurd (by decide) h) (fun _ => ?_)
      refine lv_iconst (v := (-1)) hx hb dM_fresh_22 (by decide) ?_
      exact cj_reti (cl, lo, pr) X hr V (by refine ⟨?_, ?_⟩; · { simp only [f_freshM, ij_1, ij_3] }; · { simp only [q_fresh, ij_1, ij_3]; rfl }) dM_fresh_23
  ·
    have ij_1 := cj_ix_f hj_1
    refine lv_if_eq (tgt := 22) hx hb dM_fresh_8 (by decide) (fun _ => ?_) (fun h => absurd (by decide) h)
    refine lv_iconst (v := (-1)) hx hb dM_fresh_22 (by decide) ?_
    exact cj_reti (cl, lo, pr) X hr V (by refine ⟨?_, ?_⟩; · { simp only [f_freshM, ij_1] }; · { simp only [q_fresh, ij_1]; rfl }) dM_fresh_23
end
section
-- THE REFERENCE: sets of runs as numbers
theorem cj_sl5 : ∀ k, k < 32 → ((nI k &&& 31).toBitVec.smod 32).toNat = k := by decide +kernel
theorem cj_bit1 {s r : Nat} (hs : s < 2 ^ 31) (hr : r < 32) : (nI s >>> (nI r &&& 31)) &&& nI 1 = nI ((s.testBit r).toNat) := by
  rw [pk_shrN hs _ r (cj_sl5 r hr), pk_andN (k := 1) (by have := Nat.div_le_self s (2 ^ r); omega) (by decide), Nat.toNat_testBit]
theorem cj_pow1 {r : Nat} (hr : r < 31) : nI 1 <<< (nI r &&& 31) = nI (2 ^ r) := by
  have h : 2 ^ r < 2 ^ 31 := wb_lt2 hr
  rw [pk_shlN _ r (cj_sl5 r (by omega)) (by omega), Nat.one_mul]
theorem cj_iorN (a b : Nat) : nI a ||| nI b = nI (a ||| b) := by
  apply Int32.toBitVec_inj.mp
  rw [Int32.toBitVec_or]
  show BitVec.ofNat 32 a ||| BitVec.ofNat 32 b = BitVec.ofNat 32 (a ||| b)
  apply BitVec.eq_of_getLsbD_eq
  intro i hi
  simp [BitVec.getLsbD_ofNat, hi]
/-- the runs of an edition before r, as bits -/
def cj_om (ed : Nat → Nat) (ea : Nat) : Nat → Nat
  | 0 => 0
  | r + 1 => if ed r = ea then cj_om ed ea r + 2 ^ r else cj_om ed ea r
/-- what the runs of a set before r hit, and what they cost -/
def cj_hs (hz : Nat → Int64) (s : Nat) : Nat → Int64
  | 0 => 0
  | r + 1 => bif s.testBit r then cj_hs hz s r ||| hz r else cj_hs hz s r
def cj_su (co : Nat → Nat) (s : Nat) : Nat → Nat
  | 0 => 0
  | r + 1 => bif s.testBit r then cj_su co s r + co r else cj_su co s r
def cj_on (s : Nat) : Nat := cj_cnt s.testBit 14
/-- is s better than the best so far -/
def cj_bt (co : Nat → Nat) (rn : Nat) (B : Option Nat) (s : Nat) : Bool := match B with
  | none => true
  | some t => decide (cj_su co s rn < cj_su co t rn) || (decide (cj_su co s rn = cj_su co t rn) && decide (cj_on s < cj_on t))
/-- the best of the sets before s -/
def cj_bs (co : Nat → Nat) (hz : Nat → Int64) (rn own : Nat) (all : Int64) : Nat → Option Nat
  | 0 => none
  | s + 1 => bif decide (nI s &&& (nI own ^^^ (-1)) = 0) && (decide (cj_hs hz s rn = all) && cj_bt co rn (cj_bs co hz rn own all s) s) then some s else cj_bs co hz rn own all s
def cj_bc (co : Nat → Nat) (rn : Nat) (B : Option Nat) : Nat := match B with
  | none => 0
  | some t => cj_su co t rn
section CJP8
variable {ed co : Nat → Nat} {hz : Nat → Int64} {ea r s rn own : Nat} {all : Int64}
theorem cj_om_lt : ∀ r : Nat, cj_om ed ea r < 2 ^ r
  | 0 => Nat.zero_lt_one
  | r + 1 => by
    have h := cj_om_lt r
    have h2 : 2 ^ (r + 1) = 2 * 2 ^ r := by rw [Nat.pow_succ]; omega
    show (if ed r = ea then cj_om ed ea r + 2 ^ r else cj_om ed ea r) < _
    split <;> omega
theorem cj_om_t (h : ed r = ea) : cj_om ed ea (r + 1) = cj_om ed ea r + 2 ^ r := if_pos h
theorem cj_om_f (h : ed r ≠ ea) : cj_om ed ea (r + 1) = cj_om ed ea r := if_neg h
theorem cj_om_or (hr : r < 31) (h : ed r = ea) : nI (cj_om ed ea r) ||| (nI 1 <<< (nI r &&& 31)) = nI (cj_om ed ea (r + 1)) := by
  rw [cj_pow1 hr, cj_iorN, cj_om_t h, Nat.or_comm]
  have := Nat.two_pow_add_eq_or_of_lt (cj_om_lt (ed := ed) (ea := ea) r) 1
  rw [Nat.mul_one] at this
  rw [← this, Nat.add_comm]
theorem cj_hs_t (h : s.testBit r = true) : cj_hs hz s (r + 1) = cj_hs hz s r ||| hz r := by
  show (bif s.testBit r then _ else _) = _
  rw [h]
  rfl
theorem cj_hs_f (h : s.testBit r = false) : cj_hs hz s (r + 1) = cj_hs hz s r := by
  show (bif s.testBit r then _ else _) = _
  rw [h]
  rfl
theorem cj_su_t (h : s.testBit r = true) : cj_su co s (r + 1) = cj_su co s r + co r := by
  show (bif s.testBit r then _ else _) = _
  rw [h]
  rfl
theorem cj_su_f (h : s.testBit r = false) : cj_su co s (r + 1) = cj_su co s r := by
  show (bif s.testBit r then _ else _) = _
  rw [h]
  rfl
theorem cj_su_le (hco : ∀ r, co r ≤ 100000) : ∀ r : Nat, cj_su co s r ≤ 100000 * r
  | 0 => Nat.le_refl 0
  | r + 1 => by
    have h1 := cj_su_le hco r
    have h2 := hco r
    cases h : s.testBit r with
    | true => rw [cj_su_t h]; omega
    | false => rw [cj_su_f h]; omega
theorem cj_bs_t (h1 : nI s &&& (nI own ^^^ (-1)) = 0) (h2 : cj_hs hz s rn = all) (h3 : cj_bt co rn (cj_bs co hz rn own all s) s = true) : cj_bs co hz rn own all (s + 1) = some s := by
  show (bif decide (nI s &&& (nI own ^^^ (-1)) = 0) && (decide (cj_hs hz s rn = all) && cj_bt co rn (cj_bs co hz rn own all s) s) then some s else cj_bs co hz rn own all s) = _
  rw [decide_eq_true h1, decide_eq_true h2, h3]
  rfl
theorem cj_bs_1 (h1 : ¬ nI s &&& (nI own ^^^ (-1)) = 0) : cj_bs co hz rn own all (s + 1) = cj_bs co hz rn own all s := by
  show (bif decide (nI s &&& (nI own ^^^ (-1)) = 0) && (decide (cj_hs hz s rn = all) && cj_bt co rn (cj_bs co hz rn own all s) s) then some s else cj_bs co hz rn own all s) = _
  rw [decide_eq_false h1]
  rfl
theorem cj_bs_2 (h2 : ¬ cj_hs hz s rn = all) : cj_bs co hz rn own all (s + 1) = cj_bs co hz rn own all s := by
  show (bif decide (nI s &&& (nI own ^^^ (-1)) = 0) && (decide (cj_hs hz s rn = all) && cj_bt co rn (cj_bs co hz rn own all s) s) then some s else cj_bs co hz rn own all s) = _
  rw [decide_eq_false h2, Bool.false_and, Bool.and_false]
  rfl
theorem cj_bs_3 (h3 : cj_bt co rn (cj_bs co hz rn own all s) s = false) : cj_bs co hz rn own all (s + 1) = cj_bs co hz rn own all s := by
  show (bif decide (nI s &&& (nI own ^^^ (-1)) = 0) && (decide (cj_hs hz s rn = all) && cj_bt co rn (cj_bs co hz rn own all s) s) then some s else cj_bs co hz rn own all s) = _
  rw [h3, Bool.and_false, Bool.and_false]
  rfl
theorem cj_bs_lt : ∀ {s t : Nat}, cj_bs co hz rn own all s = some t → t < s
  | 0, _, h => by cases h
  | s + 1, t, h => by
    by_cases h1 : nI s &&& (nI own ^^^ (-1)) = 0
    · by_cases h2 : cj_hs hz s rn = all
      · cases h3 : cj_bt co rn (cj_bs co hz rn own all s) s with
        | true => rw [cj_bs_t h1 h2 h3] at h; cases h; exact Nat.lt_succ_self _
        | false => rw [cj_bs_3 h3] at h; have := cj_bs_lt h; omega
      · rw [cj_bs_2 h2] at h; have := cj_bs_lt h; omega
    · rw [cj_bs_1 h1] at h; have := cj_bs_lt h; omega
end CJP8
def f_leastM (E rn : Nat) (ed co : Nat → Nat) (hz : Nat → Int64) (x : Int32) : Int32 := match cj_ix x E with
  | none => -1
  | some ea => nI (cj_bc co rn (cj_bs co hz rn (cj_om ed ea rn) (cj_sn ed hz ea rn) (2 ^ rn)))
def c_leastM (E rn : Nat) (ed co : Nat → Nat) (hz : Nat → Int64) (ch x : Int32) : Int32 := match cj_ix x E with
  | none => ch
  | some ea => oI (cj_bs co hz rn (cj_om ed ea rn) (cj_sn ed hz ea rn) (2 ^ rn))
theorem cj_p2 {rn : Nat} (h : rn ≤ 14) : 2 ^ rn ≤ 16384 := Nat.pow_le_pow_right (by decide) h
theorem cj_tn1 {b : Bool} (h : b.toNat = 1) : b = true := by cases b <;> simp_all
theorem cj_tn0 {b : Bool} (h : b.toNat ≠ 1) : b = false := by cases b <;> simp_all
theorem cj_tnle (b : Bool) : b.toNat ≤ 1 := by cases b <;> decide
theorem cj_on_le (s : Nat) : cj_on s ≤ 14 := cj_cnt_le _ _
end
section
set_option maxRecDepth 100000 in
set_option maxHeartbeats 4000000 in
theorem lp_M_ones {p : Program} {l : Launch} {e : Env} {s : State} {m : MethodId} {args : Array Value} {below : List Frame} {meth : Method} {c : Code} {Q : State → Prop} {D : va_G} {kd : Nat → ClassId} {A : Nat → Prop} {H0 : Heap} {ad : Nat → Nat} {E : Nat} {rn : Nat} {ch : Int32} {n : Nat → Nat} {con : Nat → Int32} {ow : Nat → Nat} {ge : Nat → Bool} {cl : Nat → Bool} {ed : Nat → Nat} {co : Nat → Nat} {hz : Nat → Int64} {lo : Nat → Nat} {pr : Nat → Int32} (X : cj_X p s m args c meth cM_ones 3 RM D kd) (sv : Nat) (hsv : sv < 2 ^ 31) : ∀ (d i : Nat) (H : Heap) (locs : List Loc) (ls : Array Slot), i + d = 14 → cj_V D A H0 (wM kd ad E rn ch n con ow ge cl ed co hz lo pr) H locs → lv_has ls 3 [(2, .int (nI i)), (1, .int (nI (cj_cnt sv.testBit i))), (0, .int (nI sv))] → (∀ (H : Heap) (locs : List Loc) (ls : Array Slot), cj_V D A H0 (wM kd ad E rn ch n con ow ge cl ed co hz lo pr) H locs → lv_has ls 3 [(2, .int (nI 14)), (1, .int (nI (cj_cnt sv.testBit 14))), (0, .int (nI sv))] → W p l e (cj_rm 0) s m args below meth c H locs 0 0 Q (F0 m 24 ls [])) → W p l e (cj_rm 0) s m args below meth c H locs 0 0 Q (F0 m 4 ls []) := by
  obtain ⟨⟨hx, hb, hml, hown, hts⟩, hK, hlk⟩ := id X
  intro d
  induction d with
  | zero =>
    intro i H locs ls hi V hl kont
    refine lv_iload_n hx hb dM_ones_4 rfl (lv_at hl 0 rfl) ?_
    refine lv_bipush (v := nI 14) hx hb dM_ones_5 (by decide) ?_
    refine cj_n_ge (tgt := 24) hx hb dM_ones_7 (by decide) (by omega) (by omega) (fun c_1 => ?_) (fun c_1 => ?_)
    ·
      obtain rfl : i = 14 := by omega
      exact kont _ _ _ V (lv_sub hl [0, 1, 2] rfl)
    ·
      exact absurd c_1 (by omega)
  | succ d ih =>
    intro i H locs ls hi V hl kont
    refine lv_iload_n hx hb dM_ones_4 rfl (lv_at hl 0 rfl) ?_
    refine lv_bipush (v := nI 14) hx hb dM_ones_5 (by decide) ?_
    refine cj_n_ge (tgt := 24) hx hb dM_ones_7 (by decide) (by omega) (by omega) (fun c_1 => ?_) (fun c_1 => ?_)
    ·
      exact absurd c_1 (by omega)
    ·
      refine lv_iload_n hx hb dM_ones_10 rfl (lv_at hl 1 rfl) ?_
      refine lv_iload_n hx hb dM_ones_11 rfl (lv_at hl 2 rfl) ?_
      refine lv_iload_n hx hb dM_ones_12 rfl (lv_at hl 0 rfl) ?_
      refine lv_ishr hx hb dM_ones_13 ?_
      refine lv_iconst (v := nI 1) hx hb dM_ones_14 (by decide) ?_
      refine lv_iand hx hb dM_ones_15 ?_
      refine cj_ti (cj_bit1 (by omega) (by omega)) ?_
      have f_tn := cj_tnle (sv.testBit i)
      refine cj_iaddN hx hb dM_ones_16 ?_
      refine lv_istore_n (lv' := [(1, .int (nI ((cj_cnt sv.testBit i) + ((sv.testBit i).toNat)))), (2, .int (nI i)), (0, .int (nI sv))]) hx hb dM_ones_17 rfl hl (by decide) rfl (fun ls hl => ?_)
      refine lv_iinc (v := nI (i + 1)) (lv' := [(2, .int (nI (i + 1))), (1, .int (nI ((cj_cnt sv.testBit i) + ((sv.testBit i).toNat)))), (0, .int (nI sv))]) hx hb dM_ones_18 hl (k := 1) rfl (cj_inc _) (by decide) rfl (fun ls hl => ?_)
      refine lv_goto (tgt := 4) hx hb dM_ones_21 (by decide) ?_
      exact ih (i + 1) _ _ ls (by omega) V (lv_sub hl [0, 1, 2] rfl) kont
set_option maxRecDepth 100000 in
set_option maxHeartbeats 4000000 in
theorem c_M_ones (l : Launch) (D : va_G) (kd : Nat → ClassId) (ad : Nat → Nat) {E : Nat} {rn : Nat} {ch : Int32} {n : Nat → Nat} {con : Nat → Int32} {ow : Nat → Nat} {ge : Nat → Bool} {cl : Nat → Bool} {ed : Nat → Nat} {co : Nat → Nat} {hz : Nat → Int64} {lo : Nat → Nat} {pr : Nat → Int32} (sv : Nat) (hsv : sv < 2 ^ 31) : cj_Mi (S := Unit) l yM_ones cM_ones 3 (some .int) 0 D kd [.int (nI sv)] (wM kd ad E rn ch n con ow ge cl ed co hz lo pr) (fun r _ => r = nI (cj_on sv)) (fun _ => wM kd ad E rn ch n con ow ge cl ed co hz lo pr) := by
  refine cj_ofi (by decide) (Nat.le_of_ble_eq_true rfl) ?_
  intro p e s m below meth c A ls X hr V hl
  obtain ⟨⟨hx, hb, hml, hown, hts⟩, hK, hlk⟩ := id X
  have hl : lv_has ls 3 [(0, .int (nI sv))] := hl
  refine lv_iconst (v := nI 0) hx hb dM_ones_0 (by decide) ?_
  refine lv_istore_n (lv' := [(1, .int (nI 0)), (0, .int (nI sv))]) hx hb dM_ones_1 rfl hl (by decide) rfl (fun ls hl => ?_)
  refine lv_iconst (v := nI 0) hx hb dM_ones_2 (by decide) ?_
  refine lv_istore_n (lv' := [(2, .int (nI 0)), (1, .int (nI 0)), (0, .int (nI sv))]) hx hb dM_ones_3 rfl hl (by decide) rfl (fun ls hl => ?_)
  refine lp_M_ones X sv hsv 14 0 _ _ ls (by omega) V (lv_sub hl [0, 1, 2] rfl) (fun H locs ls V hl => ?_)
  refine lv_iload_n hx hb dM_ones_24 rfl (lv_at hl 1 rfl) ?_
  exact cj_reti () X hr V rfl dM_ones_25
set_option maxRecDepth 100000 in
set_option maxHeartbeats 4000000 in
theorem lp_M_lsA {p : Program} {l : Launch} {e : Env} {s : State} {m : MethodId} {args : Array Value} {below : List Frame} {meth : Method} {c : Code} {Q : State → Prop} {D : va_G} {kd : Nat → ClassId} {A : Nat → Prop} {H0 : Heap} {ad : Nat → Nat} {E : Nat} {rn : Nat} {ch : Int32} {n : Nat → Nat} {con : Nat → Int32} {ow : Nat → Nat} {ge : Nat → Bool} {cl : Nat → Bool} {ed : Nat → Nat} {co : Nat → Nat} {hz : Nat → Int64} {lo : Nat → Nat} {pr : Nat → Int32} (X : cj_X p s m args c meth cM_least 12 RM D kd) (hR : rn ≤ 14) (hco : ∀ r, co r ≤ 100000) (hed : ∀ r, r < rn → ed r < 8) (ea : Nat) (he : ea < 8) : ∀ (d i : Nat) (H : Heap) (locs : List Loc) (ls : Array Slot), i + d = rn → cj_V D A H0 (wM kd ad E rn ch n con ow ge cl ed co hz lo pr) H locs → lv_has ls 12 [(5, .int (nI i)), (2, .int (nI (cj_om ed ea i))), (3, .long (cj_sn ed hz ea i)), (0, .ref (ad 0)), (1, .int (nI ea))] → (∀ (H : Heap) (locs : List Loc) (ls : Array Slot), cj_V D A H0 (wM kd ad E rn ch n con ow ge cl ed co hz lo pr) H locs → lv_has ls 12 [(5, .int (nI rn)), (2, .int (nI (cj_om ed ea rn))), (3, .long (cj_sn ed hz ea rn)), (0, .ref (ad 0)), (1, .int (nI ea))] → W p l e (cj_rm 1) s m args below meth c H locs 0 0 Q (F0 m 63 ls [])) → W p l e (cj_rm 1) s m args below meth c H locs 0 0 Q (F0 m 20 ls []) := by
  obtain ⟨⟨hx, hb, hml, hown, hts⟩, hK, hlk⟩ := id X
  intro d
  induction d with
  | zero =>
    intro i H locs ls hi V hl kont
    refine lv_iload hx hb dM_least_20 (lv_at hl 0 rfl) ?_
    refine lv_aload_n hx hb dM_least_22 rfl (lv_at hl 3 rfl) ?_
    refine gM 1 X V fl_M_50 (by decide) rfl dM_least_23 ?_
    refine cj_n_ge (tgt := 63) hx hb dM_least_26 (by decide) (by omega) (by omega) (fun c_1 => ?_) (fun c_1 => ?_)
    ·
      obtain rfl : i = rn := by omega
      exact kont _ _ _ V (lv_sub hl [0, 1, 2, 3, 4] rfl)
    ·
      exact absurd c_1 (by omega)
  | succ d ih =>
    intro i H locs ls hi V hl kont
    refine lv_iload hx hb dM_least_20 (lv_at hl 0 rfl) ?_
    refine lv_aload_n hx hb dM_least_22 rfl (lv_at hl 3 rfl) ?_
    refine gM 1 X V fl_M_50 (by decide) rfl dM_least_23 ?_
    refine cj_n_ge (tgt := 63) hx hb dM_least_26 (by decide) (by omega) (by omega) (fun c_1 => ?_) (fun c_1 => ?_)
    ·
      exact absurd c_1 (by omega)
    ·
      refine lv_aload_n hx hb dM_least_29 rfl (lv_at hl 3 rfl) ?_
      refine gM 8 X V fl_M_26 (by decide) rfl dM_least_30 ?_
      refine lv_iload hx hb dM_least_33 (lv_at hl 0 rfl) ?_
      refine rM_ed X V (by omega) dM_least_35 ?_
      have f_e_2 := hed i (by omega)
      refine lv_iload_n hx hb dM_least_36 rfl (lv_at hl 4 rfl) ?_
      refine cj_n_ne (tgt := 57) hx hb dM_least_37 (by decide) (by omega) (by omega) (fun c_3 => ?_) (fun c_3 => ?_)
      ·
        refine lv_iinc (v := nI (i + 1)) (lv' := [(5, .int (nI (i + 1))), (2, .int (nI (cj_om ed ea i))), (3, .long (cj_sn ed hz ea i)), (0, .ref (ad 0)), (1, .int (nI ea))]) hx hb dM_least_57 hl (k := 0) rfl (cj_inc _) (by decide) rfl (fun ls hl => ?_)
        refine lv_goto (tgt := 20) hx hb dM_least_60 (by decide) ?_
        exact ih (i + 1) _ _ ls (by omega) V (lv_sub hl [0, 1, 2, 3, 4] (by rw [cj_om_f c_3, cj_sn_f c_3]; rfl)) kont
      ·
        refine lv_iload_n hx hb dM_least_40 rfl (lv_at hl 1 rfl) ?_
        refine lv_iconst (v := nI 1) hx hb dM_least_41 (by decide) ?_
        refine lv_iload hx hb dM_least_42 (lv_at hl 0 rfl) ?_
        refine lv_ishl hx hb dM_least_44 ?_
        refine lv_ior hx hb dM_least_45 ?_
        refine lv_istore_n (lv' := [(2, .int ((nI (cj_om ed ea i)) ||| ((nI 1) <<< ((nI i) &&& 31)))), (5, .int (nI i)), (3, .long (cj_sn ed hz ea i)), (0, .ref (ad 0)), (1, .int (nI ea))]) hx hb dM_least_46 rfl hl (by decide) rfl (fun ls hl => ?_)
        refine lv_lload_n hx hb dM_least_47 rfl (lv_at hl 2 rfl) ?_
        refine lv_aload_n hx hb dM_least_48 rfl (lv_at hl 3 rfl) ?_
        refine gM 10 X V fl_M_32 (by decide) rfl dM_least_49 ?_
        refine lv_iload hx hb dM_least_52 (lv_at hl 1 rfl) ?_
        refine rM_hi X V (by omega) dM_least_54 ?_
        refine lv_lor hx hb dM_least_55 ?_
        refine lv_lstore_n (lv' := [(3, .long ((cj_sn ed hz ea i) ||| (hz i))), (2, .int ((nI (cj_om ed ea i)) ||| ((nI 1) <<< ((nI i) &&& 31)))), (5, .int (nI i)), (0, .ref (ad 0)), (1, .int (nI ea))]) hx hb dM_least_56 rfl hl (by decide) rfl (fun ls hl => ?_)
        refine lv_iinc (v := nI (i + 1)) (lv' := [(5, .int (nI (i + 1))), (3, .long ((cj_sn ed hz ea i) ||| (hz i))), (2, .int ((nI (cj_om ed ea i)) ||| ((nI 1) <<< ((nI i) &&& 31)))), (0, .ref (ad 0)), (1, .int (nI ea))]) hx hb dM_least_57 hl (k := 2) rfl (cj_inc _) (by decide) rfl (fun ls hl => ?_)
        refine lv_goto (tgt := 20) hx hb dM_least_60 (by decide) ?_
        exact ih (i + 1) _ _ ls (by omega) V (lv_sub hl [0, 2, 1, 3, 4] (by rw [cj_om_or (by omega) c_3, cj_sn_t c_3]; rfl)) kont
set_option maxRecDepth 100000 in
set_option maxHeartbeats 4000000 in
theorem lp_M_lsB {p : Program} {l : Launch} {e : Env} {s : State} {m : MethodId} {args : Array Value} {below : List Frame} {meth : Method} {c : Code} {Q : State → Prop} {D : va_G} {kd : Nat → ClassId} {A : Nat → Prop} {H0 : Heap} {ad : Nat → Nat} {E : Nat} {rn : Nat} {ch : Int32} {n : Nat → Nat} {con : Nat → Int32} {ow : Nat → Nat} {ge : Nat → Bool} {cl : Nat → Bool} {ed : Nat → Nat} {co : Nat → Nat} {hz : Nat → Int64} {lo : Nat → Nat} {pr : Nat → Int32} (X : cj_X p s m args c meth cM_least 12 RM D kd) (hR : rn ≤ 14) (hco : ∀ r, co r ≤ 100000) (sv : Nat) (hsv : sv < 2 ^ 31) (v6 v5 v2 : Int32) (v3 : Int64) (ea : Nat) : ∀ (d i : Nat) (H : Heap) (locs : List Loc) (ls : Array Slot), i + d = rn → cj_V D A H0 (wM kd ad E rn ch n con ow ge cl ed co hz lo pr) H locs → lv_has ls 12 [(11, .int (nI i)), (10, .int (nI (cj_su co sv i))), (8, .long (cj_hs hz sv i)), (7, .int (nI sv)), (6, .int v6), (5, .int v5), (3, .long v3), (2, .int v2), (0, .ref (ad 0)), (1, .int (nI ea))] → (∀ (H : Heap) (locs : List Loc) (ls : Array Slot), cj_V D A H0 (wM kd ad E rn ch n con ow ge cl ed co hz lo pr) H locs → lv_has ls 12 [(10, .int (nI (cj_su co sv rn))), (8, .long (cj_hs hz sv rn)), (7, .int (nI sv)), (6, .int v6), (5, .int v5), (3, .long v3), (2, .int v2), (0, .ref (ad 0)), (1, .int (nI ea))] → W p l e (cj_rm 1) s m args below meth c H locs 0 0 Q (F0 m 151 ls [])) → W p l e (cj_rm 1) s m args below meth c H locs 0 0 Q (F0 m 101 ls []) := by
  obtain ⟨⟨hx, hb, hml, hown, hts⟩, hK, hlk⟩ := id X
  intro d
  induction d with
  | zero =>
    intro i H locs ls hi V hl kont
    refine lv_iload hx hb dM_least_101 (lv_at hl 0 rfl) ?_
    refine lv_aload_n hx hb dM_least_103 rfl (lv_at hl 8 rfl) ?_
    refine gM 1 X V fl_M_50 (by decide) rfl dM_least_104 ?_
    refine cj_n_ge (tgt := 151) hx hb dM_least_107 (by decide) (by omega) (by omega) (fun c_1 => ?_) (fun c_1 => ?_)
    ·
      obtain rfl : i = rn := by omega
      exact kont _ _ _ V (lv_sub hl [1, 2, 3, 4, 5, 6, 7, 8, 9] rfl)
    ·
      exact absurd c_1 (by omega)
  | succ d ih =>
    intro i H locs ls hi V hl kont
    refine lv_iload hx hb dM_least_101 (lv_at hl 0 rfl) ?_
    refine lv_aload_n hx hb dM_least_103 rfl (lv_at hl 8 rfl) ?_
    refine gM 1 X V fl_M_50 (by decide) rfl dM_least_104 ?_
    refine cj_n_ge (tgt := 151) hx hb dM_least_107 (by decide) (by omega) (by omega) (fun c_1 => ?_) (fun c_1 => ?_)
    ·
      exact absurd c_1 (by omega)
    ·
      refine lv_iload hx hb dM_least_110 (lv_at hl 3 rfl) ?_
      refine lv_iload hx hb dM_least_112 (lv_at hl 0 rfl) ?_
      refine lv_ishr hx hb dM_least_114 ?_
      refine lv_iconst (v := nI 1) hx hb dM_least_115 (by decide) ?_
      refine lv_iand hx hb dM_least_116 ?_
      refine cj_ti (cj_bit1 (by omega) (by omega)) ?_
      have f_tn := cj_tnle (sv.testBit i)
      refine lv_iconst (v := nI 1) hx hb dM_least_117 (by decide) ?_
      refine cj_n_ne (tgt := 145) hx hb dM_least_118 (by decide) (by omega) (by omega) (fun c_2 => ?_) (fun c_2 => ?_)
      ·
        refine lv_iinc (v := nI (i + 1)) (lv' := [(11, .int (nI (i + 1))), (10, .int (nI (cj_su co sv i))), (8, .long (cj_hs hz sv i)), (7, .int (nI sv)), (6, .int v6), (5, .int v5), (3, .long v3), (2, .int v2), (0, .ref (ad 0)), (1, .int (nI ea))]) hx hb dM_least_145 hl (k := 0) rfl (cj_inc _) (by decide) rfl (fun ls hl => ?_)
        refine lv_goto (tgt := 101) hx hb dM_least_148 (by decide) ?_
        exact ih (i + 1) _ _ ls (by omega) V (lv_sub hl [0, 1, 2, 3, 4, 5, 6, 7, 8, 9] (by rw [cj_su_f (cj_tn0 c_2), cj_hs_f (cj_tn0 c_2)]; rfl)) kont
      ·
        refine lv_lload hx hb dM_least_121 (lv_at hl 2 rfl) ?_
        refine lv_aload_n hx hb dM_least_123 rfl (lv_at hl 8 rfl) ?_
        refine gM 10 X V fl_M_32 (by decide) rfl dM_least_124 ?_
        refine lv_iload hx hb dM_least_127 (lv_at hl 0 rfl) ?_
        refine rM_hi X V (by omega) dM_least_129 ?_
        refine lv_lor hx hb dM_least_130 ?_
        refine lv_lstore (lv' := [(8, .long ((cj_hs hz sv i) ||| (hz i))), (11, .int (nI i)), (10, .int (nI (cj_su co sv i))), (7, .int (nI sv)), (6, .int v6), (5, .int v5), (3, .long v3), (2, .int v2), (0, .ref (ad 0)), (1, .int (nI ea))]) hx hb dM_least_131 hl (by decide) rfl (fun ls hl => ?_)
        refine lv_iload hx hb dM_least_133 (lv_at hl 2 rfl) ?_
        refine lv_aload_n hx hb dM_least_135 rfl (lv_at hl 8 rfl) ?_
        refine gM 9 X V fl_M_29 (by decide) rfl dM_least_136 ?_
        refine lv_iload hx hb dM_least_139 (lv_at hl 1 rfl) ?_
        refine rM_co X V (by omega) dM_least_141 ?_
        refine cj_iaddN hx hb dM_least_142 ?_
        refine lv_istore (lv' := [(10, .int (nI ((cj_su co sv i) + (co i)))), (8, .long ((cj_hs hz sv i) ||| (hz i))), (11, .int (nI i)), (7, .int (nI sv)), (6, .int v6), (5, .int v5), (3, .long v3), (2, .int v2), (0, .ref (ad 0)), (1, .int (nI ea))]) hx hb dM_least_143 hl (by decide) rfl (fun ls hl => ?_)
        refine lv_iinc (v := nI (i + 1)) (lv' := [(11, .int (nI (i + 1))), (10, .int (nI ((cj_su co sv i) + (co i)))), (8, .long ((cj_hs hz sv i) ||| (hz i))), (7, .int (nI sv)), (6, .int v6), (5, .int v5), (3, .long v3), (2, .int v2), (0, .ref (ad 0)), (1, .int (nI ea))]) hx hb dM_least_145 hl (k := 2) rfl (cj_inc _) (by decide) rfl (fun ls hl => ?_)
        refine lv_goto (tgt := 101) hx hb dM_least_148 (by decide) ?_
        exact ih (i + 1) _ _ ls (by omega) V (lv_sub hl [0, 1, 2, 3, 4, 5, 6, 7, 8, 9] (by rw [cj_su_t (cj_tn1 c_2), cj_hs_t (cj_tn1 c_2)]; rfl)) kont
set_option maxRecDepth 100000 in
set_option maxHeartbeats 4000000 in
theorem lp_M_lsC {p : Program} {l : Launch} {e : Env} {s : State} {m : MethodId} {args : Array Value} {below : List Frame} {meth : Method} {c : Code} {Q : State → Prop} {D : va_G} {kd : Nat → ClassId} {A : Nat → Prop} {H0 : Heap} {ad : Nat → Nat} {E : Nat} {rn : Nat} {ch : Int32} {n : Nat → Nat} {con : Nat → Int32} {ow : Nat → Nat} {ge : Nat → Bool} {cl : Nat → Bool} {ed : Nat → Nat} {co : Nat → Nat} {hz : Nat → Int64} {lo : Nat → Nat} {pr : Nat → Int32} (X : cj_X p s m args c meth cM_least 12 RM D kd) (hR : rn ≤ 14) (hco : ∀ r, co r ≤ 100000) (hed : ∀ r, r < rn → ed r < 8) (ea : Nat) (he : ea < 8) : ∀ (d i : Nat) (H : Heap) (locs : List Loc) (ls : Array Slot), i + d = 2 ^ rn → cj_V D A H0 (wM kd ad E rn ch n con ow ge cl ed co hz lo pr) H locs → lv_has ls 12 [(7, .int (nI i)), (6, .int (nI (cj_bc co rn (cj_bs co hz rn (cj_om ed ea rn) (cj_sn ed hz ea rn) i)))), (5, .int (oI (cj_bs co hz rn (cj_om ed ea rn) (cj_sn ed hz ea rn) i))), (3, .long (cj_sn ed hz ea rn)), (2, .int (nI (cj_om ed ea rn))), (0, .ref (ad 0)), (1, .int (nI ea))] → (∀ (H : Heap) (locs : List Loc) (ls : Array Slot), cj_V D A H0 (wM kd ad E rn ch n con ow ge cl ed co hz lo pr) H locs → lv_has ls 12 [(6, .int (nI (cj_bc co rn (cj_bs co hz rn (cj_om ed ea rn) (cj_sn ed hz ea rn) (2 ^ rn))))), (5, .int (oI (cj_bs co hz rn (cj_om ed ea rn) (cj_sn ed hz ea rn) (2 ^ rn)))), (3, .long (cj_sn ed hz ea rn)), (2, .int (nI (cj_om ed ea rn))), (0, .ref (ad 0)), (1, .int (nI ea))] → W p l e (cj_rm 1) s m args below meth c H locs 0 0 Q (F0 m 217 ls [])) → W p l e (cj_rm 1) s m args below meth c H locs 0 0 Q (F0 m 72 ls []) := by
  obtain ⟨⟨hx, hb, hml, hown, hts⟩, hK, hlk⟩ := id X
  intro d
  induction d with
  | zero =>
    intro i H locs ls hi V hl kont
    have hp2 := cj_p2 hR
    refine lv_iload hx hb dM_least_72 (lv_at hl 0 rfl) ?_
    refine lv_iconst (v := nI 1) hx hb dM_least_74 (by decide) ?_
    refine lv_aload_n hx hb dM_least_75 rfl (lv_at hl 5 rfl) ?_
    refine gM 1 X V fl_M_50 (by decide) rfl dM_least_76 ?_
    refine lv_ishl hx hb dM_least_79 ?_
    refine cj_ti (cj_pow1 (by omega)) ?_
    refine cj_n_ge (tgt := 217) hx hb dM_least_80 (by decide) (by omega) (by omega) (fun c_1 => ?_) (fun c_1 => ?_)
    ·
      obtain rfl : i = 2 ^ rn := by omega
      exact kont _ _ _ V (lv_sub hl [1, 2, 3, 4, 5, 6] rfl)
    ·
      exact absurd c_1 (by omega)
  | succ d ih =>
    intro i H locs ls hi V hl kont
    have hp2 := cj_p2 hR
    refine lv_iload hx hb dM_least_72 (lv_at hl 0 rfl) ?_
    refine lv_iconst (v := nI 1) hx hb dM_least_74 (by decide) ?_
    refine lv_aload_n hx hb dM_least_75 rfl (lv_at hl 5 rfl) ?_
    refine gM 1 X V fl_M_50 (by decide) rfl dM_least_76 ?_
    refine lv_ishl hx hb dM_least_79 ?_
    refine cj_ti (cj_pow1 (by omega)) ?_
    refine cj_n_ge (tgt := 217) hx hb dM_least_80 (by decide) (by omega) (by omega) (fun c_1 => ?_) (fun c_1 => ?_)
    ·
      exact absurd c_1 (by omega)
    ·
      refine lv_iload hx hb dM_least_83 (lv_at hl 0 rfl) ?_
      refine lv_iload_n hx hb dM_least_85 rfl (lv_at hl 4 rfl) ?_
      refine lv_iconst (v := (-1)) hx hb dM_least_86 (by decide) ?_
      refine lv_ixor hx hb dM_least_87 ?_
      refine lv_iand hx hb dM_least_88 ?_
      refine lv_if_ne (tgt := 211) hx hb dM_least_89 (by decide) (fun c_2 => ?_) (fun c_2 => ?_)
      ·
        refine lv_iinc (v := nI (i + 1)) (lv' := [(7, .int (nI (i + 1))), (6, .int (nI (cj_bc co rn (cj_bs co hz rn (cj_om ed ea rn) (cj_sn ed hz ea rn) i)))), (5, .int (oI (cj_bs co hz rn (cj_om ed ea rn) (cj_sn ed hz ea rn) i))), (3, .long (cj_sn ed hz ea rn)), (2, .int (nI (cj_om ed ea rn))), (0, .ref (ad 0)), (1, .int (nI ea))]) hx hb dM_least_211 hl (k := 0) rfl (cj_inc _) (by decide) rfl (fun ls hl => ?_)
        refine lv_goto (tgt := 72) hx hb dM_least_214 (by decide) ?_
        exact ih (i + 1) _ _ ls (by omega) V (lv_sub hl [0, 1, 2, 3, 4, 5, 6] (by rw [cj_bs_1 c_2]; rfl)) kont
      ·
        rcases hB : cj_bs co hz rn (cj_om ed ea rn) (cj_sn ed hz ea rn) i with _ | t
        ·
          have hl : lv_has ls 12 [(7, .int (nI i)), (6, .int (nI 0)), (5, .int (-1)), (3, .long (cj_sn ed hz ea rn)), (2, .int (nI (cj_om ed ea rn))), (0, .ref (ad 0)), (1, .int (nI ea))] := by rw [hB] at hl; exact hl
          have f_si := cj_su_le (s := i) hco rn
          refine lv_lconst (v := 0) hx hb dM_least_92 (by decide) ?_
          refine lv_lstore (lv' := [(8, .long 0), (7, .int (nI i)), (6, .int (nI 0)), (5, .int (-1)), (3, .long (cj_sn ed hz ea rn)), (2, .int (nI (cj_om ed ea rn))), (0, .ref (ad 0)), (1, .int (nI ea))]) hx hb dM_least_93 hl (by decide) rfl (fun ls hl => ?_)
          refine lv_iconst (v := nI 0) hx hb dM_least_95 (by decide) ?_
          refine lv_istore (lv' := [(10, .int (nI 0)), (8, .long 0), (7, .int (nI i)), (6, .int (nI 0)), (5, .int (-1)), (3, .long (cj_sn ed hz ea rn)), (2, .int (nI (cj_om ed ea rn))), (0, .ref (ad 0)), (1, .int (nI ea))]) hx hb dM_least_96 hl (by decide) rfl (fun ls hl => ?_)
          refine lv_iconst (v := nI 0) hx hb dM_least_98 (by decide) ?_
          refine lv_istore (lv' := [(11, .int (nI 0)), (10, .int (nI 0)), (8, .long 0), (7, .int (nI i)), (6, .int (nI 0)), (5, .int (-1)), (3, .long (cj_sn ed hz ea rn)), (2, .int (nI (cj_om ed ea rn))), (0, .ref (ad 0)), (1, .int (nI ea))]) hx hb dM_least_99 hl (by decide) rfl (fun ls hl => ?_)
          refine lp_M_lsB X hR hco i (by omega) (nI 0) (-1) (nI (cj_om ed ea rn)) (cj_sn ed hz ea rn) ea rn 0 _ _ ls (by omega) V (lv_sub hl [0, 1, 2, 3, 4, 5, 6, 7, 8, 9] rfl) (fun H locs ls V hl => ?_)
          refine lv_iload hx hb dM_least_151 (lv_at hl 4 rfl) ?_
          refine lv_iconst (v := (-1)) hx hb dM_least_153 (by decide) ?_
          refine lv_icmp_eq (tgt := 184) hx hb dM_least_154 (by decide) (fun _ => ?_) (fun h => absurd rfl h)
          refine lv_iconst (v := nI 1) hx hb dM_least_184 (by decide) ?_
          refine lv_goto (tgt := 189) hx hb dM_least_185 (by decide) ?_
          refine lv_istore (lv' := [(11, .int (nI 1)), (10, .int (nI (cj_su co i rn))), (8, .long (cj_hs hz i rn)), (7, .int (nI i)), (6, .int (nI 0)), (5, .int (-1)), (3, .long (cj_sn ed hz ea rn)), (2, .int (nI (cj_om ed ea rn))), (0, .ref (ad 0)), (1, .int (nI ea))]) hx hb dM_least_189 hl (by decide) rfl (fun ls hl => ?_)
          refine lv_lload hx hb dM_least_191 (lv_at hl 2 rfl) ?_
          refine lv_lload_n hx hb dM_least_193 rfl (lv_at hl 6 rfl) ?_
          refine cj_l_ne (tgt := 211) hx hb dM_least_194 dM_least_195 (by decide) (fun c_4 => ?_) (fun c_4 => ?_)
          ·
            refine lv_iinc (v := nI (i + 1)) (lv' := [(7, .int (nI (i + 1))), (11, .int (nI 1)), (10, .int (nI (cj_su co i rn))), (8, .long (cj_hs hz i rn)), (6, .int (nI 0)), (5, .int (-1)), (3, .long (cj_sn ed hz ea rn)), (2, .int (nI (cj_om ed ea rn))), (0, .ref (ad 0)), (1, .int (nI ea))]) hx hb dM_least_211 hl (k := 3) rfl (cj_inc _) (by decide) rfl (fun ls hl => ?_)
            refine lv_goto (tgt := 72) hx hb dM_least_214 (by decide) ?_
            exact ih (i + 1) _ _ ls (by omega) V (lv_sub hl [0, 4, 5, 6, 7, 8, 9] (by rw [cj_bs_2 c_4, hB]; rfl)) kont
          ·
            refine lv_iload hx hb dM_least_198 (lv_at hl 0 rfl) ?_
            refine lv_if_eq (tgt := 211) hx hb dM_least_200 (by decide) (fun h => absurd h (by decide)) (fun _ => ?_)
            refine lv_iload hx hb dM_least_203 (lv_at hl 3 rfl) ?_
            refine lv_istore (lv' := [(5, .int (nI i)), (11, .int (nI 1)), (10, .int (nI (cj_su co i rn))), (8, .long (cj_hs hz i rn)), (7, .int (nI i)), (6, .int (nI 0)), (3, .long (cj_sn ed hz ea rn)), (2, .int (nI (cj_om ed ea rn))), (0, .ref (ad 0)), (1, .int (nI ea))]) hx hb dM_least_205 hl (by decide) rfl (fun ls hl => ?_)
            refine lv_iload hx hb dM_least_207 (lv_at hl 2 rfl) ?_
            refine lv_istore (lv' := [(6, .int (nI (cj_su co i rn))), (5, .int (nI i)), (11, .int (nI 1)), (10, .int (nI (cj_su co i rn))), (8, .long (cj_hs hz i rn)), (7, .int (nI i)), (3, .long (cj_sn ed hz ea rn)), (2, .int (nI (cj_om ed ea rn))), (0, .ref (ad 0)), (1, .int (nI ea))]) hx hb dM_least_209 hl (by decide) rfl (fun ls hl => ?_)
            refine lv_iinc (v := nI (i + 1)) (lv' := [(7, .int (nI (i + 1))), (6, .int (nI (cj_su co i rn))), (5, .int (nI i)), (11, .int (nI 1)), (10, .int (nI (cj_su co i rn))), (8, .long (cj_hs hz i rn)), (3, .long (cj_sn ed hz ea rn)), (2, .int (nI (cj_om ed ea rn))), (0, .ref (ad 0)), (1, .int (nI ea))]) hx hb dM_least_211 hl (k := 5) rfl (cj_inc _) (by decide) rfl (fun ls hl => ?_)
            refine lv_goto (tgt := 72) hx hb dM_least_214 (by decide) ?_
            have hbt : cj_bt co rn (cj_bs co hz rn (cj_om ed ea rn) (cj_sn ed hz ea rn) i) i = true := by rw [hB]; rfl
            exact ih (i + 1) _ _ ls (by omega) V (lv_sub hl [0, 1, 2, 6, 7, 8, 9] (by rw [cj_bs_t c_2 c_4 hbt]; rfl)) kont
        ·
          have hl : lv_has ls 12 [(7, .int (nI i)), (6, .int (nI (cj_su co t rn))), (5, .int (nI t)), (3, .long (cj_sn ed hz ea rn)), (2, .int (nI (cj_om ed ea rn))), (0, .ref (ad 0)), (1, .int (nI ea))] := by rw [hB] at hl; exact hl
          have htlt := cj_bs_lt hB
          have f_st := cj_su_le (s := t) hco rn
          have f_si := cj_su_le (s := i) hco rn
          refine lv_lconst (v := 0) hx hb dM_least_92 (by decide) ?_
          refine lv_lstore (lv' := [(8, .long 0), (7, .int (nI i)), (6, .int (nI (cj_su co t rn))), (5, .int (nI t)), (3, .long (cj_sn ed hz ea rn)), (2, .int (nI (cj_om ed ea rn))), (0, .ref (ad 0)), (1, .int (nI ea))]) hx hb dM_least_93 hl (by decide) rfl (fun ls hl => ?_)
          refine lv_iconst (v := nI 0) hx hb dM_least_95 (by decide) ?_
          refine lv_istore (lv' := [(10, .int (nI 0)), (8, .long 0), (7, .int (nI i)), (6, .int (nI (cj_su co t rn))), (5, .int (nI t)), (3, .long (cj_sn ed hz ea rn)), (2, .int (nI (cj_om ed ea rn))), (0, .ref (ad 0)), (1, .int (nI ea))]) hx hb dM_least_96 hl (by decide) rfl (fun ls hl => ?_)
          refine lv_iconst (v := nI 0) hx hb dM_least_98 (by decide) ?_
          refine lv_istore (lv' := [(11, .int (nI 0)), (10, .int (nI 0)), (8, .long 0), (7, .int (nI i)), (6, .int (nI (cj_su co t rn))), (5, .int (nI t)), (3, .long (cj_sn ed hz ea rn)), (2, .int (nI (cj_om ed ea rn))), (0, .ref (ad 0)), (1, .int (nI ea))]) hx hb dM_least_99 hl (by decide) rfl (fun ls hl => ?_)
          refine lp_M_lsB X hR hco i (by omega) (nI (cj_su co t rn)) (nI t) (nI (cj_om ed ea rn)) (cj_sn ed hz ea rn) ea rn 0 _ _ ls (by omega) V (lv_sub hl [0, 1, 2, 3, 4, 5, 6, 7, 8, 9] rfl) (fun H locs ls V hl => ?_)
          refine lv_iload hx hb dM_least_151 (lv_at hl 4 rfl) ?_
          refine lv_iconst (v := (-1)) hx hb dM_least_153 (by decide) ?_
          refine lv_icmp_eq (tgt := 184) hx hb dM_least_154 (by decide) (fun h => absurd h (cj_nm1 (by omega))) (fun _ => ?_)
          refine lv_iload hx hb dM_least_157 (lv_at hl 0 rfl) ?_
          refine lv_iload hx hb dM_least_159 (lv_at hl 3 rfl) ?_
          refine cj_n_lt (tgt := 184) hx hb dM_least_161 (by decide) (by omega) (by omega) (fun c_7 => ?_) (fun c_7 => ?_)
          ·
            refine lv_iconst (v := nI 1) hx hb dM_least_184 (by decide) ?_
            refine lv_goto (tgt := 189) hx hb dM_least_185 (by decide) ?_
            refine lv_istore (lv' := [(11, .int (nI 1)), (10, .int (nI (cj_su co i rn))), (8, .long (cj_hs hz i rn)), (7, .int (nI i)), (6, .int (nI (cj_su co t rn))), (5, .int (nI t)), (3, .long (cj_sn ed hz ea rn)), (2, .int (nI (cj_om ed ea rn))), (0, .ref (ad 0)), (1, .int (nI ea))]) hx hb dM_least_189 hl (by decide) rfl (fun ls hl => ?_)
            refine lv_lload hx hb dM_least_191 (lv_at hl 2 rfl) ?_
            refine lv_lload_n hx hb dM_least_193 rfl (lv_at hl 6 rfl) ?_
            refine cj_l_ne (tgt := 211) hx hb dM_least_194 dM_least_195 (by decide) (fun c_8 => ?_) (fun c_8 => ?_)
            ·
              refine lv_iinc (v := nI (i + 1)) (lv' := [(7, .int (nI (i + 1))), (11, .int (nI 1)), (10, .int (nI (cj_su co i rn))), (8, .long (cj_hs hz i rn)), (6, .int (nI (cj_su co t rn))), (5, .int (nI t)), (3, .long (cj_sn ed hz ea rn)), (2, .int (nI (cj_om ed ea rn))), (0, .ref (ad 0)), (1, .int (nI ea))]) hx hb dM_least_211 hl (k := 3) rfl (cj_inc _) (by decide) rfl (fun ls hl => ?_)
              refine lv_goto (tgt := 72) hx hb dM_least_214 (by decide) ?_
              exact ih (i + 1) _ _ ls (by omega) V (lv_sub hl [0, 4, 5, 6, 7, 8, 9] (by rw [cj_bs_2 c_8, hB]; rfl)) kont
            ·
              refine lv_iload hx hb dM_least_198 (lv_at hl 0 rfl) ?_
              refine lv_if_eq (tgt := 211) hx hb dM_least_200 (by decide) (fun h => absurd h (by decide)) (fun _ => ?_)
              refine lv_iload hx hb dM_least_203 (lv_at hl 3 rfl) ?_
              refine lv_istore (lv' := [(5, .int (nI i)), (11, .int (nI 1)), (10, .int (nI (cj_su co i rn))), (8, .long (cj_hs hz i rn)), (7, .int (nI i)), (6, .int (nI (cj_su co t rn))), (3, .long (cj_sn ed hz ea rn)), (2, .int (nI (cj_om ed ea rn))), (0, .ref (ad 0)), (1, .int (nI ea))]) hx hb dM_least_205 hl (by decide) rfl (fun ls hl => ?_)
              refine lv_iload hx hb dM_least_207 (lv_at hl 2 rfl) ?_
              refine lv_istore (lv' := [(6, .int (nI (cj_su co i rn))), (5, .int (nI i)), (11, .int (nI 1)), (10, .int (nI (cj_su co i rn))), (8, .long (cj_hs hz i rn)), (7, .int (nI i)), (3, .long (cj_sn ed hz ea rn)), (2, .int (nI (cj_om ed ea rn))), (0, .ref (ad 0)), (1, .int (nI ea))]) hx hb dM_least_209 hl (by decide) rfl (fun ls hl => ?_)
              refine lv_iinc (v := nI (i + 1)) (lv' := [(7, .int (nI (i + 1))), (6, .int (nI (cj_su co i rn))), (5, .int (nI i)), (11, .int (nI 1)), (10, .int (nI (cj_su co i rn))), (8, .long (cj_hs hz i rn)), (3, .long (cj_sn ed hz ea rn)), (2, .int (nI (cj_om ed ea rn))), (0, .ref (ad 0)), (1, .int (nI ea))]) hx hb dM_least_211 hl (k := 5) rfl (cj_inc _) (by decide) rfl (fun ls hl => ?_)
              refine lv_goto (tgt := 72) hx hb dM_least_214 (by decide) ?_
              have hbt : cj_bt co rn (cj_bs co hz rn (cj_om ed ea rn) (cj_sn ed hz ea rn) i) i = true := by rw [hB]; simp only [cj_bt, Bool.or_eq_true, Bool.and_eq_true, decide_eq_true_eq]; omega
              exact ih (i + 1) _ _ ls (by omega) V (lv_sub hl [0, 1, 2, 6, 7, 8, 9] (by rw [cj_bs_t c_2 c_8 hbt]; rfl)) kont
          ·
            refine lv_iload hx hb dM_least_164 (lv_at hl 0 rfl) ?_
            refine lv_iload hx hb dM_least_166 (lv_at hl 3 rfl) ?_
            refine cj_n_ne (tgt := 188) hx hb dM_least_168 (by decide) (by omega) (by omega) (fun c_10 => ?_) (fun c_10 => ?_)
            ·
              refine lv_iconst (v := nI 0) hx hb dM_least_188 (by decide) ?_
              refine lv_istore (lv' := [(11, .int (nI 0)), (10, .int (nI (cj_su co i rn))), (8, .long (cj_hs hz i rn)), (7, .int (nI i)), (6, .int (nI (cj_su co t rn))), (5, .int (nI t)), (3, .long (cj_sn ed hz ea rn)), (2, .int (nI (cj_om ed ea rn))), (0, .ref (ad 0)), (1, .int (nI ea))]) hx hb dM_least_189 hl (by decide) rfl (fun ls hl => ?_)
              refine lv_lload hx hb dM_least_191 (lv_at hl 2 rfl) ?_
              refine lv_lload_n hx hb dM_least_193 rfl (lv_at hl 6 rfl) ?_
              refine cj_l_ne (tgt := 211) hx hb dM_least_194 dM_least_195 (by decide) (fun c_11 => ?_) (fun c_11 => ?_)
              ·
                refine lv_iinc (v := nI (i + 1)) (lv' := [(7, .int (nI (i + 1))), (11, .int (nI 0)), (10, .int (nI (cj_su co i rn))), (8, .long (cj_hs hz i rn)), (6, .int (nI (cj_su co t rn))), (5, .int (nI t)), (3, .long (cj_sn ed hz ea rn)), (2, .int (nI (cj_om ed ea rn))), (0, .ref (ad 0)), (1, .int (nI ea))]) hx hb dM_least_211 hl (k := 3) rfl (cj_inc _) (by decide) rfl (fun ls hl => ?_)
                refine lv_goto (tgt := 72) hx hb dM_least_214 (by decide) ?_
                exact ih (i + 1) _ _ ls (by omega) V (lv_sub hl [0, 4, 5, 6, 7, 8, 9] (by rw [cj_bs_2 c_11, hB]; rfl)) kont
              ·
                refine lv_iload hx hb dM_least_198 (lv_at hl 0 rfl) ?_
                refine lv_if_eq (tgt := 211) hx hb dM_least_200 (by decide) (fun _ => ?_) (fun h => absurd (by decide) h)
                refine lv_iinc (v := nI (i + 1)) (lv' := [(7, .int (nI (i + 1))), (11, .int (nI 0)), (10, .int (nI (cj_su co i rn))), (8, .long (cj_hs hz i rn)), (6, .int (nI (cj_su co t rn))), (5, .int (nI t)), (3, .long (cj_sn ed hz ea rn)), (2, .int (nI (cj_om ed ea rn))), (0, .ref (ad 0)), (1, .int (nI ea))]) hx hb dM_least_211 hl (k := 3) rfl (cj_inc _) (by decide) rfl (fun ls hl => ?_)
                refine lv_goto (tgt := 72) hx hb dM_least_214 (by decide) ?_
                have hbt : cj_bt co rn (cj_bs co hz rn (cj_om ed ea rn) (cj_sn ed hz ea rn) i) i = false := by rw [hB]; simp only [cj_bt, Bool.or_eq_false_iff, Bool.and_eq_false_iff, decide_eq_false_iff_not]; omega
                exact ih (i + 1) _ _ ls (by omega) V (lv_sub hl [0, 4, 5, 6, 7, 8, 9] (by rw [cj_bs_3 hbt, hB]; rfl)) kont
            ·
              refine lv_iload hx hb dM_least_171 (lv_at hl 2 rfl) ?_
              refine cj_csi X V (c_M_ones l D kd ad i (by omega)) ml_M_78 st_M_ones in_M cd_M_ones hd_M_ones ⟨by decide, by decide⟩ ⟨Nat.le_refl _, Nat.le_refl _⟩ hl.1 rfl (Nat.le_of_ble_eq_true rfl) dM_least_173 (fun r_9 u_9 H locs hw V => ?_)
              obtain rfl := hw
              have f_o_13 := cj_on_le i
              refine lv_iload hx hb dM_least_176 (lv_at hl 4 rfl) ?_
              refine cj_csi X V (c_M_ones l D kd ad t (by omega)) ml_M_78 st_M_ones in_M cd_M_ones hd_M_ones ⟨by decide, by decide⟩ ⟨Nat.le_refl _, Nat.le_refl _⟩ hl.1 rfl (Nat.le_of_ble_eq_true rfl) dM_least_178 (fun r_9 u_9 H locs hw V => ?_)
              obtain rfl := hw
              have f_o_14 := cj_on_le t
              refine cj_n_ge (tgt := 188) hx hb dM_least_181 (by decide) (by omega) (by omega) (fun c_15 => ?_) (fun c_15 => ?_)
              ·
                refine lv_iconst (v := nI 0) hx hb dM_least_188 (by decide) ?_
                refine lv_istore (lv' := [(11, .int (nI 0)), (10, .int (nI (cj_su co i rn))), (8, .long (cj_hs hz i rn)), (7, .int (nI i)), (6, .int (nI (cj_su co t rn))), (5, .int (nI t)), (3, .long (cj_sn ed hz ea rn)), (2, .int (nI (cj_om ed ea rn))), (0, .ref (ad 0)), (1, .int (nI ea))]) hx hb dM_least_189 hl (by decide) rfl (fun ls hl => ?_)
                refine lv_lload hx hb dM_least_191 (lv_at hl 2 rfl) ?_
                refine lv_lload_n hx hb dM_least_193 rfl (lv_at hl 6 rfl) ?_
                refine cj_l_ne (tgt := 211) hx hb dM_least_194 dM_least_195 (by decide) (fun c_16 => ?_) (fun c_16 => ?_)
                ·
                  refine lv_iinc (v := nI (i + 1)) (lv' := [(7, .int (nI (i + 1))), (11, .int (nI 0)), (10, .int (nI (cj_su co i rn))), (8, .long (cj_hs hz i rn)), (6, .int (nI (cj_su co t rn))), (5, .int (nI t)), (3, .long (cj_sn ed hz ea rn)), (2, .int (nI (cj_om ed ea rn))), (0, .ref (ad 0)), (1, .int (nI ea))]) hx hb dM_least_211 hl (k := 3) rfl (cj_inc _) (by decide) rfl (fun ls hl => ?_)
                  refine lv_goto (tgt := 72) hx hb dM_least_214 (by decide) ?_
                  exact ih (i + 1) _ _ ls (by omega) V (lv_sub hl [0, 4, 5, 6, 7, 8, 9] (by rw [cj_bs_2 c_16, hB]; rfl)) kont
                ·
                  refine lv_iload hx hb dM_least_198 (lv_at hl 0 rfl) ?_
                  refine lv_if_eq (tgt := 211) hx hb dM_least_200 (by decide) (fun _ => ?_) (fun h => absurd (by decide) h)
                  refine lv_iinc (v := nI (i + 1)) (lv' := [(7, .int (nI (i + 1))), (11, .int (nI 0)), (10, .int (nI (cj_su co i rn))), (8, .long (cj_hs hz i rn)), (6, .int (nI (cj_su co t rn))), (5, .int (nI t)), (3, .long (cj_sn ed hz ea rn)), (2, .int (nI (cj_om ed ea rn))), (0, .ref (ad 0)), (1, .int (nI ea))]) hx hb dM_least_211 hl (k := 3) rfl (cj_inc _) (by decide) rfl (fun ls hl => ?_)
                  refine lv_goto (tgt := 72) hx hb dM_least_214 (by decide) ?_
                  have hbt : cj_bt co rn (cj_bs co hz rn (cj_om ed ea rn) (cj_sn ed hz ea rn) i) i = false := by rw [hB]; simp only [cj_bt, Bool.or_eq_false_iff, Bool.and_eq_false_iff, decide_eq_false_iff_not]; omega
                  exact ih (i + 1) _ _ ls (by omega) V (lv_sub hl [0, 4, 5, 6, 7, 8, 9] (by rw [cj_bs_3 hbt, hB]; rfl)) kont
              ·
                refine lv_iconst (v := nI 1) hx hb dM_least_184 (by decide) ?_
                refine lv_goto (tgt := 189) hx hb dM_least_185 (by decide) ?_
                refine lv_istore (lv' := [(11, .int (nI 1)), (10, .int (nI (cj_su co i rn))), (8, .long (cj_hs hz i rn)), (7, .int (nI i)), (6, .int (nI (cj_su co t rn))), (5, .int (nI t)), (3, .long (cj_sn ed hz ea rn)), (2, .int (nI (cj_om ed ea rn))), (0, .ref (ad 0)), (1, .int (nI ea))]) hx hb dM_least_189 hl (by decide) rfl (fun ls hl => ?_)
                refine lv_lload hx hb dM_least_191 (lv_at hl 2 rfl) ?_
                refine lv_lload_n hx hb dM_least_193 rfl (lv_at hl 6 rfl) ?_
                refine cj_l_ne (tgt := 211) hx hb dM_least_194 dM_least_195 (by decide) (fun c_18 => ?_) (fun c_18 => ?_)
                ·
                  refine lv_iinc (v := nI (i + 1)) (lv' := [(7, .int (nI (i + 1))), (11, .int (nI 1)), (10, .int (nI (cj_su co i rn))), (8, .long (cj_hs hz i rn)), (6, .int (nI (cj_su co t rn))), (5, .int (nI t)), (3, .long (cj_sn ed hz ea rn)), (2, .int (nI (cj_om ed ea rn))), (0, .ref (ad 0)), (1, .int (nI ea))]) hx hb dM_least_211 hl (k := 3) rfl (cj_inc _) (by decide) rfl (fun ls hl => ?_)
                  refine lv_goto (tgt := 72) hx hb dM_least_214 (by decide) ?_
                  exact ih (i + 1) _ _ ls (by omega) V (lv_sub hl [0, 4, 5, 6, 7, 8, 9] (by rw [cj_bs_2 c_18, hB]; rfl)) kont
                ·
                  refine lv_iload hx hb dM_least_198 (lv_at hl 0 rfl) ?_
                  refine lv_if_eq (tgt := 211) hx hb dM_least_200 (by decide) (fun h => absurd h (by decide)) (fun _ => ?_)
                  refine lv_iload hx hb dM_least_203 (lv_at hl 3 rfl) ?_
                  refine lv_istore (lv' := [(5, .int (nI i)), (11, .int (nI 1)), (10, .int (nI (cj_su co i rn))), (8, .long (cj_hs hz i rn)), (7, .int (nI i)), (6, .int (nI (cj_su co t rn))), (3, .long (cj_sn ed hz ea rn)), (2, .int (nI (cj_om ed ea rn))), (0, .ref (ad 0)), (1, .int (nI ea))]) hx hb dM_least_205 hl (by decide) rfl (fun ls hl => ?_)
                  refine lv_iload hx hb dM_least_207 (lv_at hl 2 rfl) ?_
                  refine lv_istore (lv' := [(6, .int (nI (cj_su co i rn))), (5, .int (nI i)), (11, .int (nI 1)), (10, .int (nI (cj_su co i rn))), (8, .long (cj_hs hz i rn)), (7, .int (nI i)), (3, .long (cj_sn ed hz ea rn)), (2, .int (nI (cj_om ed ea rn))), (0, .ref (ad 0)), (1, .int (nI ea))]) hx hb dM_least_209 hl (by decide) rfl (fun ls hl => ?_)
                  refine lv_iinc (v := nI (i + 1)) (lv' := [(7, .int (nI (i + 1))), (6, .int (nI (cj_su co i rn))), (5, .int (nI i)), (11, .int (nI 1)), (10, .int (nI (cj_su co i rn))), (8, .long (cj_hs hz i rn)), (3, .long (cj_sn ed hz ea rn)), (2, .int (nI (cj_om ed ea rn))), (0, .ref (ad 0)), (1, .int (nI ea))]) hx hb dM_least_211 hl (k := 5) rfl (cj_inc _) (by decide) rfl (fun ls hl => ?_)
                  refine lv_goto (tgt := 72) hx hb dM_least_214 (by decide) ?_
                  have hbt : cj_bt co rn (cj_bs co hz rn (cj_om ed ea rn) (cj_sn ed hz ea rn) i) i = true := by rw [hB]; simp only [cj_bt, Bool.or_eq_true, Bool.and_eq_true, decide_eq_true_eq]; omega
                  exact ih (i + 1) _ _ ls (by omega) V (lv_sub hl [0, 1, 2, 6, 7, 8, 9] (by rw [cj_bs_t c_2 c_18 hbt]; rfl)) kont
set_option maxRecDepth 100000 in
set_option maxHeartbeats 4000000 in
theorem c_M_least (l : Launch) (D : va_G) (kd : Nat → ClassId) (ad : Nat → Nat) {E : Nat} {rn : Nat} {ch : Int32} {n : Nat → Nat} {con : Nat → Int32} {ow : Nat → Nat} {ge : Nat → Bool} {cl : Nat → Bool} {ed : Nat → Nat} {co : Nat → Nat} {hz : Nat → Int64} {lo : Nat → Nat} {pr : Nat → Int32} (hE : E ≤ 8) (hn : ∀ i, n i ≤ 40) (hR : rn ≤ 14) (hed : ∀ r, r < rn → ed r < E) (hco : ∀ r, co r ≤ 100000) (x : Int32) : cj_Mi (S := Int32) l yM_least cM_least 12 (some .int) 1 D kd [.ref (ad 0), .int x] (wM kd ad E rn ch n con ow ge cl ed co hz lo pr) (fun r u => r = f_leastM E rn ed co hz x ∧ u = c_leastM E rn ed co hz ch x) (fun u => wM kd ad E rn u n con ow ge cl ed co hz lo pr) := by
  refine cj_ofi (by decide) (Nat.le_of_ble_eq_true rfl) ?_
  intro p e s m below meth c A ls X hr V hl
  obtain ⟨⟨hx, hb, hml, hown, hts⟩, hK, hlk⟩ := id X
  have hl : lv_has ls 12 [(0, .ref (ad 0)), (1, .int x)] := hl
  refine lv_iload_n hx hb dM_least_0 rfl (lv_at hl 1 rfl) ?_
  refine lv_aload_n hx hb dM_least_1 rfl (lv_at hl 0 rfl) ?_
  refine gM 0 X V fl_M_42 (by decide) rfl dM_least_2 ?_
  refine cj_csi X V (c_M_in l D kd ad x E (by omega)) ml_M_46 st_M_in in_M cd_M_in hd_M_in ⟨by decide, by decide⟩ ⟨Nat.le_refl _, Nat.le_refl _⟩ hl.1 rfl (Nat.le_of_ble_eq_true rfl) dM_least_5 (fun r_9 u_9 H locs hw V => ?_)
  rcases hw with ⟨rfl, j_1, hj_1, rfl⟩ | ⟨rfl, hj_1⟩
  ·
    have ij_1 := cj_ix_t hj_1 (show E < 2 ^ 31 by omega)
    refine lv_if_ne (tgt := 13) hx hb dM_least_8 (by decide) (fun _ => ?_) (fun h => absurd h (by decide))
    refine lv_iconst (v := nI 0) hx hb dM_least_13 (by decide) ?_
    refine lv_istore_n (lv' := [(2, .int (nI 0)), (0, .ref (ad 0)), (1, .int (nI j_1))]) hx hb dM_least_14 rfl hl (by decide) rfl (fun ls hl => ?_)
    refine lv_lconst (v := 0) hx hb dM_least_15 (by decide) ?_
    refine lv_lstore_n (lv' := [(3, .long 0), (2, .int (nI 0)), (0, .ref (ad 0)), (1, .int (nI j_1))]) hx hb dM_least_16 rfl hl (by decide) rfl (fun ls hl => ?_)
    refine lv_iconst (v := nI 0) hx hb dM_least_17 (by decide) ?_
    refine lv_istore (lv' := [(5, .int (nI 0)), (3, .long 0), (2, .int (nI 0)), (0, .ref (ad 0)), (1, .int (nI j_1))]) hx hb dM_least_18 hl (by decide) rfl (fun ls hl => ?_)
    refine lp_M_lsA X hR hco (fun r h => by have := hed r h; omega) j_1 (by omega) rn 0 _ _ ls (by omega) V (lv_sub hl [0, 2, 1, 3, 4] rfl) (fun H locs ls V hl => ?_)
    refine lv_iconst (v := (-1)) hx hb dM_least_63 (by decide) ?_
    refine lv_istore (lv' := [(5, .int (-1)), (2, .int (nI (cj_om ed j_1 rn))), (3, .long (cj_sn ed hz j_1 rn)), (0, .ref (ad 0)), (1, .int (nI j_1))]) hx hb dM_least_64 hl (by decide) rfl (fun ls hl => ?_)
    refine lv_iconst (v := nI 0) hx hb dM_least_66 (by decide) ?_
    refine lv_istore (lv' := [(6, .int (nI 0)), (5, .int (-1)), (2, .int (nI (cj_om ed j_1 rn))), (3, .long (cj_sn ed hz j_1 rn)), (0, .ref (ad 0)), (1, .int (nI j_1))]) hx hb dM_least_67 hl (by decide) rfl (fun ls hl => ?_)
    refine lv_iconst (v := nI 0) hx hb dM_least_69 (by decide) ?_
    refine lv_istore (lv' := [(7, .int (nI 0)), (6, .int (nI 0)), (5, .int (-1)), (2, .int (nI (cj_om ed j_1 rn))), (3, .long (cj_sn ed hz j_1 rn)), (0, .ref (ad 0)), (1, .int (nI j_1))]) hx hb dM_least_70 hl (by decide) rfl (fun ls hl => ?_)
    refine lp_M_lsC X hR hco (fun r h => by have := hed r h; omega) j_1 (by omega) (2 ^ rn) 0 _ _ ls (by omega) V (lv_sub hl [0, 1, 2, 4, 3, 5, 6] rfl) (fun H locs ls V hl => ?_)
    refine lv_aload_n hx hb dM_least_217 rfl (lv_at hl 4 rfl) ?_
    refine lv_iload hx hb dM_least_218 (lv_at hl 1 rfl) ?_
    refine pM_ch X V fl_M_82 dM_least_220 (fun H locs V => ?_)
    refine lv_iload hx hb dM_least_223 (lv_at hl 0 rfl) ?_
    exact cj_reti (oI (cj_bs co hz rn (cj_om ed j_1 rn) (cj_sn ed hz j_1 rn) (2 ^ rn))) X hr V (by refine ⟨?_, ?_⟩; · { simp only [f_leastM, ij_1] }; · { simp only [c_leastM, ij_1] }) dM_least_225
  ·
    have ij_1 := cj_ix_f hj_1
    refine lv_if_ne (tgt := 13) hx hb dM_least_8 (by decide) (fun h => absurd (by decide) h) (fun _ => ?_)
    refine lv_iconst (v := (-1)) hx hb dM_least_11 (by decide) ?_
    exact cj_reti ch X hr V (by refine ⟨?_, ?_⟩; · { simp only [f_leastM, ij_1] }; · { simp only [c_leastM, ij_1] }) dM_least_12
end
section
-- new T[n][m]: rows of claim/NAMES.whole.lean.txt (a starting text), its va_AOA written out
/-! ===== BEGIN new T[n][m]: the outer array a place, the inner ones among the pooled ===== -/
/-- f, but v at every address of l -/
def vr_up {α : Type} (f : Nat → α) (l : List Nat) (v : α) : Nat → α := fun a => if a ∈ l then v else f a
theorem vr_up_in {α : Type} {f : Nat → α} {l : List Nat} {v : α} {a : Nat} (h : a ∈ l) : vr_up f l v a = v := if_pos h
theorem vr_up_ne {α : Type} {f : Nat → α} {l : List Nat} {v : α} {a : Nat} (h : a ∉ l) : vr_up f l v a = f a := if_neg h
theorem vr_rows {L l : List Nat} {f : Nat → va_E} {e : va_E} (h : ∀ a, a ∈ l → a ∉ L) : va_pl L f ++ l.map (fun a => (a, e)) = va_pl (L ++ l) (vr_up f l e) := by
  unfold va_pl
  rw [List.map_append]
  congr 1
  · apply List.map_congr_left
    intro a ha
    rw [vr_up_ne (fun q => h a q ha)]
  · apply List.map_congr_left
    intro a ha
    rw [vr_up_in ha]
theorem vr_lay {X rows : va_W} {x : Nat × va_E} {pl : va_W} {D : va_G} {cl : List vw_C} {H : Heap} (hP : va_P D cl (((X ++ pl) ++ [x]) ++ rows) H) : va_P D cl ((X ++ [x]) ++ (pl ++ rows)) H := by
  rw [List.append_assoc (X ++ pl)] at hP
  have h := va_P.swap hP
  rw [← List.append_assoc X] at h
  have h2 := va_P.swap h
  rw [List.append_assoc (X ++ [x])] at h2
  exact h2
theorem vr_layD {X rows : va_W} {x : Nat × va_E} {pl : va_W} {A : Nat → Prop} (hD : va_D A (((X ++ pl) ++ [x]) ++ rows)) : va_D A ((X ++ [x]) ++ (pl ++ rows)) := by
  rw [List.append_assoc (X ++ pl)] at hD
  have h := va_D.swap hD
  rw [← List.append_assoc X] at h
  have h2 := va_D.swap h
  rw [List.append_assoc (X ++ [x])] at h2
  exact h2
theorem vr_outer (c : ClassId) (N h0 : Nat) : ∀ i : Nat, Jvm.Free.Multi.outerC c N h0 i = arrV c N (fun j => va_rf (if j < i then some (h0 + 1 + j) else none))
  | 0 => by
    show ({ cls := c, slots := Array.replicate N .null, vm := .none } : Cell) = _
    rw [arrV_new]
    refine congrArg (arrV c N) (funext fun j => ?_)
    simp [va_rf]
  | i + 1 => by
    show (Jvm.Free.Multi.outerC c N h0 i).setSlot i (.ref (h0 + 1 + i)) = _
    rw [vr_outer c N h0 i, arrV_store]
    refine congrArg (arrV c N) (funext fun j => ?_)
    by_cases e : j = i
    · subst e
      simp [updV, va_rf]
    · by_cases h : j < i
      · simp [updV, e, h, Nat.lt_succ_of_lt h]
      · simp [updV, e, h, show ¬ j < i + 1 by omega]
section VGM
variable {p : Program} {l : Launch} {e : Env} {R : Room} {s : State} {m : MethodId} {args : Array Value} {below : List Frame} {meth : Method} {c : Code} {H : Heap} {locs : List Loc} {cells slots : Nat} {Q : State → Prop}
variable {cc : ByteArray} {pc : Nat} {ls : Array Slot} {rest : List Value} {D : va_G} {cl : List vw_C} {A : Nat → Prop} {a : Nat} {tys : List (ClassId × FieldType)} {ws : va_W} {H0 : Heap}
theorem va_mna {X : va_W} {L : List Nat} {f : Nat → va_E} {cc : ByteArray} (hexec : p.tables.exec = Jvm.exec) (hb : c.code = cc) {own : String} {index : Nat} {ty : FieldType} {cy : ClassId} (hown : s.vm.findClass own = some m.cls) (hclink : (Cond.classLink own index ("[" ++ (FieldType.array ty).toString)).before args s = true) (hover : (Cond.arrayOver (.array ty)).before args s = true) (harr : (Cond.arrayClass ty).before args s = true) (hcy : s.vm.findClass (FieldType.array ty).toString = some cy)
    (hK : va_K D cl tys s) (hP : va_P D cl (X ++ va_pl L f) H) (hD : va_D A (X ++ va_pl L f)) (hS : va_S A H0 H locs) (hA : ∀ q, H0.size ≤ q → A q) {n k : Int32} {N' K' : Nat} {z : vp_A} (hn : ¬ n < 0) (hk : ¬ k < 0) (hN : n.toNatClampNeg = N') (hM : k.toNatClampNeg = K')
    (hb1 : N' * 4 ≤ 536870912) (hb2 : K' * componentBytes ty ≤ 536870912) (hb3 : K' ≤ 536870912) (hdf : fits ty (defaultValue ty) = true) (hdd : (defaultValue ty).isDefault = true) (hcells : cells + (1 + N') ≤ R.cells) (hslots : slots + (N' + N' * K') ≤ R.slots) (hz : ∀ c : ClassId, Jvm.Free.Multi.innerC c K' (defaultValue ty) = vp_cell c z) (hdg : decode cc pc = .ok (.multianewarray index 2, 4))
    (kk : ∀ (q : Nat) (r : Nat → Nat) (cA : ClassId) (H1 : Heap), (∀ i j : Nat, i < N' → j < N' → r i = r j → i = j) → (∀ i : Nat, i < N' → r i ∉ L) → va_K D cl (tys ++ [(cA, .array ty)]) s →
      va_P D cl ((X ++ [(q, .inl (cA, N', .inr (.inr (.inr (.inr (fun i => if i < N' then some (r i) else none))))))]) ++ va_pl (L ++ (List.range N').map r) (vr_up f ((List.range N').map r) (.inl (cy, z)))) H1 → va_D A ((X ++ [(q, .inl (cA, N', .inr (.inr (.inr (.inr (fun i => if i < N' then some (r i) else none))))))]) ++ va_pl (L ++ (List.range N').map r) (vr_up f ((List.range N').map r) (.inl (cy, z)))) → va_S A H0 H1 locs →
      W p l e R s m args below meth c H1 locs (cells + 1 + N') (slots + N' + N' * K') Q (F0 m (pc + 4) ls (.ref q :: rest))) : W p l e R s m args below meth c H locs cells slots Q (F0 m pc ls (.int k :: .int n :: rest)) := by
  subst hN
  subst hM
  intro T hT Xs
  obtain ⟨vm₁, cA, comp, -, fA, fC, hO, -, X', step⟩ := Xs.multianewarray2F hexec hown hclink hover harr (g := F0 m pc ls (.int k :: .int n :: rest)) rfl (by rw [hb]; exact hdg) rfl hn hk hb1 hb2 hb3 hdf hdd hcells hslots
  have ec : some cy = some comp := hcy.symm.trans fC
  cases ec
  generalize hF : Jvm.Free.Multi.fill (T.setVm vm₁) cA cy n.toNatClampNeg k.toNatClampNeg (defaultValue ty) n.toNatClampNeg = F at X' step
  have hTh : (T.setVm vm₁).heap = H := hT
  obtain ⟨f1, f2, -, -⟩ := Jvm.Free.Multi.fill_facts (T.setVm vm₁) cA cy n.toNatClampNeg k.toNatClampNeg (defaultValue ty) n.toNatClampNeg
  rw [hF, hTh] at f1 f2
  have hold : ∀ x : Nat, x < H.size → F.heap[x]? = H[x]? := fun x hx => by
    have := Jvm.Free.Multi.fill_old (T.setVm vm₁) cA cy n.toNatClampNeg k.toNatClampNeg (defaultValue ty) (a := x) (by rw [hTh]; exact hx) n.toNatClampNeg
    rw [hF, hTh] at this
    exact this
  have hrow : ∀ j : Nat, j < n.toNatClampNeg → F.heap[H.size + 1 + j]? = some (vp_cell cy z) := fun j hj => by
    have := Jvm.Free.Multi.fill_inner (T.setVm vm₁) cA cy n.toNatClampNeg k.toNatClampNeg (defaultValue ty) n.toNatClampNeg j hj
    rw [hF, hTh, hz] at this
    exact this
  have hout : Jvm.Free.Multi.outerC cA n.toNatClampNeg H.size n.toNatClampNeg = vp_cell cA (n.toNatClampNeg, .inr (.inr (.inr (.inr (fun i => if i < n.toNatClampNeg then some (H.size + 1 + i) else none))))) := by
    rw [vp_cell_q]
    exact vr_outer cA n.toNatClampNeg H.size n.toNatClampNeg
  rw [hout] at f2
  have hlt : ∀ a, a ∈ L → a < H.size := fun a ha => by
    obtain ⟨k9, hk9⟩ := va_pl_get (X := X) (f := f) ha
    exact (hP k9 _ hk9).lt
  have hnl : ∀ i : Nat, i < n.toNatClampNeg → H.size + 1 + i ∉ L := fun i _ h => by
    have := hlt _ h
    omega
  have hnm : ∀ a, a ∈ (List.range n.toNatClampNeg).map (fun i => H.size + 1 + i) → a ∉ L := fun a ha h => by
    obtain ⟨i, -, rfl⟩ := List.mem_map.mp ha
    have := hlt _ h
    omega
  have hP0 : va_P D cl (X ++ va_pl L f) F.heap := hP.kept (fun k9 x hx => hold x.1 ((hP k9 x hx).lt))
  have hP1 : va_P D cl ((X ++ va_pl L f) ++ [(H.size, .inl (cA, n.toNatClampNeg, .inr (.inr (.inr (.inr (fun i => if i < n.toNatClampNeg then some (H.size + 1 + i) else none))))))]) F.heap := hP0.app (fun k9 x hx => by
    have h0 : k9 < 1 := (List.getElem?_eq_some_iff.mp hx).1
    rw [show k9 = 0 by omega] at hx
    cases hx
    exact f2)
  have hP2 : va_P D cl (((X ++ va_pl L f) ++ [(H.size, .inl (cA, n.toNatClampNeg, .inr (.inr (.inr (.inr (fun i => if i < n.toNatClampNeg then some (H.size + 1 + i) else none))))))]) ++ ((List.range n.toNatClampNeg).map (fun i => H.size + 1 + i)).map (fun a => (a, .inl (cy, z)))) F.heap := hP1.app (fun k9 x hx => by
    obtain ⟨a, ha, rfl⟩ := List.mem_map.mp (List.mem_of_getElem? hx)
    obtain ⟨i, hi, rfl⟩ := List.mem_map.mp ha
    exact hrow i (List.mem_range.mp hi))
  have hD2 : va_D A (((X ++ va_pl L f) ++ [(H.size, .inl (cA, n.toNatClampNeg, .inr (.inr (.inr (.inr (fun i => if i < n.toNatClampNeg then some (H.size + 1 + i) else none))))))]) ++ ((List.range n.toNatClampNeg).map (fun i => H.size + 1 + i)).map (fun a => (a, .inl (cy, z)))) := by
    have hD1 := hD.push (e := .inl (cA, n.toNatClampNeg, .inr (.inr (.inr (.inr (fun i => if i < n.toNatClampNeg then some (H.size + 1 + i) else none)))))) hP rfl (hA _ hS.1)
    generalize hW1 : (X ++ va_pl L f) ++ [(H.size, .inl (cA, n.toNatClampNeg, .inr (.inr (.inr (.inr (fun i => if i < n.toNatClampNeg then some (H.size + 1 + i) else none))))))] = W1 at hD1 hP1 ⊢
    have hle : ∀ (k9 : Nat) (x : Nat × va_E), W1[k9]? = some x → x.1 ≤ H.size := fun k9 x hx => by
      rw [← hW1] at hx
      by_cases hl : k9 < (X ++ va_pl L f).length
      · rw [List.getElem?_append_left hl] at hx
        exact Nat.le_of_lt ((hP k9 x hx).lt)
      · rw [List.getElem?_append_right (by omega)] at hx
        have h0 : k9 - (X ++ va_pl L f).length < 1 := (List.getElem?_eq_some_iff.mp hx).1
        rw [show k9 - (X ++ va_pl L f).length = 0 by omega] at hx
        cases hx
        exact Nat.le_refl _
    have hr : ∀ (k9 : Nat) (x : Nat × va_E), (((List.range n.toNatClampNeg).map (fun i => H.size + 1 + i)).map (fun a => ((a, .inl (cy, z)) : Nat × va_E)))[k9]? = some x → x.1 = H.size + 1 + k9 := fun k9 x hx => by
      rw [List.getElem?_map, List.getElem?_map] at hx
      by_cases h9 : k9 < n.toNatClampNeg
      · rw [List.getElem?_range h9] at hx
        cases hx
        rfl
      · have hn0 : (List.range n.toNatClampNeg)[k9]? = none := List.getElem?_eq_none (by rw [List.length_range]; omega)
        rw [hn0] at hx
        cases hx
    refine ⟨fun i j x y hi hj hxy => ?_, fun k9 x hx => ?_⟩
    · by_cases h1 : i < W1.length <;> by_cases h2 : j < W1.length
      · rw [List.getElem?_append_left h1] at hi
        rw [List.getElem?_append_left h2] at hj
        exact hD1.1 i j x y hi hj hxy
      · rw [List.getElem?_append_left h1] at hi
        rw [List.getElem?_append_right (by omega)] at hj
        have := hle _ _ hi
        have := hr _ _ hj
        omega
      · rw [List.getElem?_append_right (by omega)] at hi
        rw [List.getElem?_append_left h2] at hj
        have := hle _ _ hj
        have := hr _ _ hi
        omega
      · rw [List.getElem?_append_right (by omega)] at hi hj
        have := hr _ _ hi
        have := hr _ _ hj
        omega
    · by_cases h1 : k9 < W1.length
      · rw [List.getElem?_append_left h1] at hx
        exact hD1.2 k9 x hx
      · rw [List.getElem?_append_right (by omega)] at hx
        have := hr _ _ hx
        exact hA _ (by have := hS.1; omega)
  have hAr : ArrOfT s cA (.array ty) := fun N9 z9 => by
    obtain ⟨-, k9, hk9, cm9, hkk9⟩ := (hO 0 0 0).1
    exact ⟨(fun q hq => by cases hq), k9, hk9, cm9, hkk9⟩
  have hK2 : va_K D cl (tys ++ [(cA, .array ty)]) s := ⟨hK.1, fun k9 x hx => by
    by_cases hl : k9 < tys.length
    · rw [List.getElem?_append_left hl] at hx
      exact hK.2 k9 x hx
    · rw [List.getElem?_append_right (by omega)] at hx
      have h0 : k9 - tys.length < 1 := (List.getElem?_eq_some_iff.mp hx).1
      rw [show k9 - tys.length = 0 by omega] at hx
      cases hx
      exact ⟨hAr, fA⟩⟩
  obtain ⟨t, a1, b1⟩ := kk H.size (fun i => H.size + 1 + i) cA F.heap (fun i j _ _ h => by have h9 : H.size + 1 + i = H.size + 1 + j := h; omega) hnl hK2 (by rw [← vr_rows hnm]; exact vr_lay hP2) (by rw [← vr_rows hnm]; exact vr_layD hD2) ⟨by rw [f1]; have := hS.1; omega, fun x h1 h2 => (hold x (Nat.lt_of_lt_of_le h1 hS.1)).trans (hS.2.1 x h1 h2), hS.2.2⟩ F rfl X'
  refine ⟨t, step t ?_, b1⟩
  have e : T.heap.size = H.size := by rw [hT]
  rw [e]
  exact a1
end VGM

-- MAKING: arrays, grids
section CJ6
variable {p : Program} {l : Launch} {e : Env} {R : Room} {s : State} {m : MethodId} {args : Array Value} {below : List Frame} {meth : Method} {c : Code} {H : Heap} {locs : List Loc} {cells slots : Nat} {Q : State → Prop}
variable {cc : ByteArray} {pc nL : Nat} {own : String} {ls : Array Slot} {rest : List Value} {D : va_G} {kd : Nat → ClassId} {A : Nat → Prop} {H0 : Heap} {ws : va_W} {index : Nat}
theorem cj_lastK {tys : List (ClassId × FieldType)} {cA : ClassId} {ty : FieldType} (h : va_K D cj_cl (tys ++ [(cA, ty)]) s) : ArrOfT s cA ty ∧ va_RA s cA ty := h.2 tys.length (cA, ty) (by rw [List.getElem?_append_right (Nat.le_refl _), Nat.sub_self]; rfl)
theorem cj_newa (X : cj_X p s m args c meth cc nL own D kd) (V : cj_V D A H0 ws H locs) {atype : ArrayType} {ty : FieldType} (hty : newarray.typeOf atype = ty) (t0 : Nat) {c0 : ClassId} (ht : (cj_tys kd)[t0]? = some (c0, ty)) (hra : ∀ cA, va_RA s cA ty → s.vm.findClass ("[" ++ ty.toString) = some cA) (hac : Cond.arrayClass ty ∈ cw_T)
    {N' : Nat} {a0 : vp_A} (ha : ∀ cA : ClassId, vp_cell cA a0 = arrV cA N' (fun _ => defaultValue ty)) (hN : N' < 2 ^ 31) (hbytes : N' * componentBytes ty ≤ 536870912) (hcells : cells + 1 ≤ R.cells) (hslots : slots + N' ≤ R.slots) (hdg : decode cc pc = .ok (.newarray atype, 2))
    (kk : ∀ (q : Nat) (H1 : Heap), cj_V D A H0 (ws ++ [(q, .inl (c0, a0))]) H1 locs → W p l e R s m args below meth c H1 locs (cells + 1) (slots + N') Q (F0 m (pc + 2) ls (.ref q :: rest))) : W p l e R s m args below meth c H locs cells slots Q (F0 m pc ls (.int (nI N') :: rest)) := by
  obtain ⟨⟨hx, hb, -, hown, hts⟩, hK, -⟩ := X
  obtain ⟨hP, hD, hS, hA⟩ := V
  refine va_newa hx hb (by rw [hty]; exact hts _ hac) hty hK hP hD hS hA ha (nI_pos hN) (nI_clamp hN) hbytes hcells hslots hdg (fun q cA H1 hK1 hP1 hD1 hS1 => ?_)
  have e1 := hra cA (cj_lastK hK1).2
  have e2 := hra c0 (hK.2 t0 _ ht).2
  have e : cA = c0 := Option.some.inj (e1.symm.trans e2)
  subst e
  exact kk q H1 ⟨hP1, hD1, hS1, hA⟩
theorem cj_mna (X : cj_X p s m args c meth cc nL own D kd) (V : cj_V D A H0 ws H locs) {ty : FieldType} (t0 t1 : Nat) {cy c1 : ClassId} (ht : (cj_tys kd)[t0]? = some (cy, ty)) (ht1 : (cj_tys kd)[t1]? = some (c1, .array ty)) (hra : ∀ cA, va_RA s cA ty → s.vm.findClass (FieldType.array ty).toString = some cA) (hcl : Cond.classLink own index ("[" ++ (FieldType.array ty).toString) ∈ cw_T) (hover : (Cond.arrayOver (.array ty)).before args s = true) (hac : Cond.arrayClass ty ∈ cw_T)
    {N' K' : Nat} {z : vp_A} (hN : N' < 2 ^ 31) (hM : K' < 2 ^ 31) (hb1 : N' * 4 ≤ 536870912) (hb2 : K' * componentBytes ty ≤ 536870912) (hb3 : K' ≤ 536870912) (hdf : fits ty (defaultValue ty) = true) (hdd : (defaultValue ty).isDefault = true) (hcells : cells + (1 + N') ≤ R.cells) (hslots : slots + (N' + N' * K') ≤ R.slots) (hz : ∀ c : ClassId, Jvm.Free.Multi.innerC c K' (defaultValue ty) = vp_cell c z) (hdg : decode cc pc = .ok (.multianewarray index 2, 4))
    (kk : ∀ (q : Nat) (r : Nat → Nat) (H1 : Heap), cj_V D A H0 ((ws ++ [(q, .inl (c1, N', .inr (.inr (.inr (.inr (fun i => if i < N' then some (r i) else none))))))]) ++ cj_seg N' r (fun _ => .inl (cy, z))) H1 locs → W p l e R s m args below meth c H1 locs (cells + 1 + N') (slots + N' + N' * K') Q (F0 m (pc + 4) ls (.ref q :: rest))) : W p l e R s m args below meth c H locs cells slots Q (F0 m pc ls (.int (nI K') :: .int (nI N') :: rest)) := by
  obtain ⟨⟨hx, hb, -, hown, hts⟩, hK, -⟩ := X
  obtain ⟨hP, hD, hS, hA⟩ := V
  have e0 : ws = ws ++ va_pl [] (fun _ => .inl (cy, z)) := (List.append_nil ws).symm
  rw [e0] at hP hD
  refine va_mna hx hb hown (hts _ hcl) hover (hts _ hac) (hra cy (hK.2 t0 _ ht).2) hK hP hD hS hA (nI_pos hN) (nI_pos hM) (nI_clamp hN) (nI_clamp hM) hb1 hb2 hb3 hdf hdd hcells hslots hz hdg (fun q r cA H1 hr hrL hK1 hP1 hD1 hS1 => ?_)
  have e1 : s.vm.findClass ("[" ++ (FieldType.array ty).toString) = some cA := (cj_lastK hK1).2
  have e2 : s.vm.findClass ("[" ++ (FieldType.array ty).toString) = some c1 := (hK.2 t1 _ ht1).2
  have e : cA = c1 := Option.some.inj (e1.symm.trans e2)
  subst e
  have hs : va_pl ([] ++ (List.range N').map r) (vr_up (fun _ => .inl (cy, z)) ((List.range N').map r) (.inl (cy, z))) = cj_seg N' r (fun _ => .inl (cy, z)) := by
    unfold va_pl cj_seg
    rw [List.nil_append, List.map_map]
    apply List.map_congr_left
    intro i hi
    show (r i, vr_up _ _ _ (r i)) = _
    rw [vr_up_in (List.mem_map_of_mem hi)]
  rw [hs] at hP1 hD1
  exact kk q r H1 ⟨hP1, hD1, hS1, hA⟩
end CJ6
theorem cj_ao {t : FieldType} {u U : State} (hvm : u.vm.Alike U.vm) {A1 A2 : Array Value} (h : (Cond.arrayOver (.array t)).before A1 u = true) : (Cond.arrayOver (.array t)).before A2 U = true := Jvm.Stand.arrayOver_alikeB hvm h
end
section
-- CONSTRUCTORS
def cj_Mc {S : Type} (l : Launch) (y : MethodName) (cc : ByteArray) (mx : Nat) (rm : Room) (mc ms : Nat) (D : va_G) (kd : Nat → ClassId) (h0 : Nat) (w0 : va_W) (post : S → Prop) (w : S → va_W) : Prop :=
  ∀ sz : Nat, Met l y (.code y cc mx none :: cw_T) rm (va_Pc [.ref h0] (fun U => cj_pre D kd w0 sz U ∧ (Cond.arrayOver (.array .int)).before #[] U = true ∧ (Cond.arrayOver (.array .long)).before #[] U = true)) (va_Qv post (cj_post D kd (va_A w0 sz) w) (va_A w0 sz)) mc ms (va_A w0 sz)
section CJ7
variable {p : Program} {l : Launch} {e : Env} {R : Room} {s : State} {m : MethodId} {args : Array Value} {below : List Frame} {meth : Method} {c : Code} {H : Heap} {locs : List Loc} {cells slots : Nat} {Q : State → Prop}
variable {cc : ByteArray} {pc nL : Nat} {own : String} {ls : Array Slot} {rest st0 : List Value} {D : va_G} {kd : Nat → ClassId} {A : Nat → Prop} {H0 : Heap} {w0 wr ws : va_W}
variable {y : MethodName} {bytes : ByteArray} {mx mc ms h0 index : Nat} {rm : Room} {S : Type} {w : S → va_W}
theorem cj_ofc {post : S → Prop} (hy : plainName y.cls = true) (hav : 1 ≤ mx) (hni : y.name = "<init>")
    (body : ∀ (p : Program) (e : Env) (s : State) (m : MethodId) (below : List Frame) (meth : Method) (c : Code) (A : Nat → Prop) (ls : Array Slot), cj_X p s m #[.ref h0] c meth cc mx y.cls D kd → meth.sig.returnType = none → meth.name = "<init>" → (Cond.arrayOver (.array .int)).before #[.ref h0] s = true → (Cond.arrayOver (.array .long)).before #[.ref h0] s = true → cj_V D A s.heap w0 s.heap [] → lv_has ls mx [(0, .ref h0)] →
      W p l e rm s m #[.ref h0] below meth c s.heap [] 0 0 (MQ below (va_Qv post (cj_post D kd A w) A) #[.ref h0] s mc ms A) (F0 m 0 ls [])) : cj_Mc l y cc mx rm mc ms D kd h0 w0 post w := by
  intro sz
  refine Met.ofW (cc := cc) (maxL := mx) (ret := none) hy rfl ?_
  intro p e s m args below meth c s₁ B hml hv
  obtain ⟨rfl, ⟨hsz, hP, hK, hD0⟩, ha1, ha2⟩ := hv
  subst hsz
  have hts := atoms_spec (ws := .code y cc mx none :: cw_T) B.pre
  have hav2 : (lg_sl [Value.ref h0]).length ≤ mx := hav
  rw [lg_entry_eq]
  exact body p e s m below meth c _ _ ⟨⟨B.exec, B.bytes, hml, findClass_of_methodNamed B.named, fun w h => hts w (List.mem_cons_of_mem _ h)⟩, hK, B.notSynchronized⟩ B.returns ((name_of_methodNamed B.named B.method).1.trans hni) (cj_ao (Vm.Alike.refl _) ha1) (cj_ao (Vm.Alike.refl _) ha2) ⟨hP, hD0.self, va_S.rf, fun q h => Or.inr h⟩ (lv_entry [.ref h0] hav2)
theorem cj_retc {post : S → Prop} (u : S) (X : cj_X p s m args c meth cc nL own D kd) (hr : meth.sig.returnType = none) (V : cj_V D A s.heap (w u) H locs) (hp : post u) (hdg : decode cc pc = .ok (.return_, 1)) : W p l e R s m args below meth c H locs mc ms (MQ below (va_Qv post (cj_post D kd A w) A) args s mc ms A) (F0 m pc ls []) := by
  obtain ⟨⟨hx, hb, -, -, -⟩, hK, hlocks⟩ := X
  exact W.vret hx hb hr (fun t ht hW => ⟨⟨u, rfl, hp, by rw [ht]; exact V.1, va_K.moved hW.alike hK, V.2.1⟩, V.2.2.1.F ht⟩) V.2.2.1.2.2 hdg
theorem cj_putF {a : Nat} (X : cj_X p s m args c meth cc nL own D kd) (V : cj_V D A H0 ws H locs) (q0 ci : Nat) {fs : List Value} {C ref : String} {T : u_T} {N : Nat} (he : ws[q0]? = some (a, .inr (ci, fs))) (hc : cj_cl[ci]? = some (C, T, N)) (hin : ∀ w ∈ u_ws C T N, w ∈ cw_T) (ty0 : Nat → FieldType) (hty : ∀ k, k < N → parseFieldDescriptor (T k).2.2.1 = some (ty0 k)) (hnm : ∀ a, a < N → ∀ b, b < N → a ≠ b → (T a).2.1 ≠ (T b).2.1) (k : Nat) (hk : k < N) (hlink : Cond.fieldLink own index ref (T k).2.1 (T k).2.2.1 ∈ cw_T) (href : ref = (T k).1) (hfin : (T k).2.2.2 = true) (hin2 : meth.name = "<init>") (hdecl : (T k).1 = own) {x : Nat} (hn : narrow (ty0 k) (.ref x) = .ref x) (hf : fits (ty0 k) (.ref x) = true) (hl : k < fs.length) (hdg : decode cc pc = .ok (.putfield index, 3)) (kk : ∀ (H1 : Heap) (locs1 : List Loc), cj_V D A H0 (ws.set q0 (a, .inr (ci, fs.set k (.ref x)))) H1 locs1 → W p l e R s m args below meth c H1 locs1 cells slots Q (F0 m (pc + 3) ls rest)) : W p l e R s m args below meth c H locs cells slots Q (F0 m pc ls (.ref x :: .ref a :: rest)) := by
  subst href
  obtain ⟨⟨hx, hb, -, hown, hts⟩, hK, -⟩ := X
  obtain ⟨hP, hD, hS, hA⟩ := V
  exact va_putF (ty := ty0 k) hx hb hts hin ty0 hty hnm hown hK hP hD hS q0 he hc k hk (hts _ hlink) (fun _ h => h) hfin hin2 hdecl (hty k hk) hn hf hl hdg (fun H1 locs1 h1 h2 h3 => kk H1 locs1 ⟨h1, h2, h3, hA⟩)
theorem cj_obj (X : cj_X p s m args c meth cc nL own D kd) {a : Nat} (hl : Cond.methodLink own index ⟨"java/lang/Object", "<init>", "()V"⟩ ∈ cw_T) (hsize : ls.size = nL) (hframes : 1 ≤ R.frames) (hlocals : (rest.map fun v => v.category).sum + 12 ≤ R.locals) (hdg : decode cc pc = .ok (.invokespecial index, 3)) (kk : W p l e R s m args below meth c H locs cells slots Q (F0 m (pc + 3) ls rest)) : W p l e R s m args below meth c H locs cells slots Q (F0 m pc ls (.ref a :: rest)) := by
  obtain ⟨⟨hx, hb, hml, hown, hts⟩, hK, -⟩ := X
  exact W.objInit hx hb hown (hts _ hl) (hts _ im_O_init) (hts _ cd_O_init) rfl (hsize.trans hml.symm) rfl hdg hframes (by show 2 * 0 + _ + 12 ≤ _; omega) kk
end CJ7
set_option maxRecDepth 100000 in
set_option maxHeartbeats 4000000 in
theorem c_D_init (l : Launch) (D : va_G) (kd : Nat → ClassId) (h0 : Nat) : cj_Mc (S := Nat × Nat × Nat) l yD_init cD_init 1 ({ frames := 1, cells := 3, slots := 43, locals := 20 }) 3 43 D kd h0 [(h0, .inr (0, [.int 0, .null, .null, .null]))] (fun _ => True) (fun u => [(h0, .inr (0, [.int (nI 0), .ref u.1, .ref u.2.1, .ref u.2.2])), (u.1, .inl (kd 2, 14, .inr (.inl (fun _ => 0)))), (u.2.1, .inl (kd 2, 14, .inr (.inl (fun _ => 0)))), (u.2.2, .inl (kd 2, 15, .inr (.inl (fun _ => 0))))]) := by
  refine cj_ofc (by decide) (by decide) rfl ?_
  intro p e s m below meth c A ls X hr hin ha1 ha2 V hl
  obtain ⟨⟨hx, hb, hml, hown, hts⟩, hK, hlk⟩ := id X
  refine lv_aload_n hx hb dD_init_0 rfl (lv_at hl 0 rfl) ?_
  refine cj_obj X ml_D_3 hl.1 (by decide) (by decide) dD_init_1 ?_
  refine lv_aload_n hx hb dD_init_4 rfl (lv_at hl 0 rfl) ?_
  refine lv_iconst (v := nI 0) hx hb dD_init_5 (by decide) ?_
  refine cj_putf X V 0 0 rfl rfl wsD tyD tyD_ok nmD 0 (by decide) fl_D_9 rfl rfl rfl (Nat.le_of_ble_eq_true rfl) dD_init_6 (fun H locs V => ?_)
  have V : cj_V D A s.heap [(h0, .inr (0, [.int (nI 0), .null, .null, .null]))] H locs := V
  refine lv_aload_n hx hb dD_init_9 rfl (lv_at hl 0 rfl) ?_
  refine lv_bipush (v := nI 14) hx hb dD_init_10 (by decide) ?_
  refine cj_newa (atype := .long) (a0 := (14, .inr (.inl (fun _ => 0)))) X V rfl 2 rfl (fun _ h => h) ac_long (fun _ => rfl) (by decide) (by decide) (Nat.le_of_ble_eq_true rfl) (Nat.le_of_ble_eq_true rfl) dD_init_12 (fun q1 H V => ?_)
  have V : cj_V D A s.heap [(h0, .inr (0, [.int (nI 0), .null, .null, .null])), (q1, .inl (kd 2, 14, .inr (.inl (fun _ => 0))))] H _ := V
  refine cj_putF X V 0 0 rfl rfl wsD tyD tyD_ok nmD 1 (by decide) fl_D_15 rfl rfl hin rfl rfl rfl (Nat.le_of_ble_eq_true rfl) dD_init_14 (fun H locs V => ?_)
  have V : cj_V D A s.heap [(h0, .inr (0, [.int (nI 0), .ref q1, .null, .null])), (q1, .inl (kd 2, 14, .inr (.inl (fun _ => 0))))] H locs := V
  refine lv_aload_n hx hb dD_init_17 rfl (lv_at hl 0 rfl) ?_
  refine lv_bipush (v := nI 14) hx hb dD_init_18 (by decide) ?_
  refine cj_newa (atype := .long) (a0 := (14, .inr (.inl (fun _ => 0)))) X V rfl 2 rfl (fun _ h => h) ac_long (fun _ => rfl) (by decide) (by decide) (Nat.le_of_ble_eq_true rfl) (Nat.le_of_ble_eq_true rfl) dD_init_20 (fun q2 H V => ?_)
  have V : cj_V D A s.heap [(h0, .inr (0, [.int (nI 0), .ref q1, .null, .null])), (q1, .inl (kd 2, 14, .inr (.inl (fun _ => 0)))), (q2, .inl (kd 2, 14, .inr (.inl (fun _ => 0))))] H _ := V
  refine cj_putF X V 0 0 rfl rfl wsD tyD tyD_ok nmD 2 (by decide) fl_D_19 rfl rfl hin rfl rfl rfl (Nat.le_of_ble_eq_true rfl) dD_init_22 (fun H locs V => ?_)
  have V : cj_V D A s.heap [(h0, .inr (0, [.int (nI 0), .ref q1, .ref q2, .null])), (q1, .inl (kd 2, 14, .inr (.inl (fun _ => 0)))), (q2, .inl (kd 2, 14, .inr (.inl (fun _ => 0))))] H locs := V
  refine lv_aload_n hx hb dD_init_25 rfl (lv_at hl 0 rfl) ?_
  refine lv_bipush (v := nI 15) hx hb dD_init_26 (by decide) ?_
  refine cj_newa (atype := .long) (a0 := (15, .inr (.inl (fun _ => 0)))) X V rfl 2 rfl (fun _ h => h) ac_long (fun _ => rfl) (by decide) (by decide) (Nat.le_of_ble_eq_true rfl) (Nat.le_of_ble_eq_true rfl) dD_init_28 (fun q3 H V => ?_)
  have V : cj_V D A s.heap [(h0, .inr (0, [.int (nI 0), .ref q1, .ref q2, .null])), (q1, .inl (kd 2, 14, .inr (.inl (fun _ => 0)))), (q2, .inl (kd 2, 14, .inr (.inl (fun _ => 0)))), (q3, .inl (kd 2, 15, .inr (.inl (fun _ => 0))))] H _ := V
  refine cj_putF X V 0 0 rfl rfl wsD tyD tyD_ok nmD 3 (by decide) fl_D_22 rfl rfl hin rfl rfl rfl (Nat.le_of_ble_eq_true rfl) dD_init_30 (fun H locs V => ?_)
  have V : cj_V D A s.heap [(h0, .inr (0, [.int (nI 0), .ref q1, .ref q2, .ref q3])), (q1, .inl (kd 2, 14, .inr (.inl (fun _ => 0)))), (q2, .inl (kd 2, 14, .inr (.inl (fun _ => 0)))), (q3, .inl (kd 2, 15, .inr (.inl (fun _ => 0))))] H locs := V
  exact cj_retc (q1, q2, q3) X hr V trivial dD_init_33
/-- an address out of a list -/
def cj_ad (l : List Nat) : Nat → Nat := fun k => l.getD k 0
set_option maxRecDepth 100000 in
set_option maxHeartbeats 4000000 in
theorem c_M_init (l : Launch) (D : va_G) (kd : Nat → ClassId) (h0 : Nat) : cj_Mc (S := List Nat) l yM_init cM_init 1 ({ frames := 1, cells := 10, slots := 2739, locals := 20 }) 10 2739 D kd h0 [(h0, .inr (2, [.int 0, .int 0, .int 0, .null, .null, .null, .null, .null, .null, .null, .null, .null, .null]))] (fun u => cj_ad u 0 = h0) (fun u => wM kd (cj_ad u) 0 0 0 (fun _ => 0) (fun _ => nI 0) (fun _ => 0) (fun _ => false) (fun _ => false) (fun _ => 0) (fun _ => 0) (fun _ => 0) (fun _ => 0) (fun _ => nI 0)) := by
  refine cj_ofc (by decide) (by decide) rfl ?_
  intro p e s m below meth c A ls X hr hin ha1 ha2 V hl
  obtain ⟨⟨hx, hb, hml, hown, hts⟩, hK, hlk⟩ := id X
  refine lv_aload_n hx hb dM_init_0 rfl (lv_at hl 0 rfl) ?_
  refine cj_obj X ml_M_1 hl.1 (by decide) (by decide) dM_init_1 ?_
  refine lv_aload_n hx hb dM_init_4 rfl (lv_at hl 0 rfl) ?_
  refine lv_bipush (v := nI 8) hx hb dM_init_5 (by decide) ?_
  refine cj_newa (atype := .int) (a0 := (8, .inl (fun _ => nI 0))) X V rfl 0 rfl (fun _ h => h) ac_int (fun _ => rfl) (by decide) (by decide) (Nat.le_of_ble_eq_true rfl) (Nat.le_of_ble_eq_true rfl) dM_init_7 (fun q1 H V => ?_)
  have V : cj_V D A s.heap [(h0, .inr (2, [.int 0, .int 0, .int 0, .null, .null, .null, .null, .null, .null, .null, .null, .null, .null])), (q1, .inl (kd 0, 8, .inl (fun _ => nI 0)))] H _ := V
  refine cj_putF X V 0 2 rfl rfl wsM tyM tyM_ok nmM 3 (by decide) fl_M_7 rfl rfl hin rfl rfl rfl (Nat.le_of_ble_eq_true rfl) dM_init_9 (fun H locs V => ?_)
  have V : cj_V D A s.heap [(h0, .inr (2, [.int 0, .int 0, .int 0, .ref q1, .null, .null, .null, .null, .null, .null, .null, .null, .null])), (q1, .inl (kd 0, 8, .inl (fun _ => nI 0)))] H locs := V
  refine lv_aload_n hx hb dM_init_12 rfl (lv_at hl 0 rfl) ?_
  refine lv_sipush (v := nI 320) hx hb dM_init_13 (by decide) ?_
  refine cj_newa (atype := .int) (a0 := (320, .inl (fun _ => nI 0))) X V rfl 0 rfl (fun _ h => h) ac_int (fun _ => rfl) (by decide) (by decide) (Nat.le_of_ble_eq_true rfl) (Nat.le_of_ble_eq_true rfl) dM_init_16 (fun q2 H V => ?_)
  have V : cj_V D A s.heap [(h0, .inr (2, [.int 0, .int 0, .int 0, .ref q1, .null, .null, .null, .null, .null, .null, .null, .null, .null])), (q1, .inl (kd 0, 8, .inl (fun _ => nI 0))), (q2, .inl (kd 0, 320, .inl (fun _ => nI 0)))] H _ := V
  refine cj_putF X V 0 2 rfl rfl wsM tyM tyM_ok nmM 4 (by decide) fl_M_13 rfl rfl hin rfl rfl rfl (Nat.le_of_ble_eq_true rfl) dM_init_18 (fun H locs V => ?_)
  have V : cj_V D A s.heap [(h0, .inr (2, [.int 0, .int 0, .int 0, .ref q1, .ref q2, .null, .null, .null, .null, .null, .null, .null, .null])), (q1, .inl (kd 0, 8, .inl (fun _ => nI 0))), (q2, .inl (kd 0, 320, .inl (fun _ => nI 0)))] H locs := V
  refine lv_aload_n hx hb dM_init_21 rfl (lv_at hl 0 rfl) ?_
  refine lv_sipush (v := nI 320) hx hb dM_init_22 (by decide) ?_
  refine cj_newa (atype := .int) (a0 := (320, .inl (fun _ => nI 0))) X V rfl 0 rfl (fun _ h => h) ac_int (fun _ => rfl) (by decide) (by decide) (Nat.le_of_ble_eq_true rfl) (Nat.le_of_ble_eq_true rfl) dM_init_25 (fun q3 H V => ?_)
  have V : cj_V D A s.heap [(h0, .inr (2, [.int 0, .int 0, .int 0, .ref q1, .ref q2, .null, .null, .null, .null, .null, .null, .null, .null])), (q1, .inl (kd 0, 8, .inl (fun _ => nI 0))), (q2, .inl (kd 0, 320, .inl (fun _ => nI 0))), (q3, .inl (kd 0, 320, .inl (fun _ => nI 0)))] H _ := V
  refine cj_putF X V 0 2 rfl rfl wsM tyM tyM_ok nmM 5 (by decide) fl_M_16 rfl rfl hin rfl rfl rfl (Nat.le_of_ble_eq_true rfl) dM_init_27 (fun H locs V => ?_)
  have V : cj_V D A s.heap [(h0, .inr (2, [.int 0, .int 0, .int 0, .ref q1, .ref q2, .ref q3, .null, .null, .null, .null, .null, .null, .null])), (q1, .inl (kd 0, 8, .inl (fun _ => nI 0))), (q2, .inl (kd 0, 320, .inl (fun _ => nI 0))), (q3, .inl (kd 0, 320, .inl (fun _ => nI 0)))] H locs := V
  refine lv_aload_n hx hb dM_init_30 rfl (lv_at hl 0 rfl) ?_
  refine lv_sipush (v := nI 320) hx hb dM_init_31 (by decide) ?_
  refine cj_newa (atype := .boolean) (a0 := (320, .inl (fun _ => bI false))) X V rfl 1 rfl (fun _ h => h) ac_boolean (fun _ => rfl) (by decide) (by decide) (Nat.le_of_ble_eq_true rfl) (Nat.le_of_ble_eq_true rfl) dM_init_34 (fun q4 H V => ?_)
  have V : cj_V D A s.heap [(h0, .inr (2, [.int 0, .int 0, .int 0, .ref q1, .ref q2, .ref q3, .null, .null, .null, .null, .null, .null, .null])), (q1, .inl (kd 0, 8, .inl (fun _ => nI 0))), (q2, .inl (kd 0, 320, .inl (fun _ => nI 0))), (q3, .inl (kd 0, 320, .inl (fun _ => nI 0))), (q4, .inl (kd 1, 320, .inl (fun _ => bI false)))] H _ := V
  refine cj_putF X V 0 2 rfl rfl wsM tyM tyM_ok nmM 6 (by decide) fl_M_19 rfl rfl hin rfl rfl rfl (Nat.le_of_ble_eq_true rfl) dM_init_36 (fun H locs V => ?_)
  have V : cj_V D A s.heap [(h0, .inr (2, [.int 0, .int 0, .int 0, .ref q1, .ref q2, .ref q3, .ref q4, .null, .null, .null, .null, .null, .null])), (q1, .inl (kd 0, 8, .inl (fun _ => nI 0))), (q2, .inl (kd 0, 320, .inl (fun _ => nI 0))), (q3, .inl (kd 0, 320, .inl (fun _ => nI 0))), (q4, .inl (kd 1, 320, .inl (fun _ => bI false)))] H locs := V
  refine lv_aload_n hx hb dM_init_39 rfl (lv_at hl 0 rfl) ?_
  refine lv_bipush (v := nI 8) hx hb dM_init_40 (by decide) ?_
  refine cj_newa (atype := .boolean) (a0 := (8, .inl (fun _ => bI false))) X V rfl 1 rfl (fun _ h => h) ac_boolean (fun _ => rfl) (by decide) (by decide) (Nat.le_of_ble_eq_true rfl) (Nat.le_of_ble_eq_true rfl) dM_init_42 (fun q5 H V => ?_)
  have V : cj_V D A s.heap [(h0, .inr (2, [.int 0, .int 0, .int 0, .ref q1, .ref q2, .ref q3, .ref q4, .null, .null, .null, .null, .null, .null])), (q1, .inl (kd 0, 8, .inl (fun _ => nI 0))), (q2, .inl (kd 0, 320, .inl (fun _ => nI 0))), (q3, .inl (kd 0, 320, .inl (fun _ => nI 0))), (q4, .inl (kd 1, 320, .inl (fun _ => bI false))), (q5, .inl (kd 1, 8, .inl (fun _ => bI false)))] H _ := V
  refine cj_putF X V 0 2 rfl rfl wsM tyM tyM_ok nmM 7 (by decide) fl_M_23 rfl rfl hin rfl rfl rfl (Nat.le_of_ble_eq_true rfl) dM_init_44 (fun H locs V => ?_)
  have V : cj_V D A s.heap [(h0, .inr (2, [.int 0, .int 0, .int 0, .ref q1, .ref q2, .ref q3, .ref q4, .ref q5, .null, .null, .null, .null, .null])), (q1, .inl (kd 0, 8, .inl (fun _ => nI 0))), (q2, .inl (kd 0, 320, .inl (fun _ => nI 0))), (q3, .inl (kd 0, 320, .inl (fun _ => nI 0))), (q4, .inl (kd 1, 320, .inl (fun _ => bI false))), (q5, .inl (kd 1, 8, .inl (fun _ => bI false)))] H locs := V
  refine lv_aload_n hx hb dM_init_47 rfl (lv_at hl 0 rfl) ?_
  refine lv_bipush (v := nI 14) hx hb dM_init_48 (by decide) ?_
  refine cj_newa (atype := .int) (a0 := (14, .inl (fun _ => nI 0))) X V rfl 0 rfl (fun _ h => h) ac_int (fun _ => rfl) (by decide) (by decide) (Nat.le_of_ble_eq_true rfl) (Nat.le_of_ble_eq_true rfl) dM_init_50 (fun q6 H V => ?_)
  have V : cj_V D A s.heap [(h0, .inr (2, [.int 0, .int 0, .int 0, .ref q1, .ref q2, .ref q3, .ref q4, .ref q5, .null, .null, .null, .null, .null])), (q1, .inl (kd 0, 8, .inl (fun _ => nI 0))), (q2, .inl (kd 0, 320, .inl (fun _ => nI 0))), (q3, .inl (kd 0, 320, .inl (fun _ => nI 0))), (q4, .inl (kd 1, 320, .inl (fun _ => bI false))), (q5, .inl (kd 1, 8, .inl (fun _ => bI false))), (q6, .inl (kd 0, 14, .inl (fun _ => nI 0)))] H _ := V
  refine cj_putF X V 0 2 rfl rfl wsM tyM tyM_ok nmM 8 (by decide) fl_M_26 rfl rfl hin rfl rfl rfl (Nat.le_of_ble_eq_true rfl) dM_init_52 (fun H locs V => ?_)
  have V : cj_V D A s.heap [(h0, .inr (2, [.int 0, .int 0, .int 0, .ref q1, .ref q2, .ref q3, .ref q4, .ref q5, .ref q6, .null, .null, .null, .null])), (q1, .inl (kd 0, 8, .inl (fun _ => nI 0))), (q2, .inl (kd 0, 320, .inl (fun _ => nI 0))), (q3, .inl (kd 0, 320, .inl (fun _ => nI 0))), (q4, .inl (kd 1, 320, .inl (fun _ => bI false))), (q5, .inl (kd 1, 8, .inl (fun _ => bI false))), (q6, .inl (kd 0, 14, .inl (fun _ => nI 0)))] H locs := V
  refine lv_aload_n hx hb dM_init_55 rfl (lv_at hl 0 rfl) ?_
  refine lv_bipush (v := nI 14) hx hb dM_init_56 (by decide) ?_
  refine cj_newa (atype := .int) (a0 := (14, .inl (fun _ => nI 0))) X V rfl 0 rfl (fun _ h => h) ac_int (fun _ => rfl) (by decide) (by decide) (Nat.le_of_ble_eq_true rfl) (Nat.le_of_ble_eq_true rfl) dM_init_58 (fun q7 H V => ?_)
  have V : cj_V D A s.heap [(h0, .inr (2, [.int 0, .int 0, .int 0, .ref q1, .ref q2, .ref q3, .ref q4, .ref q5, .ref q6, .null, .null, .null, .null])), (q1, .inl (kd 0, 8, .inl (fun _ => nI 0))), (q2, .inl (kd 0, 320, .inl (fun _ => nI 0))), (q3, .inl (kd 0, 320, .inl (fun _ => nI 0))), (q4, .inl (kd 1, 320, .inl (fun _ => bI false))), (q5, .inl (kd 1, 8, .inl (fun _ => bI false))), (q6, .inl (kd 0, 14, .inl (fun _ => nI 0))), (q7, .inl (kd 0, 14, .inl (fun _ => nI 0)))] H _ := V
  refine cj_putF X V 0 2 rfl rfl wsM tyM tyM_ok nmM 9 (by decide) fl_M_29 rfl rfl hin rfl rfl rfl (Nat.le_of_ble_eq_true rfl) dM_init_60 (fun H locs V => ?_)
  have V : cj_V D A s.heap [(h0, .inr (2, [.int 0, .int 0, .int 0, .ref q1, .ref q2, .ref q3, .ref q4, .ref q5, .ref q6, .ref q7, .null, .null, .null])), (q1, .inl (kd 0, 8, .inl (fun _ => nI 0))), (q2, .inl (kd 0, 320, .inl (fun _ => nI 0))), (q3, .inl (kd 0, 320, .inl (fun _ => nI 0))), (q4, .inl (kd 1, 320, .inl (fun _ => bI false))), (q5, .inl (kd 1, 8, .inl (fun _ => bI false))), (q6, .inl (kd 0, 14, .inl (fun _ => nI 0))), (q7, .inl (kd 0, 14, .inl (fun _ => nI 0)))] H locs := V
  refine lv_aload_n hx hb dM_init_63 rfl (lv_at hl 0 rfl) ?_
  refine lv_bipush (v := nI 14) hx hb dM_init_64 (by decide) ?_
  refine cj_newa (atype := .long) (a0 := (14, .inr (.inl (fun _ => 0)))) X V rfl 2 rfl (fun _ h => h) ac_long (fun _ => rfl) (by decide) (by decide) (Nat.le_of_ble_eq_true rfl) (Nat.le_of_ble_eq_true rfl) dM_init_66 (fun q8 H V => ?_)
  have V : cj_V D A s.heap [(h0, .inr (2, [.int 0, .int 0, .int 0, .ref q1, .ref q2, .ref q3, .ref q4, .ref q5, .ref q6, .ref q7, .null, .null, .null])), (q1, .inl (kd 0, 8, .inl (fun _ => nI 0))), (q2, .inl (kd 0, 320, .inl (fun _ => nI 0))), (q3, .inl (kd 0, 320, .inl (fun _ => nI 0))), (q4, .inl (kd 1, 320, .inl (fun _ => bI false))), (q5, .inl (kd 1, 8, .inl (fun _ => bI false))), (q6, .inl (kd 0, 14, .inl (fun _ => nI 0))), (q7, .inl (kd 0, 14, .inl (fun _ => nI 0))), (q8, .inl (kd 2, 14, .inr (.inl (fun _ => 0))))] H _ := V
  refine cj_putF X V 0 2 rfl rfl wsM tyM tyM_ok nmM 10 (by decide) fl_M_32 rfl rfl hin rfl rfl rfl (Nat.le_of_ble_eq_true rfl) dM_init_68 (fun H locs V => ?_)
  have V : cj_V D A s.heap [(h0, .inr (2, [.int 0, .int 0, .int 0, .ref q1, .ref q2, .ref q3, .ref q4, .ref q5, .ref q6, .ref q7, .ref q8, .null, .null])), (q1, .inl (kd 0, 8, .inl (fun _ => nI 0))), (q2, .inl (kd 0, 320, .inl (fun _ => nI 0))), (q3, .inl (kd 0, 320, .inl (fun _ => nI 0))), (q4, .inl (kd 1, 320, .inl (fun _ => bI false))), (q5, .inl (kd 1, 8, .inl (fun _ => bI false))), (q6, .inl (kd 0, 14, .inl (fun _ => nI 0))), (q7, .inl (kd 0, 14, .inl (fun _ => nI 0))), (q8, .inl (kd 2, 14, .inr (.inl (fun _ => 0))))] H locs := V
  refine lv_aload_n hx hb dM_init_71 rfl (lv_at hl 0 rfl) ?_
  refine lv_sipush (v := nI 1681) hx hb dM_init_72 (by decide) ?_
  refine cj_newa (atype := .int) (a0 := (1681, .inl (fun _ => nI 0))) X V rfl 0 rfl (fun _ h => h) ac_int (fun _ => rfl) (by decide) (by decide) (Nat.le_of_ble_eq_true rfl) (Nat.le_of_ble_eq_true rfl) dM_init_75 (fun q9 H V => ?_)
  have V : cj_V D A s.heap [(h0, .inr (2, [.int 0, .int 0, .int 0, .ref q1, .ref q2, .ref q3, .ref q4, .ref q5, .ref q6, .ref q7, .ref q8, .null, .null])), (q1, .inl (kd 0, 8, .inl (fun _ => nI 0))), (q2, .inl (kd 0, 320, .inl (fun _ => nI 0))), (q3, .inl (kd 0, 320, .inl (fun _ => nI 0))), (q4, .inl (kd 1, 320, .inl (fun _ => bI false))), (q5, .inl (kd 1, 8, .inl (fun _ => bI false))), (q6, .inl (kd 0, 14, .inl (fun _ => nI 0))), (q7, .inl (kd 0, 14, .inl (fun _ => nI 0))), (q8, .inl (kd 2, 14, .inr (.inl (fun _ => 0)))), (q9, .inl (kd 0, 1681, .inl (fun _ => nI 0)))] H _ := V
  refine cj_putF X V 0 2 rfl rfl wsM tyM tyM_ok nmM 11 (by decide) fl_M_36 rfl rfl hin rfl rfl rfl (Nat.le_of_ble_eq_true rfl) dM_init_77 (fun H locs V => ?_)
  have V : cj_V D A s.heap [(h0, .inr (2, [.int 0, .int 0, .int 0, .ref q1, .ref q2, .ref q3, .ref q4, .ref q5, .ref q6, .ref q7, .ref q8, .ref q9, .null])), (q1, .inl (kd 0, 8, .inl (fun _ => nI 0))), (q2, .inl (kd 0, 320, .inl (fun _ => nI 0))), (q3, .inl (kd 0, 320, .inl (fun _ => nI 0))), (q4, .inl (kd 1, 320, .inl (fun _ => bI false))), (q5, .inl (kd 1, 8, .inl (fun _ => bI false))), (q6, .inl (kd 0, 14, .inl (fun _ => nI 0))), (q7, .inl (kd 0, 14, .inl (fun _ => nI 0))), (q8, .inl (kd 2, 14, .inr (.inl (fun _ => 0)))), (q9, .inl (kd 0, 1681, .inl (fun _ => nI 0)))] H locs := V
  refine lv_aload_n hx hb dM_init_80 rfl (lv_at hl 0 rfl) ?_
  refine lv_bipush (v := nI 40) hx hb dM_init_81 (by decide) ?_
  refine cj_newa (atype := .int) (a0 := (40, .inl (fun _ => nI 0))) X V rfl 0 rfl (fun _ h => h) ac_int (fun _ => rfl) (by decide) (by decide) (Nat.le_of_ble_eq_true rfl) (Nat.le_of_ble_eq_true rfl) dM_init_83 (fun q10 H V => ?_)
  have V : cj_V D A s.heap [(h0, .inr (2, [.int 0, .int 0, .int 0, .ref q1, .ref q2, .ref q3, .ref q4, .ref q5, .ref q6, .ref q7, .ref q8, .ref q9, .null])), (q1, .inl (kd 0, 8, .inl (fun _ => nI 0))), (q2, .inl (kd 0, 320, .inl (fun _ => nI 0))), (q3, .inl (kd 0, 320, .inl (fun _ => nI 0))), (q4, .inl (kd 1, 320, .inl (fun _ => bI false))), (q5, .inl (kd 1, 8, .inl (fun _ => bI false))), (q6, .inl (kd 0, 14, .inl (fun _ => nI 0))), (q7, .inl (kd 0, 14, .inl (fun _ => nI 0))), (q8, .inl (kd 2, 14, .inr (.inl (fun _ => 0)))), (q9, .inl (kd 0, 1681, .inl (fun _ => nI 0))), (q10, .inl (kd 0, 40, .inl (fun _ => nI 0)))] H _ := V
  refine cj_putF X V 0 2 rfl rfl wsM tyM tyM_ok nmM 12 (by decide) fl_M_39 rfl rfl hin rfl rfl rfl (Nat.le_of_ble_eq_true rfl) dM_init_85 (fun H locs V => ?_)
  have V : cj_V D A s.heap [(h0, .inr (2, [.int 0, .int 0, .int 0, .ref q1, .ref q2, .ref q3, .ref q4, .ref q5, .ref q6, .ref q7, .ref q8, .ref q9, .ref q10])), (q1, .inl (kd 0, 8, .inl (fun _ => nI 0))), (q2, .inl (kd 0, 320, .inl (fun _ => nI 0))), (q3, .inl (kd 0, 320, .inl (fun _ => nI 0))), (q4, .inl (kd 1, 320, .inl (fun _ => bI false))), (q5, .inl (kd 1, 8, .inl (fun _ => bI false))), (q6, .inl (kd 0, 14, .inl (fun _ => nI 0))), (q7, .inl (kd 0, 14, .inl (fun _ => nI 0))), (q8, .inl (kd 2, 14, .inr (.inl (fun _ => 0)))), (q9, .inl (kd 0, 1681, .inl (fun _ => nI 0))), (q10, .inl (kd 0, 40, .inl (fun _ => nI 0)))] H locs := V
  exact cj_retc [h0, q1, q2, q3, q4, q5, q6, q7, q8, q9, q10] X hr V rfl dM_init_88
end
section
-- THE CLASS'S CONSTRUCTOR
theorem cj_arrV {cA : ClassId} {N : Nat} {f g : Nat → Value} (h : ∀ j, j < N → f j = g j) : arrV cA N f = arrV cA N g := by
  unfold arrV
  have : (Array.ofFn (n := N) fun j => f j.val) = Array.ofFn (n := N) fun j => g j.val := by
    congr 1
    funext j
    exact h j.val j.isLt
  rw [this]
section CJ8
variable {p : Program} {l : Launch} {e : Env} {R : Room} {s : State} {m : MethodId} {args : Array Value} {below : List Frame} {meth : Method} {c : Code} {H : Heap} {locs : List Loc} {cells slots : Nat} {Q : State → Prop}
variable {cc : ByteArray} {pc nL : Nat} {own : String} {ls : Array Slot} {rest st0 : List Value} {D : va_G} {kd : Nat → ClassId} {A : Nat → Prop} {H0 : Heap} {w0 wr ws : va_W}
variable {y : MethodName} {bytes : ByteArray} {mx mc ms h0 index : Nat} {rm : Room} {S : Type} {w : S → va_W}
theorem cj_comm {a b : va_W} (V : cj_V D A H0 (a ++ b) H locs) : cj_V D A H0 (b ++ a) H locs := by
  obtain ⟨hP, hD, hS, hA⟩ := V
  have h1 := va_P.swap (a := []) (b := a) (c := b) (by rw [List.nil_append]; exact hP)
  have h2 := va_D.swap (a := []) (b := a) (c := b) (by rw [List.nil_append]; exact hD)
  rw [List.nil_append] at h1 h2
  exact ⟨h1, h2, hS, hA⟩
/-- an array of references, by what its places hold -/
theorem cj_refs (V : cj_V D A H0 ws H locs) (q0 : Nat) {a : Nat} {cA : ClassId} {N : Nat} {f g : Nat → Option Nat} (h : ws[q0]? = some (a, .inl (cA, N, .inr (.inr (.inr (.inr f)))))) (hfg : ∀ j, j < N → f j = g j) : cj_V D A H0 (ws.set q0 (a, .inl (cA, N, .inr (.inr (.inr (.inr g)))))) H locs := by
  obtain ⟨hP, hD, hS, hA⟩ := V
  refine ⟨hP.set hD h ?_ (fun _ _ => rfl), hD.set h, hS, hA⟩
  have h1 : H[a]? = some (vp_cell cA (N, .inr (.inr (.inr (.inr f))))) := hP q0 _ h
  show H[a]? = some (vp_cell cA (N, .inr (.inr (.inr (.inr g)))))
  rw [h1, vp_cell_q, vp_cell_q, cj_arrV (fun j hj => by rw [hfg j hj])]
theorem cj_callc {post : S → Prop} {b : Nat} (X : cj_X p s m args c meth cc nL own D kd) (V : cj_V D A H0 (w0 ++ wr) H locs) (ha1 : (Cond.arrayOver (.array .int)).before args s = true) (ha2 : (Cond.arrayOver (.array .long)).before args s = true)
    (hM : cj_Mc l y bytes mx rm mc ms D kd b w0 post w) (hrc : rm.cells = mc) (hrs : rm.slots = ms)
    (hl : Cond.methodLink own index y ∈ cw_T) (hi : Cond.instanceMethod y ∈ cw_T) (hn : Cond.initialized y.cls ∈ cw_T) (hc : Cond.code y bytes mx none ∈ cw_T) (hy1 : y.name = "<init>")
    (hd : y.cls ≠ "java/lang/invoke/MethodHandle" ∧ y.cls ≠ "java/lang/invoke/VarHandle" ∧ (parseMethodDescriptor y.desc).map (fun d => d.parameters.length) = some 0) (hR : rm.frames + 1 ≤ R.frames ∧ 8 + (mx + 11) + rm.locals ≤ R.locals) (hf : cells + mc ≤ R.cells ∧ slots + ms ≤ R.slots)
    (hsize : ls.size = nL) (hst : st0 = .ref b :: rest) (hW : (rest.map fun v => v.category).sum ≤ 8) (hdg : decode cc pc = .ok (.invokespecial index, 3))
    (kk : ∀ (u : S) (H1 : Heap) (locs1 : List Loc), post u → cj_V D A H0 (w u ++ wr) H1 locs1 → W p l e R s m args below meth c H1 locs1 (cells + mc) (slots + ms) Q (F0 m (pc + 3) ls rest)) : W p l e R s m args below meth c H locs cells slots Q (F0 m pc ls st0) := by
  have hb0 := cj_pv (av := [.ref b]) X V
  have hF := cj_fA V
  obtain ⟨F, hK, -⟩ := X
  obtain ⟨hP, hD, hS, hA⟩ := V
  have hG : GoodIn cw_T (.code y bytes mx none :: cw_T) := by
    intro w hw
    have hm : w ∈ cw_T := by
      rcases List.mem_cons.mp hw with rfl | h
      · exact hc
      · exact h
    exact ⟨hm, cw_good hm⟩
  refine va_callv (va_runI (As := []) (rest := rest) (b := b) F (hM H.size) (cwI 0 F.2.2.2.2 hG rfl hrc hrs (F.2.2.2.2 _ hn) (F.2.2.2.2 _ hl) (F.2.2.2.2 _ hi) hy1 hd hR) ⟨fun a U g mk q => ?_, fun U hU hW => ?_⟩ rfl rfl hsize hst (lv_room hW) hdg hf) hS (fun q _ h => hF q h) hF (fun u t H1 locs1 ht hvm hw hB hz hk hS1 => ?_)
  · obtain ⟨q0, ⟨q1, qP, qK, qD⟩, qa, qb⟩ := q
    exact ⟨q0, ⟨q1, qP, va_K.moved (u := U) (U := U.calling g mk a) (Vm.Alike.refl U.vm) qK, qD⟩, cj_ao (u := U) (U := U.calling g mk a) (Vm.Alike.refl U.vm) qa, cj_ao (u := U) (U := U.calling g mk a) (Vm.Alike.refl U.vm) qb⟩
  · have h1 := hb0 U hU hW
    exact ⟨h1.1, h1.2, cj_ao hW.alike ha1, cj_ao hW.alike ha2⟩
  · obtain ⟨hP1, -, hD1⟩ := hB
    rw [ht] at hP1
    obtain ⟨h1, h2⟩ := cj_fr hP hD hk hF hP1 hD1
    exact kk u H1 locs1 hw ⟨h1, h2, hS1, hA⟩
theorem cj_perm {ws' : va_W} (V : cj_V D A H0 ws H locs) (is : List Nat) (hn : va_nd is = true) (hs : is.map (fun i => ws[i]?) = ws'.map some) : cj_V D A H0 ws' H locs := by
  obtain ⟨hP, hD, hS, hA⟩ := V
  refine ⟨hP.sub is ?_, hD.sub is hn hs, hS, hA⟩
  have : is.filterMap (fun i => ws[i]?) = (is.map (fun i => ws[i]?)).filterMap id := by rw [List.filterMap_map]; rfl
  rw [this, hs, List.filterMap_map]
  simp
theorem cj_newo (X : cj_X p s m args c meth cc nL own D kd) (V : cj_V D A H0 ws H locs) (ci : Nat) {C : String} {T : u_T} {N : Nat} (hc : cj_cl[ci]? = some (C, T, N)) (hin : ∀ w ∈ u_ws C T N, w ∈ cw_T) (ty : Nat → FieldType) (hty : ∀ k, k < N → parseFieldDescriptor (T k).2.2.1 = some (ty k)) (hcl : Cond.classLink own index C ∈ cw_T) (hit : Cond.instantiable C N ∈ cw_T) (hini : Cond.initialized C ∈ cw_T) {fs : List Value} (hfs : ∀ j, j < N → defaultValue (ty j) = vp_V fs j) (hcells : cells + 1 ≤ R.cells) (hslots : slots + N ≤ R.slots) (hdg : decode cc pc = .ok (.new index, 3))
    (kk : ∀ (q : Nat) (H1 : Heap), cj_V D A H0 (ws ++ [(q, .inr (ci, fs))]) H1 locs → W p l e R s m args below meth c H1 locs (cells + 1) (slots + N) Q (F0 m (pc + 3) ls (.ref q :: rest))) : W p l e R s m args below meth c H locs cells slots Q (F0 m pc ls rest) := by
  obtain ⟨⟨hx, hb, -, hown, hts⟩, hK, -⟩ := X
  obtain ⟨hP, hD, hS, hA⟩ := V
  exact va_new hx hb hts hin ty hty hown (hts _ hcl) (hts _ hit) (hts _ hini) hK hP hD hS hA hc hfs hcells hslots hdg (fun q H1 h1 h2 h3 => kk q H1 ⟨h1, h2, h3, hA⟩)
end CJ8
theorem hd_D_init : yD_init.cls ≠ "java/lang/invoke/MethodHandle" ∧ yD_init.cls ≠ "java/lang/invoke/VarHandle" ∧ (parseMethodDescriptor yD_init.desc).map (fun d => d.parameters.length) = some 0 := ⟨by decide, by decide, by decide +kernel⟩
theorem hd_C_init : yC_init.cls ≠ "java/lang/invoke/MethodHandle" ∧ yC_init.cls ≠ "java/lang/invoke/VarHandle" ∧ (parseMethodDescriptor yC_init.desc).map (fun d => d.parameters.length) = some 0 := ⟨by decide, by decide, by decide +kernel⟩
theorem hd_M_init : yM_init.cls ≠ "java/lang/invoke/MethodHandle" ∧ yM_init.cls ≠ "java/lang/invoke/VarHandle" ∧ (parseMethodDescriptor yM_init.desc).map (fun d => d.parameters.length) = some 0 := ⟨by decide, by decide, by decide +kernel⟩
/-- the class's addresses: its own cells, then the rows of its three grids -/
def cj_adC (l : List Nat) (r1 r2 r3 : Nat → Nat) : Nat → Nat := fun k => if k < 14 then l.getD k 0 else if k < 22 then r1 (k - 14) else if k < 30 then r2 (k - 22) else r3 (k - 30)
set_option maxRecDepth 100000 in
set_option maxHeartbeats 8000000 in
theorem c_C_init (l : Launch) (D : va_G) (kd : Nat → ClassId) (h0 : Nat) : cj_Mc (S := Nat → Nat) l yC_init cC_init 1 ({ frames := 2, cells := 70, slots := 2235, locals := 60 }) 70 2235 D kd h0 [(h0, .inr (1, [.int 0, .null, .null, .null, .null, .int 0, .null, .null, .null, .null, .null, .null, .int 0]))] (fun u => u 0 = h0) (fun u => wC kd u 0 (fun _ => 0) (fun _ => false) (fun _ _ => 0) (fun _ _ => 0) 0 (fun _ => 0) (fun _ => 0) (fun _ => 0) (fun _ _ => 0) (fun _ => nI 0) 0 (fun _ => 0) (fun _ => 0) (fun _ => 0) (nI 0)) := by
  refine cj_ofc (by decide) (by decide) rfl ?_
  intro p e s m below meth c A ls X hr hin ha1 ha2 V hl
  obtain ⟨⟨hx, hb, hml, hown, hts⟩, hK, hlk⟩ := id X
  refine lv_aload_n hx hb dC_init_0 rfl (lv_at hl 0 rfl) ?_
  refine cj_obj X ml_C_3 hl.1 (by decide) (by decide) dC_init_1 ?_
  refine lv_aload_n hx hb dC_init_4 rfl (lv_at hl 0 rfl) ?_
  refine lv_iconst (v := nI 0) hx hb dC_init_5 (by decide) ?_
  refine cj_putf X V 0 1 rfl rfl wsC tyC tyC_ok nmC 0 (by decide) fl_C_9 rfl rfl rfl (Nat.le_of_ble_eq_true rfl) dC_init_6 (fun H locs V => ?_)
  have V : cj_V D A s.heap [(h0, .inr (1, [.int (nI 0), .null, .null, .null, .null, .int 0, .null, .null, .null, .null, .null, .null, .int 0]))] H _ := V
  refine lv_aload_n hx hb dC_init_9 rfl (lv_at hl 0 rfl) ?_
  refine lv_bipush (v := nI 8) hx hb dC_init_10 (by decide) ?_
  refine cj_newa (atype := .int) (a0 := (8, .inl (fun _ => nI 0))) X V rfl 0 rfl (fun _ h => h) ac_int (fun _ => rfl) (by decide) (by decide) (Nat.le_of_ble_eq_true rfl) (Nat.le_of_ble_eq_true rfl) dC_init_12 (fun q1 H V => ?_)
  have V : cj_V D A s.heap ([(h0, .inr (1, [.int (nI 0), .null, .null, .null, .null, .int 0, .null, .null, .null, .null, .null, .null, .int 0]))] ++ [(q1, .inl (kd 0, 8, .inl (fun _ => nI 0)))]) H _ := V
  refine cj_putF X V 0 1 rfl rfl wsC tyC tyC_ok nmC 1 (by decide) fl_C_13 rfl rfl hin rfl rfl rfl (Nat.le_of_ble_eq_true rfl) dC_init_14 (fun H locs V => ?_)
  have V : cj_V D A s.heap ([(h0, .inr (1, [.int (nI 0), .ref q1, .null, .null, .null, .int 0, .null, .null, .null, .null, .null, .null, .int 0]))] ++ [(q1, .inl (kd 0, 8, .inl (fun _ => nI 0)))]) H _ := V
  refine lv_aload_n hx hb dC_init_17 rfl (lv_at hl 0 rfl) ?_
  refine lv_bipush (v := nI 8) hx hb dC_init_18 (by decide) ?_
  refine cj_newa (atype := .boolean) (a0 := (8, .inl (fun _ => bI false))) X V rfl 1 rfl (fun _ h => h) ac_boolean (fun _ => rfl) (by decide) (by decide) (Nat.le_of_ble_eq_true rfl) (Nat.le_of_ble_eq_true rfl) dC_init_20 (fun q2 H V => ?_)
  have V : cj_V D A s.heap (([(h0, .inr (1, [.int (nI 0), .ref q1, .null, .null, .null, .int 0, .null, .null, .null, .null, .null, .null, .int 0]))] ++ [(q1, .inl (kd 0, 8, .inl (fun _ => nI 0)))]) ++ [(q2, .inl (kd 1, 8, .inl (fun _ => bI false)))]) H _ := V
  refine cj_putF X V 0 1 rfl rfl wsC tyC tyC_ok nmC 2 (by decide) fl_C_17 rfl rfl hin rfl rfl rfl (Nat.le_of_ble_eq_true rfl) dC_init_22 (fun H locs V => ?_)
  have V : cj_V D A s.heap (([(h0, .inr (1, [.int (nI 0), .ref q1, .ref q2, .null, .null, .int 0, .null, .null, .null, .null, .null, .null, .int 0]))] ++ [(q1, .inl (kd 0, 8, .inl (fun _ => nI 0)))]) ++ [(q2, .inl (kd 1, 8, .inl (fun _ => bI false)))]) H _ := V
  refine lv_aload_n hx hb dC_init_25 rfl (lv_at hl 0 rfl) ?_
  refine lv_bipush (v := nI 8) hx hb dC_init_26 (by decide) ?_
  refine lv_bipush (v := nI 40) hx hb dC_init_28 (by decide) ?_
  refine cj_mna (ty := .int) (z := (40, .inl (fun _ => nI 0))) X V 0 3 rfl rfl (fun _ h => h) cl_C_21 ha1 ac_int (by decide) (by decide) (by decide) (by decide) (by decide) rfl rfl (Nat.le_of_ble_eq_true rfl) (Nat.le_of_ble_eq_true rfl) (fun c => by show ({ cls := c, slots := Array.replicate _ _, vm := .none } : Cell) = _; rw [arrV_new]; rfl) dC_init_30 (fun q3 r3 H V => ?_)
  have V : cj_V D A s.heap (((([(h0, .inr (1, [.int (nI 0), .ref q1, .ref q2, .null, .null, .int 0, .null, .null, .null, .null, .null, .null, .int 0]))] ++ [(q1, .inl (kd 0, 8, .inl (fun _ => nI 0)))]) ++ [(q2, .inl (kd 1, 8, .inl (fun _ => bI false)))]) ++ [(q3, .inl (kd 3, 8, .inr (.inr (.inr (.inr (fun i => if i < 8 then some (r3 i) else none))))))]) ++ cj_seg 8 r3 (fun _ => .inl (kd 0, 40, .inl (fun _ => nI 0)))) H _ := V
  refine cj_putF X V 0 1 rfl rfl wsC tyC tyC_ok nmC 3 (by decide) fl_C_23 rfl rfl hin rfl rfl rfl (Nat.le_of_ble_eq_true rfl) dC_init_34 (fun H locs V => ?_)
  have V : cj_V D A s.heap (((([(h0, .inr (1, [.int (nI 0), .ref q1, .ref q2, .ref q3, .null, .int 0, .null, .null, .null, .null, .null, .null, .int 0]))] ++ [(q1, .inl (kd 0, 8, .inl (fun _ => nI 0)))]) ++ [(q2, .inl (kd 1, 8, .inl (fun _ => bI false)))]) ++ [(q3, .inl (kd 3, 8, .inr (.inr (.inr (.inr (fun i => if i < 8 then some (r3 i) else none))))))]) ++ cj_seg 8 r3 (fun _ => .inl (kd 0, 40, .inl (fun _ => nI 0)))) H _ := V
  refine lv_aload_n hx hb dC_init_37 rfl (lv_at hl 0 rfl) ?_
  refine lv_bipush (v := nI 8) hx hb dC_init_38 (by decide) ?_
  refine lv_iconst (v := nI 4) hx hb dC_init_40 (by decide) ?_
  refine cj_mna (ty := .long) (z := (4, .inr (.inl (fun _ => 0)))) X V 2 4 rfl rfl (fun _ h => h) cl_C_26 ha2 ac_long (by decide) (by decide) (by decide) (by decide) (by decide) rfl rfl (Nat.le_of_ble_eq_true rfl) (Nat.le_of_ble_eq_true rfl) (fun c => by show ({ cls := c, slots := Array.replicate _ _, vm := .none } : Cell) = _; rw [arrV_new]; rfl) dC_init_41 (fun q4 r4 H V => ?_)
  have V : cj_V D A s.heap (((((([(h0, .inr (1, [.int (nI 0), .ref q1, .ref q2, .ref q3, .null, .int 0, .null, .null, .null, .null, .null, .null, .int 0]))] ++ [(q1, .inl (kd 0, 8, .inl (fun _ => nI 0)))]) ++ [(q2, .inl (kd 1, 8, .inl (fun _ => bI false)))]) ++ [(q3, .inl (kd 3, 8, .inr (.inr (.inr (.inr (fun i => if i < 8 then some (r3 i) else none))))))]) ++ cj_seg 8 r3 (fun _ => .inl (kd 0, 40, .inl (fun _ => nI 0)))) ++ [(q4, .inl (kd 4, 8, .inr (.inr (.inr (.inr (fun i => if i < 8 then some (r4 i) else none))))))]) ++ cj_seg 8 r4 (fun _ => .inl (kd 2, 4, .inr (.inl (fun _ => 0))))) H _ := V
  refine cj_putF X V 0 1 rfl rfl wsC tyC tyC_ok nmC 4 (by decide) fl_C_28 rfl rfl hin rfl rfl rfl (Nat.le_of_ble_eq_true rfl) dC_init_45 (fun H locs V => ?_)
  have V : cj_V D A s.heap (((((([(h0, .inr (1, [.int (nI 0), .ref q1, .ref q2, .ref q3, .ref q4, .int 0, .null, .null, .null, .null, .null, .null, .int 0]))] ++ [(q1, .inl (kd 0, 8, .inl (fun _ => nI 0)))]) ++ [(q2, .inl (kd 1, 8, .inl (fun _ => bI false)))]) ++ [(q3, .inl (kd 3, 8, .inr (.inr (.inr (.inr (fun i => if i < 8 then some (r3 i) else none))))))]) ++ cj_seg 8 r3 (fun _ => .inl (kd 0, 40, .inl (fun _ => nI 0)))) ++ [(q4, .inl (kd 4, 8, .inr (.inr (.inr (.inr (fun i => if i < 8 then some (r4 i) else none))))))]) ++ cj_seg 8 r4 (fun _ => .inl (kd 2, 4, .inr (.inl (fun _ => 0))))) H _ := V
  refine lv_aload_n hx hb dC_init_48 rfl (lv_at hl 0 rfl) ?_
  refine lv_iconst (v := nI 0) hx hb dC_init_49 (by decide) ?_
  refine cj_putf X V 0 1 rfl rfl wsC tyC tyC_ok nmC 5 (by decide) fl_C_31 rfl rfl rfl (Nat.le_of_ble_eq_true rfl) dC_init_50 (fun H locs V => ?_)
  have V : cj_V D A s.heap (((((([(h0, .inr (1, [.int (nI 0), .ref q1, .ref q2, .ref q3, .ref q4, .int (nI 0), .null, .null, .null, .null, .null, .null, .int 0]))] ++ [(q1, .inl (kd 0, 8, .inl (fun _ => nI 0)))]) ++ [(q2, .inl (kd 1, 8, .inl (fun _ => bI false)))]) ++ [(q3, .inl (kd 3, 8, .inr (.inr (.inr (.inr (fun i => if i < 8 then some (r3 i) else none))))))]) ++ cj_seg 8 r3 (fun _ => .inl (kd 0, 40, .inl (fun _ => nI 0)))) ++ [(q4, .inl (kd 4, 8, .inr (.inr (.inr (.inr (fun i => if i < 8 then some (r4 i) else none))))))]) ++ cj_seg 8 r4 (fun _ => .inl (kd 2, 4, .inr (.inl (fun _ => 0))))) H _ := V
  refine lv_aload_n hx hb dC_init_53 rfl (lv_at hl 0 rfl) ?_
  refine lv_bipush (v := nI 14) hx hb dC_init_54 (by decide) ?_
  refine cj_newa (atype := .int) (a0 := (14, .inl (fun _ => nI 0))) X V rfl 0 rfl (fun _ h => h) ac_int (fun _ => rfl) (by decide) (by decide) (Nat.le_of_ble_eq_true rfl) (Nat.le_of_ble_eq_true rfl) dC_init_56 (fun q5 H V => ?_)
  have V : cj_V D A s.heap ((((((([(h0, .inr (1, [.int (nI 0), .ref q1, .ref q2, .ref q3, .ref q4, .int (nI 0), .null, .null, .null, .null, .null, .null, .int 0]))] ++ [(q1, .inl (kd 0, 8, .inl (fun _ => nI 0)))]) ++ [(q2, .inl (kd 1, 8, .inl (fun _ => bI false)))]) ++ [(q3, .inl (kd 3, 8, .inr (.inr (.inr (.inr (fun i => if i < 8 then some (r3 i) else none))))))]) ++ cj_seg 8 r3 (fun _ => .inl (kd 0, 40, .inl (fun _ => nI 0)))) ++ [(q4, .inl (kd 4, 8, .inr (.inr (.inr (.inr (fun i => if i < 8 then some (r4 i) else none))))))]) ++ cj_seg 8 r4 (fun _ => .inl (kd 2, 4, .inr (.inl (fun _ => 0))))) ++ [(q5, .inl (kd 0, 14, .inl (fun _ => nI 0)))]) H _ := V
  refine cj_putF X V 0 1 rfl rfl wsC tyC tyC_ok nmC 6 (by decide) fl_C_34 rfl rfl hin rfl rfl rfl (Nat.le_of_ble_eq_true rfl) dC_init_58 (fun H locs V => ?_)
  have V : cj_V D A s.heap ((((((([(h0, .inr (1, [.int (nI 0), .ref q1, .ref q2, .ref q3, .ref q4, .int (nI 0), .ref q5, .null, .null, .null, .null, .null, .int 0]))] ++ [(q1, .inl (kd 0, 8, .inl (fun _ => nI 0)))]) ++ [(q2, .inl (kd 1, 8, .inl (fun _ => bI false)))]) ++ [(q3, .inl (kd 3, 8, .inr (.inr (.inr (.inr (fun i => if i < 8 then some (r3 i) else none))))))]) ++ cj_seg 8 r3 (fun _ => .inl (kd 0, 40, .inl (fun _ => nI 0)))) ++ [(q4, .inl (kd 4, 8, .inr (.inr (.inr (.inr (fun i => if i < 8 then some (r4 i) else none))))))]) ++ cj_seg 8 r4 (fun _ => .inl (kd 2, 4, .inr (.inl (fun _ => 0))))) ++ [(q5, .inl (kd 0, 14, .inl (fun _ => nI 0)))]) H _ := V
  refine lv_aload_n hx hb dC_init_61 rfl (lv_at hl 0 rfl) ?_
  refine lv_bipush (v := nI 14) hx hb dC_init_62 (by decide) ?_
  refine cj_newa (atype := .int) (a0 := (14, .inl (fun _ => nI 0))) X V rfl 0 rfl (fun _ h => h) ac_int (fun _ => rfl) (by decide) (by decide) (Nat.le_of_ble_eq_true rfl) (Nat.le_of_ble_eq_true rfl) dC_init_64 (fun q6 H V => ?_)
  have V : cj_V D A s.heap (((((((([(h0, .inr (1, [.int (nI 0), .ref q1, .ref q2, .ref q3, .ref q4, .int (nI 0), .ref q5, .null, .null, .null, .null, .null, .int 0]))] ++ [(q1, .inl (kd 0, 8, .inl (fun _ => nI 0)))]) ++ [(q2, .inl (kd 1, 8, .inl (fun _ => bI false)))]) ++ [(q3, .inl (kd 3, 8, .inr (.inr (.inr (.inr (fun i => if i < 8 then some (r3 i) else none))))))]) ++ cj_seg 8 r3 (fun _ => .inl (kd 0, 40, .inl (fun _ => nI 0)))) ++ [(q4, .inl (kd 4, 8, .inr (.inr (.inr (.inr (fun i => if i < 8 then some (r4 i) else none))))))]) ++ cj_seg 8 r4 (fun _ => .inl (kd 2, 4, .inr (.inl (fun _ => 0))))) ++ [(q5, .inl (kd 0, 14, .inl (fun _ => nI 0)))]) ++ [(q6, .inl (kd 0, 14, .inl (fun _ => nI 0)))]) H _ := V
  refine cj_putF X V 0 1 rfl rfl wsC tyC tyC_ok nmC 7 (by decide) fl_C_37 rfl rfl hin rfl rfl rfl (Nat.le_of_ble_eq_true rfl) dC_init_66 (fun H locs V => ?_)
  have V : cj_V D A s.heap (((((((([(h0, .inr (1, [.int (nI 0), .ref q1, .ref q2, .ref q3, .ref q4, .int (nI 0), .ref q5, .ref q6, .null, .null, .null, .null, .int 0]))] ++ [(q1, .inl (kd 0, 8, .inl (fun _ => nI 0)))]) ++ [(q2, .inl (kd 1, 8, .inl (fun _ => bI false)))]) ++ [(q3, .inl (kd 3, 8, .inr (.inr (.inr (.inr (fun i => if i < 8 then some (r3 i) else none))))))]) ++ cj_seg 8 r3 (fun _ => .inl (kd 0, 40, .inl (fun _ => nI 0)))) ++ [(q4, .inl (kd 4, 8, .inr (.inr (.inr (.inr (fun i => if i < 8 then some (r4 i) else none))))))]) ++ cj_seg 8 r4 (fun _ => .inl (kd 2, 4, .inr (.inl (fun _ => 0))))) ++ [(q5, .inl (kd 0, 14, .inl (fun _ => nI 0)))]) ++ [(q6, .inl (kd 0, 14, .inl (fun _ => nI 0)))]) H _ := V
  refine lv_aload_n hx hb dC_init_69 rfl (lv_at hl 0 rfl) ?_
  refine lv_bipush (v := nI 14) hx hb dC_init_70 (by decide) ?_
  refine cj_newa (atype := .long) (a0 := (14, .inr (.inl (fun _ => 0)))) X V rfl 2 rfl (fun _ h => h) ac_long (fun _ => rfl) (by decide) (by decide) (Nat.le_of_ble_eq_true rfl) (Nat.le_of_ble_eq_true rfl) dC_init_72 (fun q7 H V => ?_)
  have V : cj_V D A s.heap ((((((((([(h0, .inr (1, [.int (nI 0), .ref q1, .ref q2, .ref q3, .ref q4, .int (nI 0), .ref q5, .ref q6, .null, .null, .null, .null, .int 0]))] ++ [(q1, .inl (kd 0, 8, .inl (fun _ => nI 0)))]) ++ [(q2, .inl (kd 1, 8, .inl (fun _ => bI false)))]) ++ [(q3, .inl (kd 3, 8, .inr (.inr (.inr (.inr (fun i => if i < 8 then some (r3 i) else none))))))]) ++ cj_seg 8 r3 (fun _ => .inl (kd 0, 40, .inl (fun _ => nI 0)))) ++ [(q4, .inl (kd 4, 8, .inr (.inr (.inr (.inr (fun i => if i < 8 then some (r4 i) else none))))))]) ++ cj_seg 8 r4 (fun _ => .inl (kd 2, 4, .inr (.inl (fun _ => 0))))) ++ [(q5, .inl (kd 0, 14, .inl (fun _ => nI 0)))]) ++ [(q6, .inl (kd 0, 14, .inl (fun _ => nI 0)))]) ++ [(q7, .inl (kd 2, 14, .inr (.inl (fun _ => 0))))]) H _ := V
  refine cj_putF X V 0 1 rfl rfl wsC tyC tyC_ok nmC 8 (by decide) fl_C_40 rfl rfl hin rfl rfl rfl (Nat.le_of_ble_eq_true rfl) dC_init_74 (fun H locs V => ?_)
  have V : cj_V D A s.heap ((((((((([(h0, .inr (1, [.int (nI 0), .ref q1, .ref q2, .ref q3, .ref q4, .int (nI 0), .ref q5, .ref q6, .ref q7, .null, .null, .null, .int 0]))] ++ [(q1, .inl (kd 0, 8, .inl (fun _ => nI 0)))]) ++ [(q2, .inl (kd 1, 8, .inl (fun _ => bI false)))]) ++ [(q3, .inl (kd 3, 8, .inr (.inr (.inr (.inr (fun i => if i < 8 then some (r3 i) else none))))))]) ++ cj_seg 8 r3 (fun _ => .inl (kd 0, 40, .inl (fun _ => nI 0)))) ++ [(q4, .inl (kd 4, 8, .inr (.inr (.inr (.inr (fun i => if i < 8 then some (r4 i) else none))))))]) ++ cj_seg 8 r4 (fun _ => .inl (kd 2, 4, .inr (.inl (fun _ => 0))))) ++ [(q5, .inl (kd 0, 14, .inl (fun _ => nI 0)))]) ++ [(q6, .inl (kd 0, 14, .inl (fun _ => nI 0)))]) ++ [(q7, .inl (kd 2, 14, .inr (.inl (fun _ => 0))))]) H _ := V
  refine lv_aload_n hx hb dC_init_77 rfl (lv_at hl 0 rfl) ?_
  refine lv_bipush (v := nI 41) hx hb dC_init_78 (by decide) ?_
  refine lv_bipush (v := nI 41) hx hb dC_init_80 (by decide) ?_
  refine cj_mna (ty := .int) (z := (41, .inl (fun _ => nI 0))) X V 0 3 rfl rfl (fun _ h => h) cl_C_21 ha1 ac_int (by decide) (by decide) (by decide) (by decide) (by decide) rfl rfl (Nat.le_of_ble_eq_true rfl) (Nat.le_of_ble_eq_true rfl) (fun c => by show ({ cls := c, slots := Array.replicate _ _, vm := .none } : Cell) = _; rw [arrV_new]; rfl) dC_init_82 (fun q8 r8 H V => ?_)
  have V : cj_V D A s.heap ((((((((((([(h0, .inr (1, [.int (nI 0), .ref q1, .ref q2, .ref q3, .ref q4, .int (nI 0), .ref q5, .ref q6, .ref q7, .null, .null, .null, .int 0]))] ++ [(q1, .inl (kd 0, 8, .inl (fun _ => nI 0)))]) ++ [(q2, .inl (kd 1, 8, .inl (fun _ => bI false)))]) ++ [(q3, .inl (kd 3, 8, .inr (.inr (.inr (.inr (fun i => if i < 8 then some (r3 i) else none))))))]) ++ cj_seg 8 r3 (fun _ => .inl (kd 0, 40, .inl (fun _ => nI 0)))) ++ [(q4, .inl (kd 4, 8, .inr (.inr (.inr (.inr (fun i => if i < 8 then some (r4 i) else none))))))]) ++ cj_seg 8 r4 (fun _ => .inl (kd 2, 4, .inr (.inl (fun _ => 0))))) ++ [(q5, .inl (kd 0, 14, .inl (fun _ => nI 0)))]) ++ [(q6, .inl (kd 0, 14, .inl (fun _ => nI 0)))]) ++ [(q7, .inl (kd 2, 14, .inr (.inl (fun _ => 0))))]) ++ [(q8, .inl (kd 3, 41, .inr (.inr (.inr (.inr (fun i => if i < 41 then some (r8 i) else none))))))]) ++ cj_seg 41 r8 (fun _ => .inl (kd 0, 41, .inl (fun _ => nI 0)))) H _ := V
  refine cj_putF X V 0 1 rfl rfl wsC tyC tyC_ok nmC 9 (by decide) fl_C_44 rfl rfl hin rfl rfl rfl (Nat.le_of_ble_eq_true rfl) dC_init_86 (fun H locs V => ?_)
  have V : cj_V D A s.heap ((((((((((([(h0, .inr (1, [.int (nI 0), .ref q1, .ref q2, .ref q3, .ref q4, .int (nI 0), .ref q5, .ref q6, .ref q7, .ref q8, .null, .null, .int 0]))] ++ [(q1, .inl (kd 0, 8, .inl (fun _ => nI 0)))]) ++ [(q2, .inl (kd 1, 8, .inl (fun _ => bI false)))]) ++ [(q3, .inl (kd 3, 8, .inr (.inr (.inr (.inr (fun i => if i < 8 then some (r3 i) else none))))))]) ++ cj_seg 8 r3 (fun _ => .inl (kd 0, 40, .inl (fun _ => nI 0)))) ++ [(q4, .inl (kd 4, 8, .inr (.inr (.inr (.inr (fun i => if i < 8 then some (r4 i) else none))))))]) ++ cj_seg 8 r4 (fun _ => .inl (kd 2, 4, .inr (.inl (fun _ => 0))))) ++ [(q5, .inl (kd 0, 14, .inl (fun _ => nI 0)))]) ++ [(q6, .inl (kd 0, 14, .inl (fun _ => nI 0)))]) ++ [(q7, .inl (kd 2, 14, .inr (.inl (fun _ => 0))))]) ++ [(q8, .inl (kd 3, 41, .inr (.inr (.inr (.inr (fun i => if i < 41 then some (r8 i) else none))))))]) ++ cj_seg 41 r8 (fun _ => .inl (kd 0, 41, .inl (fun _ => nI 0)))) H _ := V
  refine lv_aload_n hx hb dC_init_89 rfl (lv_at hl 0 rfl) ?_
  refine lv_bipush (v := nI 40) hx hb dC_init_90 (by decide) ?_
  refine cj_newa (atype := .int) (a0 := (40, .inl (fun _ => nI 0))) X V rfl 0 rfl (fun _ h => h) ac_int (fun _ => rfl) (by decide) (by decide) (Nat.le_of_ble_eq_true rfl) (Nat.le_of_ble_eq_true rfl) dC_init_92 (fun q9 H V => ?_)
  have V : cj_V D A s.heap (((((((((((([(h0, .inr (1, [.int (nI 0), .ref q1, .ref q2, .ref q3, .ref q4, .int (nI 0), .ref q5, .ref q6, .ref q7, .ref q8, .null, .null, .int 0]))] ++ [(q1, .inl (kd 0, 8, .inl (fun _ => nI 0)))]) ++ [(q2, .inl (kd 1, 8, .inl (fun _ => bI false)))]) ++ [(q3, .inl (kd 3, 8, .inr (.inr (.inr (.inr (fun i => if i < 8 then some (r3 i) else none))))))]) ++ cj_seg 8 r3 (fun _ => .inl (kd 0, 40, .inl (fun _ => nI 0)))) ++ [(q4, .inl (kd 4, 8, .inr (.inr (.inr (.inr (fun i => if i < 8 then some (r4 i) else none))))))]) ++ cj_seg 8 r4 (fun _ => .inl (kd 2, 4, .inr (.inl (fun _ => 0))))) ++ [(q5, .inl (kd 0, 14, .inl (fun _ => nI 0)))]) ++ [(q6, .inl (kd 0, 14, .inl (fun _ => nI 0)))]) ++ [(q7, .inl (kd 2, 14, .inr (.inl (fun _ => 0))))]) ++ [(q8, .inl (kd 3, 41, .inr (.inr (.inr (.inr (fun i => if i < 41 then some (r8 i) else none))))))]) ++ cj_seg 41 r8 (fun _ => .inl (kd 0, 41, .inl (fun _ => nI 0)))) ++ [(q9, .inl (kd 0, 40, .inl (fun _ => nI 0)))]) H _ := V
  refine cj_putF X V 0 1 rfl rfl wsC tyC tyC_ok nmC 10 (by decide) fl_C_47 rfl rfl hin rfl rfl rfl (Nat.le_of_ble_eq_true rfl) dC_init_94 (fun H locs V => ?_)
  have V : cj_V D A s.heap (((((((((((([(h0, .inr (1, [.int (nI 0), .ref q1, .ref q2, .ref q3, .ref q4, .int (nI 0), .ref q5, .ref q6, .ref q7, .ref q8, .ref q9, .null, .int 0]))] ++ [(q1, .inl (kd 0, 8, .inl (fun _ => nI 0)))]) ++ [(q2, .inl (kd 1, 8, .inl (fun _ => bI false)))]) ++ [(q3, .inl (kd 3, 8, .inr (.inr (.inr (.inr (fun i => if i < 8 then some (r3 i) else none))))))]) ++ cj_seg 8 r3 (fun _ => .inl (kd 0, 40, .inl (fun _ => nI 0)))) ++ [(q4, .inl (kd 4, 8, .inr (.inr (.inr (.inr (fun i => if i < 8 then some (r4 i) else none))))))]) ++ cj_seg 8 r4 (fun _ => .inl (kd 2, 4, .inr (.inl (fun _ => 0))))) ++ [(q5, .inl (kd 0, 14, .inl (fun _ => nI 0)))]) ++ [(q6, .inl (kd 0, 14, .inl (fun _ => nI 0)))]) ++ [(q7, .inl (kd 2, 14, .inr (.inl (fun _ => 0))))]) ++ [(q8, .inl (kd 3, 41, .inr (.inr (.inr (.inr (fun i => if i < 41 then some (r8 i) else none))))))]) ++ cj_seg 41 r8 (fun _ => .inl (kd 0, 41, .inl (fun _ => nI 0)))) ++ [(q9, .inl (kd 0, 40, .inl (fun _ => nI 0)))]) H _ := V
  refine lv_aload_n hx hb dC_init_97 rfl (lv_at hl 0 rfl) ?_
  refine cj_newo (fs := [.int 0, .null, .null, .null]) X V 0 rfl wsD tyD tyD_ok cl_C_50 it_D in_D (fun j hj => by rcases (show j = 0 ∨ j = 1 ∨ j = 2 ∨ j = 3 by omega) with rfl | rfl | rfl | rfl <;> rfl) (Nat.le_of_ble_eq_true rfl) (Nat.le_of_ble_eq_true rfl) dC_init_98 (fun q10 H V => ?_)
  refine lv_dup hx hb dC_init_101 rfl ?_
  refine cj_callc X (cj_comm V) ha1 ha2 (c_D_init l D kd q10) rfl rfl ml_C_52 im_D_init in_D cd_D_init rfl hd_D_init ⟨by decide, by decide⟩ ⟨Nat.le_of_ble_eq_true rfl, Nat.le_of_ble_eq_true rfl⟩ hl.1 rfl (Nat.le_of_ble_eq_true rfl) dC_init_102 (fun u H locs _ V => ?_)
  obtain ⟨q11, q12, q13⟩ := u
  have V : cj_V D A s.heap ([(q10, .inr (0, [.int (nI 0), .ref q11, .ref q12, .ref q13])), (q11, .inl (kd 2, 14, .inr (.inl (fun _ => 0)))), (q12, .inl (kd 2, 14, .inr (.inl (fun _ => 0)))), (q13, .inl (kd 2, 15, .inr (.inl (fun _ => 0))))] ++ (((((((((((([(h0, .inr (1, [.int (nI 0), .ref q1, .ref q2, .ref q3, .ref q4, .int (nI 0), .ref q5, .ref q6, .ref q7, .ref q8, .ref q9, .null, .int 0]))] ++ [(q1, .inl (kd 0, 8, .inl (fun _ => nI 0)))]) ++ [(q2, .inl (kd 1, 8, .inl (fun _ => bI false)))]) ++ [(q3, .inl (kd 3, 8, .inr (.inr (.inr (.inr (fun i => if i < 8 then some (r3 i) else none))))))]) ++ cj_seg 8 r3 (fun _ => .inl (kd 0, 40, .inl (fun _ => nI 0)))) ++ [(q4, .inl (kd 4, 8, .inr (.inr (.inr (.inr (fun i => if i < 8 then some (r4 i) else none))))))]) ++ cj_seg 8 r4 (fun _ => .inl (kd 2, 4, .inr (.inl (fun _ => 0))))) ++ [(q5, .inl (kd 0, 14, .inl (fun _ => nI 0)))]) ++ [(q6, .inl (kd 0, 14, .inl (fun _ => nI 0)))]) ++ [(q7, .inl (kd 2, 14, .inr (.inl (fun _ => 0))))]) ++ [(q8, .inl (kd 3, 41, .inr (.inr (.inr (.inr (fun i => if i < 41 then some (r8 i) else none))))))]) ++ cj_seg 41 r8 (fun _ => .inl (kd 0, 41, .inl (fun _ => nI 0)))) ++ [(q9, .inl (kd 0, 40, .inl (fun _ => nI 0)))])) H _ := V
  refine cj_putF X V 4 1 rfl rfl wsC tyC tyC_ok nmC 11 (by decide) fl_C_53 rfl rfl hin rfl rfl rfl (Nat.le_of_ble_eq_true rfl) dC_init_105 (fun H locs V => ?_)
  have V : cj_V D A s.heap ([(q10, .inr (0, [.int (nI 0), .ref q11, .ref q12, .ref q13])), (q11, .inl (kd 2, 14, .inr (.inl (fun _ => 0)))), (q12, .inl (kd 2, 14, .inr (.inl (fun _ => 0)))), (q13, .inl (kd 2, 15, .inr (.inl (fun _ => 0))))] ++ (((((((((((([(h0, .inr (1, [.int (nI 0), .ref q1, .ref q2, .ref q3, .ref q4, .int (nI 0), .ref q5, .ref q6, .ref q7, .ref q8, .ref q9, .ref q10, .int 0]))] ++ [(q1, .inl (kd 0, 8, .inl (fun _ => nI 0)))]) ++ [(q2, .inl (kd 1, 8, .inl (fun _ => bI false)))]) ++ [(q3, .inl (kd 3, 8, .inr (.inr (.inr (.inr (fun i => if i < 8 then some (r3 i) else none))))))]) ++ cj_seg 8 r3 (fun _ => .inl (kd 0, 40, .inl (fun _ => nI 0)))) ++ [(q4, .inl (kd 4, 8, .inr (.inr (.inr (.inr (fun i => if i < 8 then some (r4 i) else none))))))]) ++ cj_seg 8 r4 (fun _ => .inl (kd 2, 4, .inr (.inl (fun _ => 0))))) ++ [(q5, .inl (kd 0, 14, .inl (fun _ => nI 0)))]) ++ [(q6, .inl (kd 0, 14, .inl (fun _ => nI 0)))]) ++ [(q7, .inl (kd 2, 14, .inr (.inl (fun _ => 0))))]) ++ [(q8, .inl (kd 3, 41, .inr (.inr (.inr (.inr (fun i => if i < 41 then some (r8 i) else none))))))]) ++ cj_seg 41 r8 (fun _ => .inl (kd 0, 41, .inl (fun _ => nI 0)))) ++ [(q9, .inl (kd 0, 40, .inl (fun _ => nI 0)))])) H _ := V
  refine lv_aload_n hx hb dC_init_108 rfl (lv_at hl 0 rfl) ?_
  refine lv_iconst (v := nI 0) hx hb dC_init_109 (by decide) ?_
  refine cj_putf X V 4 1 rfl rfl wsC tyC tyC_ok nmC 12 (by decide) fl_C_57 rfl rfl rfl (Nat.le_of_ble_eq_true rfl) dC_init_110 (fun H locs V => ?_)
  have V : cj_V D A s.heap ([(q10, .inr (0, [.int (nI 0), .ref q11, .ref q12, .ref q13])), (q11, .inl (kd 2, 14, .inr (.inl (fun _ => 0)))), (q12, .inl (kd 2, 14, .inr (.inl (fun _ => 0)))), (q13, .inl (kd 2, 15, .inr (.inl (fun _ => 0))))] ++ (((((((((((([(h0, .inr (1, [.int (nI 0), .ref q1, .ref q2, .ref q3, .ref q4, .int (nI 0), .ref q5, .ref q6, .ref q7, .ref q8, .ref q9, .ref q10, .int (nI 0)]))] ++ [(q1, .inl (kd 0, 8, .inl (fun _ => nI 0)))]) ++ [(q2, .inl (kd 1, 8, .inl (fun _ => bI false)))]) ++ [(q3, .inl (kd 3, 8, .inr (.inr (.inr (.inr (fun i => if i < 8 then some (r3 i) else none))))))]) ++ cj_seg 8 r3 (fun _ => .inl (kd 0, 40, .inl (fun _ => nI 0)))) ++ [(q4, .inl (kd 4, 8, .inr (.inr (.inr (.inr (fun i => if i < 8 then some (r4 i) else none))))))]) ++ cj_seg 8 r4 (fun _ => .inl (kd 2, 4, .inr (.inl (fun _ => 0))))) ++ [(q5, .inl (kd 0, 14, .inl (fun _ => nI 0)))]) ++ [(q6, .inl (kd 0, 14, .inl (fun _ => nI 0)))]) ++ [(q7, .inl (kd 2, 14, .inr (.inl (fun _ => 0))))]) ++ [(q8, .inl (kd 3, 41, .inr (.inr (.inr (.inr (fun i => if i < 41 then some (r8 i) else none))))))]) ++ cj_seg 41 r8 (fun _ => .inl (kd 0, 41, .inl (fun _ => nI 0)))) ++ [(q9, .inl (kd 0, 40, .inl (fun _ => nI 0)))])) H _ := V
  have V := cj_perm (ws' := [(h0, .inr (1, [.int (nI 0), .ref q1, .ref q2, .ref q3, .ref q4, .int (nI 0), .ref q5, .ref q6, .ref q7, .ref q8, .ref q9, .ref q10, .int (nI 0)])), (q1, .inl (kd 0, 8, .inl (fun _ => nI 0))), (q2, .inl (kd 1, 8, .inl (fun _ => bI false))), (q3, .inl (kd 3, 8, .inr (.inr (.inr (.inr (fun i => if i < 8 then some (r3 i) else none)))))), (q4, .inl (kd 4, 8, .inr (.inr (.inr (.inr (fun i => if i < 8 then some (r4 i) else none)))))), (q5, .inl (kd 0, 14, .inl (fun _ => nI 0))), (q6, .inl (kd 0, 14, .inl (fun _ => nI 0))), (q7, .inl (kd 2, 14, .inr (.inl (fun _ => 0)))), (q8, .inl (kd 3, 41, .inr (.inr (.inr (.inr (fun i => if i < 41 then some (r8 i) else none)))))), (q9, .inl (kd 0, 40, .inl (fun _ => nI 0))), (q10, .inr (0, [.int (nI 0), .ref q11, .ref q12, .ref q13])), (q11, .inl (kd 2, 14, .inr (.inl (fun _ => 0)))), (q12, .inl (kd 2, 14, .inr (.inl (fun _ => 0)))), (q13, .inl (kd 2, 15, .inr (.inl (fun _ => 0))))] ++ (cj_seg 8 r3 (fun _ => .inl (kd 0, 40, .inl (fun _ => nI 0))) ++ (cj_seg 8 r4 (fun _ => .inl (kd 2, 4, .inr (.inl (fun _ => 0)))) ++ cj_seg 41 r8 (fun _ => .inl (kd 0, 41, .inl (fun _ => nI 0)))))) V [4, 5, 6, 7, 16, 25, 26, 27, 28, 70, 0, 1, 2, 3, 8, 9, 10, 11, 12, 13, 14, 15, 17, 18, 19, 20, 21, 22, 23, 24, 29, 30, 31, 32, 33, 34, 35, 36, 37, 38, 39, 40, 41, 42, 43, 44, 45, 46, 47, 48, 49, 50, 51, 52, 53, 54, 55, 56, 57, 58, 59, 60, 61, 62, 63, 64, 65, 66, 67, 68, 69] (by decide +kernel) rfl
  have V := cj_refs (g := fun i => some ((cj_adC [h0, q1, q2, q3, q4, q5, q6, q7, q8, q9, q10, q11, q12, q13] r3 r4 r8) (14 + i))) V 3 rfl (fun j hj => by rw [if_pos hj]; unfold cj_adC; rw [if_neg (by omega), if_pos (by omega), Nat.add_sub_cancel_left])
  have V := cj_refs (g := fun i => some ((cj_adC [h0, q1, q2, q3, q4, q5, q6, q7, q8, q9, q10, q11, q12, q13] r3 r4 r8) (22 + i))) V 4 rfl (fun j hj => by rw [if_pos hj]; unfold cj_adC; rw [if_neg (by omega), if_neg (by omega), if_pos (by omega), Nat.add_sub_cancel_left])
  have V := cj_refs (g := fun i => some ((cj_adC [h0, q1, q2, q3, q4, q5, q6, q7, q8, q9, q10, q11, q12, q13] r3 r4 r8) (30 + i))) V 8 rfl (fun j hj => by rw [if_pos hj]; unfold cj_adC; rw [if_neg (by omega), if_neg (by omega), if_neg (by omega), Nat.add_sub_cancel_left])
  have V : cj_V D A s.heap (wC kd (cj_adC [h0, q1, q2, q3, q4, q5, q6, q7, q8, q9, q10, q11, q12, q13] r3 r4 r8) 0 (fun _ => 0) (fun _ => false) (fun _ _ => 0) (fun _ _ => 0) 0 (fun _ => 0) (fun _ => 0) (fun _ => 0) (fun _ _ => 0) (fun _ => nI 0) 0 (fun _ => 0) (fun _ => 0) (fun _ => 0) (nI 0)) H _ := V
  refine W.widen (k := 70) (n := 2235) (Nat.le_of_ble_eq_true rfl) (Nat.le_of_ble_eq_true rfl) ?_
  exact cj_retc (cj_adC [h0, q1, q2, q3, q4, q5, q6, q7, q8, q9, q10, q11, q12, q13] r3 r4 r8) X hr V rfl dC_init_113
end
