-- ===== PART A: goes FIRST, ahead of the names: the tables' words, and 'selects' of the private methods out of them =====
/-- a private method of a class that the tables say can be made, by its rows of tables_1 -/
def lw_okq (q : MethodName × Nat) : Prop := (q.1.cls ≠ "java/lang/invoke/MethodHandle" ∧ q.1.cls ≠ "java/lang/invoke/VarHandle") ∧ Cond.instantiable q.1.cls q.2 ∈ tables_1 ∧ Cond.privateMethod q.1 ∈ tables_1 ∧ Cond.instanceMethod q.1 ∈ tables_1
theorem lw_p0 : lw_okq (⟨"CoverJoin", "isEdition", "(I)Z"⟩, 13) := ⟨⟨by decide +kernel, by decide +kernel⟩, List.mem_of_getElem? (i := 7) (by decide +kernel), List.mem_of_getElem? (i := 93) (by decide +kernel), List.mem_of_getElem? (i := 94) (by decide +kernel)⟩
theorem lw_p1 : lw_okq (⟨"CoverJoin", "addRun", "(IIJ)I"⟩, 13) := ⟨⟨by decide +kernel, by decide +kernel⟩, List.mem_of_getElem? (i := 7) (by decide +kernel), List.mem_of_getElem? (i := 112) (by decide +kernel), List.mem_of_getElem? (i := 113) (by decide +kernel)⟩
theorem lw_p2 : lw_okq (⟨"CoverJoin", "isRun", "(I)Z"⟩, 13) := ⟨⟨by decide +kernel, by decide +kernel⟩, List.mem_of_getElem? (i := 7) (by decide +kernel), List.mem_of_getElem? (i := 120) (by decide +kernel), List.mem_of_getElem? (i := 121) (by decide +kernel)⟩
theorem lw_p3 : lw_okq (⟨"CoverJoin", "isLine", "(II)Z"⟩, 13) := ⟨⟨by decide +kernel, by decide +kernel⟩, List.mem_of_getElem? (i := 7) (by decide +kernel), List.mem_of_getElem? (i := 124) (by decide +kernel), List.mem_of_getElem? (i := 125) (by decide +kernel)⟩
theorem lw_p4 : lw_okq (⟨"CoverJoin", "hitsLine", "(II)Z"⟩, 13) := ⟨⟨by decide +kernel, by decide +kernel⟩, List.mem_of_getElem? (i := 7) (by decide +kernel), List.mem_of_getElem? (i := 128) (by decide +kernel), List.mem_of_getElem? (i := 129) (by decide +kernel)⟩
theorem lw_p5 : lw_okq (⟨"CoverJoin", "compare", "(II)V"⟩, 13) := ⟨⟨by decide +kernel, by decide +kernel⟩, List.mem_of_getElem? (i := 7) (by decide +kernel), List.mem_of_getElem? (i := 140) (by decide +kernel), List.mem_of_getElem? (i := 141) (by decide +kernel)⟩
theorem lw_p6 : lw_okq (⟨"CoverJoin", "countPairs", "(II)V"⟩, 13) := ⟨⟨by decide +kernel, by decide +kernel⟩, List.mem_of_getElem? (i := 7) (by decide +kernel), List.mem_of_getElem? (i := 144) (by decide +kernel), List.mem_of_getElem? (i := 145) (by decide +kernel)⟩
theorem lw_p7 : lw_okq (⟨"CoverJoin", "choosePairs", "(II)V"⟩, 13) := ⟨⟨by decide +kernel, by decide +kernel⟩, List.mem_of_getElem? (i := 7) (by decide +kernel), List.mem_of_getElem? (i := 151) (by decide +kernel), List.mem_of_getElem? (i := 152) (by decide +kernel)⟩
theorem lw_p8 : lw_okq (⟨"CoverJoin", "placeOf", "(III)I"⟩, 13) := ⟨⟨by decide +kernel, by decide +kernel⟩, List.mem_of_getElem? (i := 7) (by decide +kernel), List.mem_of_getElem? (i := 155) (by decide +kernel), List.mem_of_getElem? (i := 156) (by decide +kernel)⟩
theorem lw_p9 : lw_okq (⟨"CoverJoin", "pairsOf", "(IJ)J"⟩, 13) := ⟨⟨by decide +kernel, by decide +kernel⟩, List.mem_of_getElem? (i := 7) (by decide +kernel), List.mem_of_getElem? (i := 159) (by decide +kernel), List.mem_of_getElem? (i := 160) (by decide +kernel)⟩
theorem lw_p10 : lw_okq (⟨"CoverJoin", "hitShare", "(II)I"⟩, 13) := ⟨⟨by decide +kernel, by decide +kernel⟩, List.mem_of_getElem? (i := 7) (by decide +kernel), List.mem_of_getElem? (i := 178) (by decide +kernel), List.mem_of_getElem? (i := 179) (by decide +kernel)⟩
theorem lw_p11 : lw_okq (⟨"CoverJoin", "wholeShare", "(II)I"⟩, 13) := ⟨⟨by decide +kernel, by decide +kernel⟩, List.mem_of_getElem? (i := 7) (by decide +kernel), List.mem_of_getElem? (i := 188) (by decide +kernel), List.mem_of_getElem? (i := 189) (by decide +kernel)⟩
theorem lw_p12 : lw_okq (⟨"CoverJoin", "ungenerated", "(I)J"⟩, 13) := ⟨⟨by decide +kernel, by decide +kernel⟩, List.mem_of_getElem? (i := 7) (by decide +kernel), List.mem_of_getElem? (i := 196) (by decide +kernel), List.mem_of_getElem? (i := 197) (by decide +kernel)⟩
theorem lw_p13 : lw_okq (⟨"CoverJoin", "gatherCandidates", "(I)V"⟩, 13) := ⟨⟨by decide +kernel, by decide +kernel⟩, List.mem_of_getElem? (i := 7) (by decide +kernel), List.mem_of_getElem? (i := 216) (by decide +kernel), List.mem_of_getElem? (i := 217) (by decide +kernel)⟩
theorem lw_p14 : lw_okq (⟨"CoverJoin", "weightOf", "(I)J"⟩, 13) := ⟨⟨by decide +kernel, by decide +kernel⟩, List.mem_of_getElem? (i := 7) (by decide +kernel), List.mem_of_getElem? (i := 220) (by decide +kernel), List.mem_of_getElem? (i := 221) (by decide +kernel)⟩
theorem lw_p15 : lw_okq (⟨"CoverJoinModel", "newRun", "(IIJ)I"⟩, 13) := ⟨⟨by decide +kernel, by decide +kernel⟩, List.mem_of_getElem? (i := 238) (by decide +kernel), List.mem_of_getElem? (i := 304) (by decide +kernel), List.mem_of_getElem? (i := 305) (by decide +kernel)⟩
def lw_privs_1 : List (MethodName × Nat) := [(⟨"CoverJoin", "isEdition", "(I)Z"⟩, 13), (⟨"CoverJoin", "addRun", "(IIJ)I"⟩, 13), (⟨"CoverJoin", "isRun", "(I)Z"⟩, 13), (⟨"CoverJoin", "isLine", "(II)Z"⟩, 13), (⟨"CoverJoin", "hitsLine", "(II)Z"⟩, 13), (⟨"CoverJoin", "compare", "(II)V"⟩, 13), (⟨"CoverJoin", "countPairs", "(II)V"⟩, 13), (⟨"CoverJoin", "choosePairs", "(II)V"⟩, 13), (⟨"CoverJoin", "placeOf", "(III)I"⟩, 13), (⟨"CoverJoin", "pairsOf", "(IJ)J"⟩, 13), (⟨"CoverJoin", "hitShare", "(II)I"⟩, 13), (⟨"CoverJoin", "wholeShare", "(II)I"⟩, 13), (⟨"CoverJoin", "ungenerated", "(I)J"⟩, 13), (⟨"CoverJoin", "gatherCandidates", "(I)V"⟩, 13), (⟨"CoverJoin", "weightOf", "(I)J"⟩, 13), (⟨"CoverJoinModel", "newRun", "(IIJ)I"⟩, 13)]
theorem lw_r1 : ∀ q ∈ lw_privs_1, lw_okq q := List.forall_mem_cons.mpr ⟨lw_p0, List.forall_mem_cons.mpr ⟨lw_p1, List.forall_mem_cons.mpr ⟨lw_p2, List.forall_mem_cons.mpr ⟨lw_p3, List.forall_mem_cons.mpr ⟨lw_p4, List.forall_mem_cons.mpr ⟨lw_p5, List.forall_mem_cons.mpr ⟨lw_p6, List.forall_mem_cons.mpr ⟨lw_p7, List.forall_mem_cons.mpr ⟨lw_p8, List.forall_mem_cons.mpr ⟨lw_p9, List.forall_mem_cons.mpr ⟨lw_p10, List.forall_mem_cons.mpr ⟨lw_p11, List.forall_mem_cons.mpr ⟨lw_p12, List.forall_mem_cons.mpr ⟨lw_p13, List.forall_mem_cons.mpr ⟨lw_p14, List.forall_mem_cons.mpr ⟨lw_p15, fun _ h => absurd h List.not_mem_nil⟩⟩⟩⟩⟩⟩⟩⟩⟩⟩⟩⟩⟩⟩⟩⟩
theorem lw_p16 : lw_okq (⟨"CoverJoinModel", "isLine", "(II)Z"⟩, 13) := ⟨⟨by decide +kernel, by decide +kernel⟩, List.mem_of_getElem? (i := 238) (by decide +kernel), List.mem_of_getElem? (i := 312) (by decide +kernel), List.mem_of_getElem? (i := 313) (by decide +kernel)⟩
theorem lw_p17 : lw_okq (⟨"CoverJoinModel", "isHit", "(II)Z"⟩, 13) := ⟨⟨by decide +kernel, by decide +kernel⟩, List.mem_of_getElem? (i := 238) (by decide +kernel), List.mem_of_getElem? (i := 316) (by decide +kernel), List.mem_of_getElem? (i := 317) (by decide +kernel)⟩
theorem lw_p18 : lw_okq (⟨"CoverJoinModel", "compare", "(II)V"⟩, 13) := ⟨⟨by decide +kernel, by decide +kernel⟩, List.mem_of_getElem? (i := 238) (by decide +kernel), List.mem_of_getElem? (i := 328) (by decide +kernel), List.mem_of_getElem? (i := 329) (by decide +kernel)⟩
theorem lw_p19 : lw_okq (⟨"CoverJoinModel", "isAlike", "(IIII)Z"⟩, 13) := ⟨⟨by decide +kernel, by decide +kernel⟩, List.mem_of_getElem? (i := 238) (by decide +kernel), List.mem_of_getElem? (i := 332) (by decide +kernel), List.mem_of_getElem? (i := 333) (by decide +kernel)⟩
theorem lw_p20 : lw_okq (⟨"CoverJoinModel", "shareOf", "(IIZ)I"⟩, 13) := ⟨⟨by decide +kernel, by decide +kernel⟩, List.mem_of_getElem? (i := 238) (by decide +kernel), List.mem_of_getElem? (i := 348) (by decide +kernel), List.mem_of_getElem? (i := 349) (by decide +kernel)⟩
def lw_privs_2 : List (MethodName × Nat) := [(⟨"CoverJoinModel", "isLine", "(II)Z"⟩, 13), (⟨"CoverJoinModel", "isHit", "(II)Z"⟩, 13), (⟨"CoverJoinModel", "compare", "(II)V"⟩, 13), (⟨"CoverJoinModel", "isAlike", "(IIII)Z"⟩, 13), (⟨"CoverJoinModel", "shareOf", "(IIZ)I"⟩, 13)]
theorem lw_r2 : ∀ q ∈ lw_privs_2, lw_okq q := List.forall_mem_cons.mpr ⟨lw_p16, List.forall_mem_cons.mpr ⟨lw_p17, List.forall_mem_cons.mpr ⟨lw_p18, List.forall_mem_cons.mpr ⟨lw_p19, List.forall_mem_cons.mpr ⟨lw_p20, fun _ h => absurd h List.not_mem_nil⟩⟩⟩⟩⟩
def lw_privs : List (MethodName × Nat) := lw_privs_1 ++ (lw_privs_2)
def lw_tbl : List Cond := k2_sels lw_privs ++ tables_1
theorem lw_privs_ok : ∀ q ∈ lw_privs, lw_okq q := by
  show ∀ q ∈ lw_privs_1 ++ (lw_privs_2), lw_okq q
  exact List.forall_mem_append.mpr ⟨lw_r1, lw_r2⟩

abbrev RC : String := "CoverJoin"
abbrev RD : String := "CoverJoin$Candidates"
abbrev RM : String := "CoverJoinModel"
abbrev RJ : String := "java/lang/Long"
abbrev RQ : String := "java/lang/Math"
abbrev RL : String := "CoverJoinLaw"
abbrev RO : String := "java/lang/Object"
def TD : u_T := fun k => match k with
  | 0 => ("CoverJoin$Candidates", "count", "I", false)
  | 1 => ("CoverJoin$Candidates", "hits", "[J", true)
  | 2 => ("CoverJoin$Candidates", "weights", "[J", true)
  | _ => ("CoverJoin$Candidates", "reach", "[J", true)
def tyD : Nat → FieldType := fun k => match k with
  | 0 => .int
  | 1 => .array .long
  | 2 => .array .long
  | _ => .array .long
theorem nmD : ∀ a, a < 4 → ∀ b, b < 4 → a ≠ b → (TD a).2.1 ≠ (TD b).2.1 := by decide +kernel
theorem tyD_ok : ∀ k, k < 4 → parseFieldDescriptor (TD k).2.2.1 = some (tyD k) := by decide +kernel
def TC : u_T := fun k => match k with
  | 0 => ("CoverJoin", "editionCount", "I", false)
  | 1 => ("CoverJoin", "lineCounts", "[I", true)
  | 2 => ("CoverJoin", "closed", "[Z", true)
  | 3 => ("CoverJoin", "contents", "[[I", true)
  | 4 => ("CoverJoin", "owned", "[[J", true)
  | 5 => ("CoverJoin", "runCount", "I", false)
  | 6 => ("CoverJoin", "runEditions", "[I", true)
  | 7 => ("CoverJoin", "runCosts", "[I", true)
  | 8 => ("CoverJoin", "runHits", "[J", true)
  | 9 => ("CoverJoin", "mostPairs", "[[I", true)
  | 10 => ("CoverJoin", "pairs", "[I", true)
  | 11 => ("CoverJoin", "candidates", "LCoverJoin$Candidates;", true)
  | _ => ("CoverJoin", "chosenRuns", "I", false)
def tyC : Nat → FieldType := fun k => match k with
  | 0 => .int
  | 1 => .array .int
  | 2 => .array .boolean
  | 3 => .array (.array .int)
  | 4 => .array (.array .long)
  | 5 => .int
  | 6 => .array .int
  | 7 => .array .int
  | 8 => .array .long
  | 9 => .array (.array .int)
  | 10 => .array .int
  | 11 => .object "CoverJoin$Candidates"
  | _ => .int
theorem nmC : ∀ a, a < 13 → ∀ b, b < 13 → a ≠ b → (TC a).2.1 ≠ (TC b).2.1 := by decide +kernel
theorem tyC_ok : ∀ k, k < 13 → parseFieldDescriptor (TC k).2.2.1 = some (tyC k) := by decide +kernel
def TM : u_T := fun k => match k with
  | 0 => ("CoverJoinModel", "editions", "I", false)
  | 1 => ("CoverJoinModel", "runs", "I", false)
  | 2 => ("CoverJoinModel", "chosen", "I", false)
  | 3 => ("CoverJoinModel", "lines", "[I", true)
  | 4 => ("CoverJoinModel", "content", "[I", true)
  | 5 => ("CoverJoinModel", "owner", "[I", true)
  | 6 => ("CoverJoinModel", "generated", "[Z", true)
  | 7 => ("CoverJoinModel", "isFast", "[Z", true)
  | 8 => ("CoverJoinModel", "editionOf", "[I", true)
  | 9 => ("CoverJoinModel", "cost", "[I", true)
  | 10 => ("CoverJoinModel", "hits", "[J", true)
  | 11 => ("CoverJoinModel", "longest", "[I", true)
  | _ => ("CoverJoinModel", "pair", "[I", true)
def tyM : Nat → FieldType := fun k => match k with
  | 0 => .int
  | 1 => .int
  | 2 => .int
  | 3 => .array .int
  | 4 => .array .int
  | 5 => .array .int
  | 6 => .array .boolean
  | 7 => .array .boolean
  | 8 => .array .int
  | 9 => .array .int
  | 10 => .array .long
  | 11 => .array .int
  | _ => .array .int
theorem nmM : ∀ a, a < 13 → ∀ b, b < 13 → a ≠ b → (TM a).2.1 ≠ (TM b).2.1 := by decide +kernel
theorem tyM_ok : ∀ k, k < 13 → parseFieldDescriptor (TM k).2.2.1 = some (tyM k) := by decide +kernel
abbrev cC_init : ByteArray := prog_1_method_1_code
abbrev yC_init : MethodName := ⟨"CoverJoin", "<init>", "()V"⟩
abbrev cD_init : ByteArray := prog_2_method_1_code
abbrev yD_init : MethodName := ⟨"CoverJoin$Candidates", "<init>", "()V"⟩
abbrev cC_edition : ByteArray := prog_1_method_2_code
abbrev yC_edition : MethodName := ⟨"CoverJoin", "edition", "()I"⟩
abbrev cC_line : ByteArray := prog_1_method_3_code
abbrev yC_line : MethodName := ⟨"CoverJoin", "line", "(IIIZ)I"⟩
abbrev cC_isEdition : ByteArray := prog_1_method_18_code
abbrev yC_isEdition : MethodName := ⟨"CoverJoin", "isEdition", "(I)Z"⟩
abbrev cC_isOwner : ByteArray := prog_1_method_21_code
abbrev yC_isOwner : MethodName := ⟨"CoverJoin", "isOwner", "(I)Z"⟩
abbrev cC_bitOf : ByteArray := prog_1_method_22_code
abbrev yC_bitOf : MethodName := ⟨"CoverJoin", "bitOf", "(I)J"⟩
abbrev cC_lines : ByteArray := prog_1_method_4_code
abbrev yC_lines : MethodName := ⟨"CoverJoin", "lines", "(I)I"⟩
abbrev cC_run : ByteArray := prog_1_method_5_code
abbrev yC_run : MethodName := ⟨"CoverJoin", "run", "(II)I"⟩
abbrev cC_addRun : ByteArray := prog_1_method_25_code
abbrev yC_addRun : MethodName := ⟨"CoverJoin", "addRun", "(IIJ)I"⟩
abbrev cC_hit : ByteArray := prog_1_method_6_code
abbrev yC_hit : MethodName := ⟨"CoverJoin", "hit", "(II)Z"⟩
abbrev cC_isRun : ByteArray := prog_1_method_19_code
abbrev yC_isRun : MethodName := ⟨"CoverJoin", "isRun", "(I)Z"⟩
abbrev cC_isLine : ByteArray := prog_1_method_20_code
abbrev yC_isLine : MethodName := ⟨"CoverJoin", "isLine", "(II)Z"⟩
abbrev cC_hitsLine : ByteArray := prog_1_method_24_code
abbrev yC_hitsLine : MethodName := ⟨"CoverJoin", "hitsLine", "(II)Z"⟩
abbrev cC_covered : ByteArray := prog_1_method_7_code
abbrev yC_covered : MethodName := ⟨"CoverJoin", "covered", "(II)Z"⟩
abbrev cC_map : ByteArray := prog_1_method_8_code
abbrev yC_map : MethodName := ⟨"CoverJoin", "map", "(II)I"⟩
abbrev cC_compare : ByteArray := prog_1_method_29_code
abbrev yC_compare : MethodName := ⟨"CoverJoin", "compare", "(II)V"⟩
abbrev cC_countPairs : ByteArray := prog_1_method_30_code
abbrev yC_countPairs : MethodName := ⟨"CoverJoin", "countPairs", "(II)V"⟩
abbrev cC_choosePairs : ByteArray := prog_1_method_31_code
abbrev yC_choosePairs : MethodName := ⟨"CoverJoin", "choosePairs", "(II)V"⟩
abbrev cC_placeOf : ByteArray := prog_1_method_32_code
abbrev yC_placeOf : MethodName := ⟨"CoverJoin", "placeOf", "(III)I"⟩
abbrev cC_pairsOf : ByteArray := prog_1_method_33_code
abbrev yC_pairsOf : MethodName := ⟨"CoverJoin", "pairsOf", "(IJ)J"⟩
abbrev cC_join : ByteArray := prog_1_method_9_code
abbrev yC_join : MethodName := ⟨"CoverJoin", "join", "(II)I"⟩
abbrev cC_same : ByteArray := prog_1_method_10_code
abbrev yC_same : MethodName := ⟨"CoverJoin", "same", "(III)I"⟩
abbrev cC_share : ByteArray := prog_1_method_11_code
abbrev yC_share : MethodName := ⟨"CoverJoin", "share", "(IIZ)I"⟩
abbrev cC_hitShare : ByteArray := prog_1_method_27_code
abbrev yC_hitShare : MethodName := ⟨"CoverJoin", "hitShare", "(II)I"⟩
abbrev cJ_bitCount : ByteArray := prog_5_method_50_code
abbrev yJ_bitCount : MethodName := ⟨"java/lang/Long", "bitCount", "(J)I"⟩
abbrev cC_wholeShare : ByteArray := prog_1_method_26_code
abbrev yC_wholeShare : MethodName := ⟨"CoverJoin", "wholeShare", "(II)I"⟩
abbrev cC_fresh : ByteArray := prog_1_method_12_code
abbrev yC_fresh : MethodName := ⟨"CoverJoin", "fresh", "(IIZ)I"⟩
abbrev cC_ungenerated : ByteArray := prog_1_method_28_code
abbrev yC_ungenerated : MethodName := ⟨"CoverJoin", "ungenerated", "(I)J"⟩
abbrev cC_firstBits : ByteArray := prog_1_method_23_code
abbrev yC_firstBits : MethodName := ⟨"CoverJoin", "firstBits", "(I)J"⟩
abbrev cC_falls : ByteArray := prog_1_method_13_code
abbrev yC_falls : MethodName := ⟨"CoverJoin", "falls", "(III)I"⟩
abbrev cC_dead : ByteArray := prog_1_method_14_code
abbrev yC_dead : MethodName := ⟨"CoverJoin", "dead", "(I)I"⟩
abbrev cC_least : ByteArray := prog_1_method_15_code
abbrev yC_least : MethodName := ⟨"CoverJoin", "least", "(I)I"⟩
abbrev cC_gatherCandidates : ByteArray := prog_1_method_34_code
abbrev yC_gatherCandidates : MethodName := ⟨"CoverJoin", "gatherCandidates", "(I)V"⟩
abbrev cC_weightOf : ByteArray := prog_1_method_35_code
abbrev yC_weightOf : MethodName := ⟨"CoverJoin", "weightOf", "(I)J"⟩
abbrev cC_lightest : ByteArray := prog_1_method_36_code
abbrev yC_lightest : MethodName := ⟨"CoverJoin", "lightest", "(LCoverJoin$Candidates;IJJJ)J"⟩
abbrev cC_chosen : ByteArray := prog_1_method_16_code
abbrev yC_chosen : MethodName := ⟨"CoverJoin", "chosen", "()I"⟩
abbrev cC_about : ByteArray := prog_1_method_17_code
abbrev yC_about : MethodName := ⟨"CoverJoin", "about", "(II)I"⟩
abbrev cM_init : ByteArray := prog_4_method_1_code
abbrev yM_init : MethodName := ⟨"CoverJoinModel", "<init>", "()V"⟩
abbrev cM_edition : ByteArray := prog_4_method_3_code
abbrev yM_edition : MethodName := ⟨"CoverJoinModel", "edition", "()I"⟩
abbrev cM_line : ByteArray := prog_4_method_4_code
abbrev yM_line : MethodName := ⟨"CoverJoinModel", "line", "(IIIZ)I"⟩
abbrev cM_in : ByteArray := prog_4_method_2_code
abbrev yM_in : MethodName := ⟨"CoverJoinModel", "in", "(II)Z"⟩
abbrev cM_lines : ByteArray := prog_4_method_5_code
abbrev yM_lines : MethodName := ⟨"CoverJoinModel", "lines", "(I)I"⟩
abbrev cM_run : ByteArray := prog_4_method_7_code
abbrev yM_run : MethodName := ⟨"CoverJoinModel", "run", "(II)I"⟩
abbrev cM_newRun : ByteArray := prog_4_method_6_code
abbrev yM_newRun : MethodName := ⟨"CoverJoinModel", "newRun", "(IIJ)I"⟩
abbrev cM_hit : ByteArray := prog_4_method_10_code
abbrev yM_hit : MethodName := ⟨"CoverJoinModel", "hit", "(II)Z"⟩
abbrev cM_isLine : ByteArray := prog_4_method_9_code
abbrev yM_isLine : MethodName := ⟨"CoverJoinModel", "isLine", "(II)Z"⟩
abbrev cM_isHit : ByteArray := prog_4_method_8_code
abbrev yM_isHit : MethodName := ⟨"CoverJoinModel", "isHit", "(II)Z"⟩
abbrev cM_covered : ByteArray := prog_4_method_11_code
abbrev yM_covered : MethodName := ⟨"CoverJoinModel", "covered", "(II)Z"⟩
abbrev cM_same : ByteArray := prog_4_method_14_code
abbrev yM_same : MethodName := ⟨"CoverJoinModel", "same", "(III)I"⟩
abbrev cM_compare : ByteArray := prog_4_method_13_code
abbrev yM_compare : MethodName := ⟨"CoverJoinModel", "compare", "(II)V"⟩
abbrev cM_isAlike : ByteArray := prog_4_method_12_code
abbrev yM_isAlike : MethodName := ⟨"CoverJoinModel", "isAlike", "(IIII)Z"⟩
abbrev cM_map : ByteArray := prog_4_method_15_code
abbrev yM_map : MethodName := ⟨"CoverJoinModel", "map", "(II)I"⟩
abbrev cM_join : ByteArray := prog_4_method_16_code
abbrev yM_join : MethodName := ⟨"CoverJoinModel", "join", "(II)I"⟩
abbrev cM_share : ByteArray := prog_4_method_18_code
abbrev yM_share : MethodName := ⟨"CoverJoinModel", "share", "(IIZ)I"⟩
abbrev cM_shareOf : ByteArray := prog_4_method_17_code
abbrev yM_shareOf : MethodName := ⟨"CoverJoinModel", "shareOf", "(IIZ)I"⟩
abbrev cM_fresh : ByteArray := prog_4_method_19_code
abbrev yM_fresh : MethodName := ⟨"CoverJoinModel", "fresh", "(IIZ)I"⟩
abbrev cM_falls : ByteArray := prog_4_method_20_code
abbrev yM_falls : MethodName := ⟨"CoverJoinModel", "falls", "(III)I"⟩
abbrev cM_dead : ByteArray := prog_4_method_21_code
abbrev yM_dead : MethodName := ⟨"CoverJoinModel", "dead", "(I)I"⟩
abbrev cM_least : ByteArray := prog_4_method_23_code
abbrev yM_least : MethodName := ⟨"CoverJoinModel", "least", "(I)I"⟩
abbrev cM_ones : ByteArray := prog_4_method_22_code
abbrev yM_ones : MethodName := ⟨"CoverJoinModel", "ones", "(I)I"⟩
abbrev cM_chosen : ByteArray := prog_4_method_24_code
abbrev yM_chosen : MethodName := ⟨"CoverJoinModel", "chosen", "()I"⟩
abbrev cM_about : ByteArray := prog_4_method_25_code
abbrev yM_about : MethodName := ⟨"CoverJoinModel", "about", "(II)I"⟩
abbrev cL_law : ByteArray := code
abbrev yL_law : MethodName := ⟨"CoverJoinLaw", "law", "([I)Z"⟩
/-- the words that every contract here takes: those of the tables that stay -/
def cw_T : List Cond := lw_tbl.filter goodWord
theorem cw_mem {w : Cond} (h1 : w ∈ lw_tbl) (h2 : goodWord w = true) : w ∈ cw_T := List.mem_filter.mpr ⟨h1, h2⟩
theorem cw_lw {w : Cond} (h : w ∈ cw_T) : w ∈ lw_tbl := (List.mem_filter.mp h).1
theorem cw_good {w : Cond} (h : w ∈ cw_T) : (w.onTables && w.keeps) = true ∨ ∃ ty, w = .arrayClass ty := good_of_word (List.mem_filter.mp h).2
theorem se_C_isEdition : Cond.selects RC yC_isEdition yC_isEdition ∈ cw_T := cw_mem (List.mem_of_getElem? (i := 0) (by decide +kernel)) (by decide +kernel)
theorem se_C_addRun : Cond.selects RC yC_addRun yC_addRun ∈ cw_T := cw_mem (List.mem_of_getElem? (i := 1) (by decide +kernel)) (by decide +kernel)
theorem se_C_isRun : Cond.selects RC yC_isRun yC_isRun ∈ cw_T := cw_mem (List.mem_of_getElem? (i := 2) (by decide +kernel)) (by decide +kernel)
theorem se_C_isLine : Cond.selects RC yC_isLine yC_isLine ∈ cw_T := cw_mem (List.mem_of_getElem? (i := 3) (by decide +kernel)) (by decide +kernel)
theorem se_C_hitsLine : Cond.selects RC yC_hitsLine yC_hitsLine ∈ cw_T := cw_mem (List.mem_of_getElem? (i := 4) (by decide +kernel)) (by decide +kernel)
theorem se_C_compare : Cond.selects RC yC_compare yC_compare ∈ cw_T := cw_mem (List.mem_of_getElem? (i := 5) (by decide +kernel)) (by decide +kernel)
theorem se_C_countPairs : Cond.selects RC yC_countPairs yC_countPairs ∈ cw_T := cw_mem (List.mem_of_getElem? (i := 6) (by decide +kernel)) (by decide +kernel)
theorem se_C_choosePairs : Cond.selects RC yC_choosePairs yC_choosePairs ∈ cw_T := cw_mem (List.mem_of_getElem? (i := 7) (by decide +kernel)) (by decide +kernel)
theorem se_C_placeOf : Cond.selects RC yC_placeOf yC_placeOf ∈ cw_T := cw_mem (List.mem_of_getElem? (i := 8) (by decide +kernel)) (by decide +kernel)
theorem se_C_pairsOf : Cond.selects RC yC_pairsOf yC_pairsOf ∈ cw_T := cw_mem (List.mem_of_getElem? (i := 9) (by decide +kernel)) (by decide +kernel)
theorem se_C_hitShare : Cond.selects RC yC_hitShare yC_hitShare ∈ cw_T := cw_mem (List.mem_of_getElem? (i := 10) (by decide +kernel)) (by decide +kernel)
theorem se_C_wholeShare : Cond.selects RC yC_wholeShare yC_wholeShare ∈ cw_T := cw_mem (List.mem_of_getElem? (i := 11) (by decide +kernel)) (by decide +kernel)
theorem se_C_ungenerated : Cond.selects RC yC_ungenerated yC_ungenerated ∈ cw_T := cw_mem (List.mem_of_getElem? (i := 12) (by decide +kernel)) (by decide +kernel)
theorem se_C_gatherCandidates : Cond.selects RC yC_gatherCandidates yC_gatherCandidates ∈ cw_T := cw_mem (List.mem_of_getElem? (i := 13) (by decide +kernel)) (by decide +kernel)
theorem se_C_weightOf : Cond.selects RC yC_weightOf yC_weightOf ∈ cw_T := cw_mem (List.mem_of_getElem? (i := 14) (by decide +kernel)) (by decide +kernel)
theorem se_M_newRun : Cond.selects RM yM_newRun yM_newRun ∈ cw_T := cw_mem (List.mem_of_getElem? (i := 15) (by decide +kernel)) (by decide +kernel)
theorem se_M_isLine : Cond.selects RM yM_isLine yM_isLine ∈ cw_T := cw_mem (List.mem_of_getElem? (i := 16) (by decide +kernel)) (by decide +kernel)
theorem se_M_isHit : Cond.selects RM yM_isHit yM_isHit ∈ cw_T := cw_mem (List.mem_of_getElem? (i := 17) (by decide +kernel)) (by decide +kernel)
theorem se_M_compare : Cond.selects RM yM_compare yM_compare ∈ cw_T := cw_mem (List.mem_of_getElem? (i := 18) (by decide +kernel)) (by decide +kernel)
theorem se_M_isAlike : Cond.selects RM yM_isAlike yM_isAlike ∈ cw_T := cw_mem (List.mem_of_getElem? (i := 19) (by decide +kernel)) (by decide +kernel)
theorem se_M_shareOf : Cond.selects RM yM_shareOf yM_shareOf ∈ cw_T := cw_mem (List.mem_of_getElem? (i := 20) (by decide +kernel)) (by decide +kernel)
theorem in_L : Cond.initialized RL ∈ cw_T := cw_mem (List.mem_of_getElem? (i := 21) (by decide +kernel)) (by decide +kernel)
theorem in_C : Cond.initialized RC ∈ cw_T := cw_mem (List.mem_of_getElem? (i := 22) (by decide +kernel)) (by decide +kernel)
theorem in_D : Cond.initialized RD ∈ cw_T := cw_mem (List.mem_of_getElem? (i := 23) (by decide +kernel)) (by decide +kernel)
theorem in_M : Cond.initialized RM ∈ cw_T := cw_mem (List.mem_of_getElem? (i := 24) (by decide +kernel)) (by decide +kernel)
theorem in_Q : Cond.initialized RQ ∈ cw_T := cw_mem (List.mem_of_getElem? (i := 25) (by decide +kernel)) (by decide +kernel)
theorem in_J : Cond.initialized RJ ∈ cw_T := cw_mem (List.mem_of_getElem? (i := 26) (by decide +kernel)) (by decide +kernel)
theorem cl_L_7 : Cond.classLink RL 7 "CoverJoin" ∈ cw_T := cw_mem (List.mem_of_getElem? (i := 27) (by decide +kernel)) (by decide +kernel)
theorem it_C : Cond.instantiable RC 13 ∈ cw_T := cw_mem (List.mem_of_getElem? (i := 28) (by decide +kernel)) (by decide +kernel)
theorem ml_L_9 : Cond.methodLink RL 9 yC_init ∈ cw_T := cw_mem (List.mem_of_getElem? (i := 29) (by decide +kernel)) (by decide +kernel)
theorem im_C_init : Cond.instanceMethod yC_init ∈ cw_T := cw_mem (List.mem_of_getElem? (i := 30) (by decide +kernel)) (by decide +kernel)
theorem cd_C_init : Cond.code yC_init prog_1_method_1_code 1 none ∈ cw_T := cw_mem (List.mem_of_getElem? (i := 31) (by decide +kernel)) (by decide +kernel)
theorem ml_C_3 : Cond.methodLink RC 3 ⟨"java/lang/Object", "<init>", "()V"⟩ ∈ cw_T := cw_mem (List.mem_of_getElem? (i := 32) (by decide +kernel)) (by decide +kernel)
theorem im_O_init : Cond.instanceMethod ⟨"java/lang/Object", "<init>", "()V"⟩ ∈ cw_T := cw_mem (List.mem_of_getElem? (i := 33) (by decide +kernel)) (by decide +kernel)
theorem cd_O_init : Cond.code ⟨"java/lang/Object", "<init>", "()V"⟩ object_method_1_code 1 none ∈ cw_T := cw_mem (List.mem_of_getElem? (i := 34) (by decide +kernel)) (by decide +kernel)
theorem cl_C_21 : Cond.classLink RC 21 "[[I" ∈ cw_T := cw_mem (List.mem_of_getElem? (i := 35) (by decide +kernel)) (by decide +kernel)
theorem cl_C_26 : Cond.classLink RC 26 "[[J" ∈ cw_T := cw_mem (List.mem_of_getElem? (i := 37) (by decide +kernel)) (by decide +kernel)
theorem cl_C_50 : Cond.classLink RC 50 "CoverJoin$Candidates" ∈ cw_T := cw_mem (List.mem_of_getElem? (i := 39) (by decide +kernel)) (by decide +kernel)
theorem it_D : Cond.instantiable RD 4 ∈ cw_T := cw_mem (List.mem_of_getElem? (i := 40) (by decide +kernel)) (by decide +kernel)
theorem ml_C_52 : Cond.methodLink RC 52 yD_init ∈ cw_T := cw_mem (List.mem_of_getElem? (i := 41) (by decide +kernel)) (by decide +kernel)
theorem im_D_init : Cond.instanceMethod yD_init ∈ cw_T := cw_mem (List.mem_of_getElem? (i := 42) (by decide +kernel)) (by decide +kernel)
theorem cd_D_init : Cond.code yD_init prog_2_method_1_code 1 none ∈ cw_T := cw_mem (List.mem_of_getElem? (i := 43) (by decide +kernel)) (by decide +kernel)
theorem ml_D_3 : Cond.methodLink RD 3 ⟨"java/lang/Object", "<init>", "()V"⟩ ∈ cw_T := cw_mem (List.mem_of_getElem? (i := 44) (by decide +kernel)) (by decide +kernel)
theorem fl_D_9 : Cond.fieldLink RD 9 "CoverJoin$Candidates" "count" "I" ∈ cw_T := cw_mem (List.mem_of_getElem? (i := 45) (by decide +kernel)) (by decide +kernel)
theorem fl_C_157 : Cond.fieldLink RC 157 "CoverJoin$Candidates" "count" "I" ∈ cw_T := cw_mem (List.mem_of_getElem? (i := 46) (by decide +kernel)) (by decide +kernel)
theorem fl_D_15 : Cond.fieldLink RD 15 "CoverJoin$Candidates" "hits" "[J" ∈ cw_T := cw_mem (List.mem_of_getElem? (i := 47) (by decide +kernel)) (by decide +kernel)
theorem fl_C_148 : Cond.fieldLink RC 148 "CoverJoin$Candidates" "hits" "[J" ∈ cw_T := cw_mem (List.mem_of_getElem? (i := 48) (by decide +kernel)) (by decide +kernel)
theorem fl_D_19 : Cond.fieldLink RD 19 "CoverJoin$Candidates" "weights" "[J" ∈ cw_T := cw_mem (List.mem_of_getElem? (i := 49) (by decide +kernel)) (by decide +kernel)
theorem fl_C_151 : Cond.fieldLink RC 151 "CoverJoin$Candidates" "weights" "[J" ∈ cw_T := cw_mem (List.mem_of_getElem? (i := 50) (by decide +kernel)) (by decide +kernel)
theorem fl_D_22 : Cond.fieldLink RD 22 "CoverJoin$Candidates" "reach" "[J" ∈ cw_T := cw_mem (List.mem_of_getElem? (i := 51) (by decide +kernel)) (by decide +kernel)
theorem fl_C_124 : Cond.fieldLink RC 124 "CoverJoin$Candidates" "reach" "[J" ∈ cw_T := cw_mem (List.mem_of_getElem? (i := 52) (by decide +kernel)) (by decide +kernel)
theorem ac_int : Cond.arrayClass .int ∈ cw_T := cw_mem (List.mem_of_getElem? (i := 62) (by decide +kernel)) (by decide +kernel)
theorem ac_boolean : Cond.arrayClass .boolean ∈ cw_T := cw_mem (List.mem_of_getElem? (i := 63) (by decide +kernel)) (by decide +kernel)
theorem ac_long : Cond.arrayClass .long ∈ cw_T := cw_mem (List.mem_of_getElem? (i := 64) (by decide +kernel)) (by decide +kernel)
theorem fl_C_9 : Cond.fieldLink RC 9 "CoverJoin" "editionCount" "I" ∈ cw_T := cw_mem (List.mem_of_getElem? (i := 65) (by decide +kernel)) (by decide +kernel)
theorem fl_C_13 : Cond.fieldLink RC 13 "CoverJoin" "lineCounts" "[I" ∈ cw_T := cw_mem (List.mem_of_getElem? (i := 66) (by decide +kernel)) (by decide +kernel)
theorem fl_C_17 : Cond.fieldLink RC 17 "CoverJoin" "closed" "[Z" ∈ cw_T := cw_mem (List.mem_of_getElem? (i := 67) (by decide +kernel)) (by decide +kernel)
theorem fl_C_23 : Cond.fieldLink RC 23 "CoverJoin" "contents" "[[I" ∈ cw_T := cw_mem (List.mem_of_getElem? (i := 68) (by decide +kernel)) (by decide +kernel)
theorem fl_C_28 : Cond.fieldLink RC 28 "CoverJoin" "owned" "[[J" ∈ cw_T := cw_mem (List.mem_of_getElem? (i := 69) (by decide +kernel)) (by decide +kernel)
theorem fl_C_31 : Cond.fieldLink RC 31 "CoverJoin" "runCount" "I" ∈ cw_T := cw_mem (List.mem_of_getElem? (i := 70) (by decide +kernel)) (by decide +kernel)
theorem fl_C_34 : Cond.fieldLink RC 34 "CoverJoin" "runEditions" "[I" ∈ cw_T := cw_mem (List.mem_of_getElem? (i := 71) (by decide +kernel)) (by decide +kernel)
theorem fl_C_37 : Cond.fieldLink RC 37 "CoverJoin" "runCosts" "[I" ∈ cw_T := cw_mem (List.mem_of_getElem? (i := 72) (by decide +kernel)) (by decide +kernel)
theorem fl_C_40 : Cond.fieldLink RC 40 "CoverJoin" "runHits" "[J" ∈ cw_T := cw_mem (List.mem_of_getElem? (i := 73) (by decide +kernel)) (by decide +kernel)
theorem fl_C_44 : Cond.fieldLink RC 44 "CoverJoin" "mostPairs" "[[I" ∈ cw_T := cw_mem (List.mem_of_getElem? (i := 74) (by decide +kernel)) (by decide +kernel)
theorem fl_C_47 : Cond.fieldLink RC 47 "CoverJoin" "pairs" "[I" ∈ cw_T := cw_mem (List.mem_of_getElem? (i := 75) (by decide +kernel)) (by decide +kernel)
theorem fl_C_53 : Cond.fieldLink RC 53 "CoverJoin" "candidates" "LCoverJoin$Candidates;" ∈ cw_T := cw_mem (List.mem_of_getElem? (i := 76) (by decide +kernel)) (by decide +kernel)
theorem fl_C_57 : Cond.fieldLink RC 57 "CoverJoin" "chosenRuns" "I" ∈ cw_T := cw_mem (List.mem_of_getElem? (i := 77) (by decide +kernel)) (by decide +kernel)
theorem ml_L_13 : Cond.methodLink RL 13 yC_edition ∈ cw_T := cw_mem (List.mem_of_getElem? (i := 105) (by decide +kernel)) (by decide +kernel)
theorem im_C_edition : Cond.instanceMethod yC_edition ∈ cw_T := cw_mem (List.mem_of_getElem? (i := 106) (by decide +kernel)) (by decide +kernel)
theorem se_C_edition : Cond.selects RC yC_edition yC_edition ∈ cw_T := cw_mem (List.mem_of_getElem? (i := 107) (by decide +kernel)) (by decide +kernel)
theorem cd_C_edition : Cond.code yC_edition prog_1_method_2_code 2 (some .int) ∈ cw_T := cw_mem (List.mem_of_getElem? (i := 108) (by decide +kernel)) (by decide +kernel)
theorem ml_L_18 : Cond.methodLink RL 18 yC_line ∈ cw_T := cw_mem (List.mem_of_getElem? (i := 109) (by decide +kernel)) (by decide +kernel)
theorem im_C_line : Cond.instanceMethod yC_line ∈ cw_T := cw_mem (List.mem_of_getElem? (i := 110) (by decide +kernel)) (by decide +kernel)
theorem se_C_line : Cond.selects RC yC_line yC_line ∈ cw_T := cw_mem (List.mem_of_getElem? (i := 111) (by decide +kernel)) (by decide +kernel)
theorem cd_C_line : Cond.code yC_line prog_1_method_3_code 6 (some .int) ∈ cw_T := cw_mem (List.mem_of_getElem? (i := 112) (by decide +kernel)) (by decide +kernel)
theorem ml_C_60 : Cond.methodLink RC 60 yC_isEdition ∈ cw_T := cw_mem (List.mem_of_getElem? (i := 113) (by decide +kernel)) (by decide +kernel)
theorem im_C_isEdition : Cond.instanceMethod yC_isEdition ∈ cw_T := cw_mem (List.mem_of_getElem? (i := 115) (by decide +kernel)) (by decide +kernel)
theorem cd_C_isEdition : Cond.code yC_isEdition prog_1_method_18_code 2 (some .boolean) ∈ cw_T := cw_mem (List.mem_of_getElem? (i := 116) (by decide +kernel)) (by decide +kernel)
theorem ml_C_64 : Cond.methodLink RC 64 yC_isOwner ∈ cw_T := cw_mem (List.mem_of_getElem? (i := 117) (by decide +kernel)) (by decide +kernel)
theorem st_C_isOwner : Cond.static yC_isOwner ∈ cw_T := cw_mem (List.mem_of_getElem? (i := 118) (by decide +kernel)) (by decide +kernel)
theorem cd_C_isOwner : Cond.code yC_isOwner prog_1_method_21_code 1 (some .boolean) ∈ cw_T := cw_mem (List.mem_of_getElem? (i := 119) (by decide +kernel)) (by decide +kernel)
theorem ml_C_67 : Cond.methodLink RC 67 yC_bitOf ∈ cw_T := cw_mem (List.mem_of_getElem? (i := 120) (by decide +kernel)) (by decide +kernel)
theorem st_C_bitOf : Cond.static yC_bitOf ∈ cw_T := cw_mem (List.mem_of_getElem? (i := 121) (by decide +kernel)) (by decide +kernel)
theorem cd_C_bitOf : Cond.code yC_bitOf prog_1_method_22_code 1 (some .long) ∈ cw_T := cw_mem (List.mem_of_getElem? (i := 122) (by decide +kernel)) (by decide +kernel)
theorem ml_L_23 : Cond.methodLink RL 23 yC_lines ∈ cw_T := cw_mem (List.mem_of_getElem? (i := 123) (by decide +kernel)) (by decide +kernel)
theorem im_C_lines : Cond.instanceMethod yC_lines ∈ cw_T := cw_mem (List.mem_of_getElem? (i := 124) (by decide +kernel)) (by decide +kernel)
theorem se_C_lines : Cond.selects RC yC_lines yC_lines ∈ cw_T := cw_mem (List.mem_of_getElem? (i := 125) (by decide +kernel)) (by decide +kernel)
theorem cd_C_lines : Cond.code yC_lines prog_1_method_4_code 2 (some .int) ∈ cw_T := cw_mem (List.mem_of_getElem? (i := 126) (by decide +kernel)) (by decide +kernel)
theorem ml_L_28 : Cond.methodLink RL 28 yC_run ∈ cw_T := cw_mem (List.mem_of_getElem? (i := 127) (by decide +kernel)) (by decide +kernel)
theorem im_C_run : Cond.instanceMethod yC_run ∈ cw_T := cw_mem (List.mem_of_getElem? (i := 128) (by decide +kernel)) (by decide +kernel)
theorem se_C_run : Cond.selects RC yC_run yC_run ∈ cw_T := cw_mem (List.mem_of_getElem? (i := 129) (by decide +kernel)) (by decide +kernel)
theorem cd_C_run : Cond.code yC_run prog_1_method_5_code 3 (some .int) ∈ cw_T := cw_mem (List.mem_of_getElem? (i := 130) (by decide +kernel)) (by decide +kernel)
theorem ko_C_71 : Cond.constant RC 71 100000 ∈ cw_T := cw_mem (List.mem_of_getElem? (i := 131) (by decide +kernel)) (by decide +kernel)
theorem ml_C_72 : Cond.methodLink RC 72 yC_addRun ∈ cw_T := cw_mem (List.mem_of_getElem? (i := 132) (by decide +kernel)) (by decide +kernel)
theorem im_C_addRun : Cond.instanceMethod yC_addRun ∈ cw_T := cw_mem (List.mem_of_getElem? (i := 134) (by decide +kernel)) (by decide +kernel)
theorem cd_C_addRun : Cond.code yC_addRun prog_1_method_25_code 6 (some .int) ∈ cw_T := cw_mem (List.mem_of_getElem? (i := 135) (by decide +kernel)) (by decide +kernel)
theorem ml_L_33 : Cond.methodLink RL 33 yC_hit ∈ cw_T := cw_mem (List.mem_of_getElem? (i := 136) (by decide +kernel)) (by decide +kernel)
theorem im_C_hit : Cond.instanceMethod yC_hit ∈ cw_T := cw_mem (List.mem_of_getElem? (i := 137) (by decide +kernel)) (by decide +kernel)
theorem se_C_hit : Cond.selects RC yC_hit yC_hit ∈ cw_T := cw_mem (List.mem_of_getElem? (i := 138) (by decide +kernel)) (by decide +kernel)
theorem cd_C_hit : Cond.code yC_hit prog_1_method_6_code 3 (some .boolean) ∈ cw_T := cw_mem (List.mem_of_getElem? (i := 139) (by decide +kernel)) (by decide +kernel)
theorem ml_C_76 : Cond.methodLink RC 76 yC_isRun ∈ cw_T := cw_mem (List.mem_of_getElem? (i := 140) (by decide +kernel)) (by decide +kernel)
theorem im_C_isRun : Cond.instanceMethod yC_isRun ∈ cw_T := cw_mem (List.mem_of_getElem? (i := 142) (by decide +kernel)) (by decide +kernel)
theorem cd_C_isRun : Cond.code yC_isRun prog_1_method_19_code 2 (some .boolean) ∈ cw_T := cw_mem (List.mem_of_getElem? (i := 143) (by decide +kernel)) (by decide +kernel)
theorem ml_C_79 : Cond.methodLink RC 79 yC_isLine ∈ cw_T := cw_mem (List.mem_of_getElem? (i := 144) (by decide +kernel)) (by decide +kernel)
theorem im_C_isLine : Cond.instanceMethod yC_isLine ∈ cw_T := cw_mem (List.mem_of_getElem? (i := 146) (by decide +kernel)) (by decide +kernel)
theorem cd_C_isLine : Cond.code yC_isLine prog_1_method_20_code 3 (some .boolean) ∈ cw_T := cw_mem (List.mem_of_getElem? (i := 147) (by decide +kernel)) (by decide +kernel)
theorem ml_C_83 : Cond.methodLink RC 83 yC_hitsLine ∈ cw_T := cw_mem (List.mem_of_getElem? (i := 148) (by decide +kernel)) (by decide +kernel)
theorem im_C_hitsLine : Cond.instanceMethod yC_hitsLine ∈ cw_T := cw_mem (List.mem_of_getElem? (i := 150) (by decide +kernel)) (by decide +kernel)
theorem cd_C_hitsLine : Cond.code yC_hitsLine prog_1_method_24_code 3 (some .boolean) ∈ cw_T := cw_mem (List.mem_of_getElem? (i := 151) (by decide +kernel)) (by decide +kernel)
theorem ml_L_38 : Cond.methodLink RL 38 yC_covered ∈ cw_T := cw_mem (List.mem_of_getElem? (i := 152) (by decide +kernel)) (by decide +kernel)
theorem im_C_covered : Cond.instanceMethod yC_covered ∈ cw_T := cw_mem (List.mem_of_getElem? (i := 153) (by decide +kernel)) (by decide +kernel)
theorem se_C_covered : Cond.selects RC yC_covered yC_covered ∈ cw_T := cw_mem (List.mem_of_getElem? (i := 154) (by decide +kernel)) (by decide +kernel)
theorem cd_C_covered : Cond.code yC_covered prog_1_method_7_code 3 (some .boolean) ∈ cw_T := cw_mem (List.mem_of_getElem? (i := 155) (by decide +kernel)) (by decide +kernel)
theorem ml_L_42 : Cond.methodLink RL 42 yC_map ∈ cw_T := cw_mem (List.mem_of_getElem? (i := 156) (by decide +kernel)) (by decide +kernel)
theorem im_C_map : Cond.instanceMethod yC_map ∈ cw_T := cw_mem (List.mem_of_getElem? (i := 157) (by decide +kernel)) (by decide +kernel)
theorem se_C_map : Cond.selects RC yC_map yC_map ∈ cw_T := cw_mem (List.mem_of_getElem? (i := 158) (by decide +kernel)) (by decide +kernel)
theorem cd_C_map : Cond.code yC_map prog_1_method_8_code 3 (some .int) ∈ cw_T := cw_mem (List.mem_of_getElem? (i := 159) (by decide +kernel)) (by decide +kernel)
theorem ml_C_86 : Cond.methodLink RC 86 yC_compare ∈ cw_T := cw_mem (List.mem_of_getElem? (i := 160) (by decide +kernel)) (by decide +kernel)
theorem im_C_compare : Cond.instanceMethod yC_compare ∈ cw_T := cw_mem (List.mem_of_getElem? (i := 162) (by decide +kernel)) (by decide +kernel)
theorem cd_C_compare : Cond.code yC_compare prog_1_method_29_code 3 none ∈ cw_T := cw_mem (List.mem_of_getElem? (i := 163) (by decide +kernel)) (by decide +kernel)
theorem ml_C_135 : Cond.methodLink RC 135 yC_countPairs ∈ cw_T := cw_mem (List.mem_of_getElem? (i := 164) (by decide +kernel)) (by decide +kernel)
theorem im_C_countPairs : Cond.instanceMethod yC_countPairs ∈ cw_T := cw_mem (List.mem_of_getElem? (i := 166) (by decide +kernel)) (by decide +kernel)
theorem cd_C_countPairs : Cond.code yC_countPairs prog_1_method_30_code 7 none ∈ cw_T := cw_mem (List.mem_of_getElem? (i := 167) (by decide +kernel)) (by decide +kernel)
theorem ml_C_141 : Cond.methodLink RC 141 ⟨"java/lang/Math", "max", "(II)I"⟩ ∈ cw_T := cw_mem (List.mem_of_getElem? (i := 168) (by decide +kernel)) (by decide +kernel)
theorem st_Q_max : Cond.static ⟨"java/lang/Math", "max", "(II)I"⟩ ∈ cw_T := cw_mem (List.mem_of_getElem? (i := 169) (by decide +kernel)) (by decide +kernel)
theorem cd_Q_max : Cond.code ⟨"java/lang/Math", "max", "(II)I"⟩ prog_6_method_65_code 2 (some .int) ∈ cw_T := cw_mem (List.mem_of_getElem? (i := 170) (by decide +kernel)) (by decide +kernel)
theorem ml_C_138 : Cond.methodLink RC 138 yC_choosePairs ∈ cw_T := cw_mem (List.mem_of_getElem? (i := 171) (by decide +kernel)) (by decide +kernel)
theorem im_C_choosePairs : Cond.instanceMethod yC_choosePairs ∈ cw_T := cw_mem (List.mem_of_getElem? (i := 173) (by decide +kernel)) (by decide +kernel)
theorem cd_C_choosePairs : Cond.code yC_choosePairs prog_1_method_31_code 6 none ∈ cw_T := cw_mem (List.mem_of_getElem? (i := 174) (by decide +kernel)) (by decide +kernel)
theorem ml_C_144 : Cond.methodLink RC 144 yC_placeOf ∈ cw_T := cw_mem (List.mem_of_getElem? (i := 175) (by decide +kernel)) (by decide +kernel)
theorem im_C_placeOf : Cond.instanceMethod yC_placeOf ∈ cw_T := cw_mem (List.mem_of_getElem? (i := 177) (by decide +kernel)) (by decide +kernel)
theorem cd_C_placeOf : Cond.code yC_placeOf prog_1_method_32_code 5 (some .int) ∈ cw_T := cw_mem (List.mem_of_getElem? (i := 178) (by decide +kernel)) (by decide +kernel)
theorem ml_C_90 : Cond.methodLink RC 90 yC_pairsOf ∈ cw_T := cw_mem (List.mem_of_getElem? (i := 179) (by decide +kernel)) (by decide +kernel)
theorem im_C_pairsOf : Cond.instanceMethod yC_pairsOf ∈ cw_T := cw_mem (List.mem_of_getElem? (i := 181) (by decide +kernel)) (by decide +kernel)
theorem cd_C_pairsOf : Cond.code yC_pairsOf prog_1_method_33_code 7 (some .long) ∈ cw_T := cw_mem (List.mem_of_getElem? (i := 182) (by decide +kernel)) (by decide +kernel)
theorem ml_L_46 : Cond.methodLink RL 46 yC_join ∈ cw_T := cw_mem (List.mem_of_getElem? (i := 183) (by decide +kernel)) (by decide +kernel)
theorem im_C_join : Cond.instanceMethod yC_join ∈ cw_T := cw_mem (List.mem_of_getElem? (i := 184) (by decide +kernel)) (by decide +kernel)
theorem se_C_join : Cond.selects RC yC_join yC_join ∈ cw_T := cw_mem (List.mem_of_getElem? (i := 185) (by decide +kernel)) (by decide +kernel)
theorem cd_C_join : Cond.code yC_join prog_1_method_9_code 4 (some .int) ∈ cw_T := cw_mem (List.mem_of_getElem? (i := 186) (by decide +kernel)) (by decide +kernel)
theorem ml_C_94 : Cond.methodLink RC 94 ⟨"java/lang/Math", "min", "(II)I"⟩ ∈ cw_T := cw_mem (List.mem_of_getElem? (i := 187) (by decide +kernel)) (by decide +kernel)
theorem st_Q_min : Cond.static ⟨"java/lang/Math", "min", "(II)I"⟩ ∈ cw_T := cw_mem (List.mem_of_getElem? (i := 188) (by decide +kernel)) (by decide +kernel)
theorem cd_Q_min : Cond.code ⟨"java/lang/Math", "min", "(II)I"⟩ prog_6_method_69_code 2 (some .int) ∈ cw_T := cw_mem (List.mem_of_getElem? (i := 189) (by decide +kernel)) (by decide +kernel)
theorem ml_L_50 : Cond.methodLink RL 50 yC_same ∈ cw_T := cw_mem (List.mem_of_getElem? (i := 190) (by decide +kernel)) (by decide +kernel)
theorem im_C_same : Cond.instanceMethod yC_same ∈ cw_T := cw_mem (List.mem_of_getElem? (i := 191) (by decide +kernel)) (by decide +kernel)
theorem se_C_same : Cond.selects RC yC_same yC_same ∈ cw_T := cw_mem (List.mem_of_getElem? (i := 192) (by decide +kernel)) (by decide +kernel)
theorem cd_C_same : Cond.code yC_same prog_1_method_10_code 4 (some .int) ∈ cw_T := cw_mem (List.mem_of_getElem? (i := 193) (by decide +kernel)) (by decide +kernel)
theorem ml_L_55 : Cond.methodLink RL 55 yC_share ∈ cw_T := cw_mem (List.mem_of_getElem? (i := 194) (by decide +kernel)) (by decide +kernel)
theorem im_C_share : Cond.instanceMethod yC_share ∈ cw_T := cw_mem (List.mem_of_getElem? (i := 195) (by decide +kernel)) (by decide +kernel)
theorem se_C_share : Cond.selects RC yC_share yC_share ∈ cw_T := cw_mem (List.mem_of_getElem? (i := 196) (by decide +kernel)) (by decide +kernel)
theorem cd_C_share : Cond.code yC_share prog_1_method_11_code 4 (some .int) ∈ cw_T := cw_mem (List.mem_of_getElem? (i := 197) (by decide +kernel)) (by decide +kernel)
theorem ml_C_100 : Cond.methodLink RC 100 yC_hitShare ∈ cw_T := cw_mem (List.mem_of_getElem? (i := 198) (by decide +kernel)) (by decide +kernel)
theorem im_C_hitShare : Cond.instanceMethod yC_hitShare ∈ cw_T := cw_mem (List.mem_of_getElem? (i := 200) (by decide +kernel)) (by decide +kernel)
theorem cd_C_hitShare : Cond.code yC_hitShare prog_1_method_27_code 3 (some .int) ∈ cw_T := cw_mem (List.mem_of_getElem? (i := 201) (by decide +kernel)) (by decide +kernel)
theorem ml_C_114 : Cond.methodLink RC 114 yJ_bitCount ∈ cw_T := cw_mem (List.mem_of_getElem? (i := 202) (by decide +kernel)) (by decide +kernel)
theorem st_J_bitCount : Cond.static yJ_bitCount ∈ cw_T := cw_mem (List.mem_of_getElem? (i := 203) (by decide +kernel)) (by decide +kernel)
theorem cd_J_bitCount : Cond.code yJ_bitCount prog_5_method_50_code 2 (some .int) ∈ cw_T := cw_mem (List.mem_of_getElem? (i := 204) (by decide +kernel)) (by decide +kernel)
theorem kl_J_314 : Cond.constantLong RJ 314 6148914691236517205 ∈ cw_T := cw_mem (List.mem_of_getElem? (i := 205) (by decide +kernel)) (by decide +kernel)
theorem kl_J_316 : Cond.constantLong RJ 316 3689348814741910323 ∈ cw_T := cw_mem (List.mem_of_getElem? (i := 206) (by decide +kernel)) (by decide +kernel)
theorem kl_J_318 : Cond.constantLong RJ 318 1085102592571150095 ∈ cw_T := cw_mem (List.mem_of_getElem? (i := 207) (by decide +kernel)) (by decide +kernel)
theorem ml_C_103 : Cond.methodLink RC 103 yC_wholeShare ∈ cw_T := cw_mem (List.mem_of_getElem? (i := 208) (by decide +kernel)) (by decide +kernel)
theorem im_C_wholeShare : Cond.instanceMethod yC_wholeShare ∈ cw_T := cw_mem (List.mem_of_getElem? (i := 210) (by decide +kernel)) (by decide +kernel)
theorem cd_C_wholeShare : Cond.code yC_wholeShare prog_1_method_26_code 3 (some .int) ∈ cw_T := cw_mem (List.mem_of_getElem? (i := 211) (by decide +kernel)) (by decide +kernel)
theorem ml_L_60 : Cond.methodLink RL 60 yC_fresh ∈ cw_T := cw_mem (List.mem_of_getElem? (i := 212) (by decide +kernel)) (by decide +kernel)
theorem im_C_fresh : Cond.instanceMethod yC_fresh ∈ cw_T := cw_mem (List.mem_of_getElem? (i := 213) (by decide +kernel)) (by decide +kernel)
theorem se_C_fresh : Cond.selects RC yC_fresh yC_fresh ∈ cw_T := cw_mem (List.mem_of_getElem? (i := 214) (by decide +kernel)) (by decide +kernel)
theorem cd_C_fresh : Cond.code yC_fresh prog_1_method_12_code 7 (some .int) ∈ cw_T := cw_mem (List.mem_of_getElem? (i := 215) (by decide +kernel)) (by decide +kernel)
theorem ml_C_106 : Cond.methodLink RC 106 yC_ungenerated ∈ cw_T := cw_mem (List.mem_of_getElem? (i := 216) (by decide +kernel)) (by decide +kernel)
theorem im_C_ungenerated : Cond.instanceMethod yC_ungenerated ∈ cw_T := cw_mem (List.mem_of_getElem? (i := 218) (by decide +kernel)) (by decide +kernel)
theorem cd_C_ungenerated : Cond.code yC_ungenerated prog_1_method_28_code 5 (some .long) ∈ cw_T := cw_mem (List.mem_of_getElem? (i := 219) (by decide +kernel)) (by decide +kernel)
theorem ml_C_109 : Cond.methodLink RC 109 yC_firstBits ∈ cw_T := cw_mem (List.mem_of_getElem? (i := 220) (by decide +kernel)) (by decide +kernel)
theorem st_C_firstBits : Cond.static yC_firstBits ∈ cw_T := cw_mem (List.mem_of_getElem? (i := 221) (by decide +kernel)) (by decide +kernel)
theorem cd_C_firstBits : Cond.code yC_firstBits prog_1_method_23_code 1 (some .long) ∈ cw_T := cw_mem (List.mem_of_getElem? (i := 222) (by decide +kernel)) (by decide +kernel)
theorem kl_C_112 : Cond.constantLong RC 112 (-1) ∈ cw_T := cw_mem (List.mem_of_getElem? (i := 223) (by decide +kernel)) (by decide +kernel)
theorem ml_L_64 : Cond.methodLink RL 64 yC_falls ∈ cw_T := cw_mem (List.mem_of_getElem? (i := 224) (by decide +kernel)) (by decide +kernel)
theorem im_C_falls : Cond.instanceMethod yC_falls ∈ cw_T := cw_mem (List.mem_of_getElem? (i := 225) (by decide +kernel)) (by decide +kernel)
theorem se_C_falls : Cond.selects RC yC_falls yC_falls ∈ cw_T := cw_mem (List.mem_of_getElem? (i := 226) (by decide +kernel)) (by decide +kernel)
theorem cd_C_falls : Cond.code yC_falls prog_1_method_13_code 6 (some .int) ∈ cw_T := cw_mem (List.mem_of_getElem? (i := 227) (by decide +kernel)) (by decide +kernel)
theorem ml_L_68 : Cond.methodLink RL 68 yC_dead ∈ cw_T := cw_mem (List.mem_of_getElem? (i := 228) (by decide +kernel)) (by decide +kernel)
theorem im_C_dead : Cond.instanceMethod yC_dead ∈ cw_T := cw_mem (List.mem_of_getElem? (i := 229) (by decide +kernel)) (by decide +kernel)
theorem se_C_dead : Cond.selects RC yC_dead yC_dead ∈ cw_T := cw_mem (List.mem_of_getElem? (i := 230) (by decide +kernel)) (by decide +kernel)
theorem cd_C_dead : Cond.code yC_dead prog_1_method_14_code 6 (some .int) ∈ cw_T := cw_mem (List.mem_of_getElem? (i := 231) (by decide +kernel)) (by decide +kernel)
theorem ml_L_72 : Cond.methodLink RL 72 yC_least ∈ cw_T := cw_mem (List.mem_of_getElem? (i := 232) (by decide +kernel)) (by decide +kernel)
theorem im_C_least : Cond.instanceMethod yC_least ∈ cw_T := cw_mem (List.mem_of_getElem? (i := 233) (by decide +kernel)) (by decide +kernel)
theorem se_C_least : Cond.selects RC yC_least yC_least ∈ cw_T := cw_mem (List.mem_of_getElem? (i := 234) (by decide +kernel)) (by decide +kernel)
theorem cd_C_least : Cond.code yC_least prog_1_method_15_code 4 (some .int) ∈ cw_T := cw_mem (List.mem_of_getElem? (i := 235) (by decide +kernel)) (by decide +kernel)
theorem ml_C_120 : Cond.methodLink RC 120 yC_gatherCandidates ∈ cw_T := cw_mem (List.mem_of_getElem? (i := 236) (by decide +kernel)) (by decide +kernel)
theorem im_C_gatherCandidates : Cond.instanceMethod yC_gatherCandidates ∈ cw_T := cw_mem (List.mem_of_getElem? (i := 238) (by decide +kernel)) (by decide +kernel)
theorem cd_C_gatherCandidates : Cond.code yC_gatherCandidates prog_1_method_34_code 4 none ∈ cw_T := cw_mem (List.mem_of_getElem? (i := 239) (by decide +kernel)) (by decide +kernel)
theorem ml_C_154 : Cond.methodLink RC 154 yC_weightOf ∈ cw_T := cw_mem (List.mem_of_getElem? (i := 240) (by decide +kernel)) (by decide +kernel)
theorem im_C_weightOf : Cond.instanceMethod yC_weightOf ∈ cw_T := cw_mem (List.mem_of_getElem? (i := 242) (by decide +kernel)) (by decide +kernel)
theorem cd_C_weightOf : Cond.code yC_weightOf prog_1_method_35_code 2 (some .long) ∈ cw_T := cw_mem (List.mem_of_getElem? (i := 243) (by decide +kernel)) (by decide +kernel)
theorem kl_C_160 : Cond.constantLong RC 160 16384 ∈ cw_T := cw_mem (List.mem_of_getElem? (i := 244) (by decide +kernel)) (by decide +kernel)
theorem kl_C_127 : Cond.constantLong RC 127 9223372036854775807 ∈ cw_T := cw_mem (List.mem_of_getElem? (i := 245) (by decide +kernel)) (by decide +kernel)
theorem ml_C_129 : Cond.methodLink RC 129 yC_lightest ∈ cw_T := cw_mem (List.mem_of_getElem? (i := 246) (by decide +kernel)) (by decide +kernel)
theorem st_C_lightest : Cond.static yC_lightest ∈ cw_T := cw_mem (List.mem_of_getElem? (i := 247) (by decide +kernel)) (by decide +kernel)
theorem cd_C_lightest : Cond.code yC_lightest prog_1_method_36_code 10 (some .long) ∈ cw_T := cw_mem (List.mem_of_getElem? (i := 248) (by decide +kernel)) (by decide +kernel)
theorem kl_C_133 : Cond.constantLong RC 133 16383 ∈ cw_T := cw_mem (List.mem_of_getElem? (i := 249) (by decide +kernel)) (by decide +kernel)
theorem ml_L_76 : Cond.methodLink RL 76 yC_chosen ∈ cw_T := cw_mem (List.mem_of_getElem? (i := 250) (by decide +kernel)) (by decide +kernel)
theorem im_C_chosen : Cond.instanceMethod yC_chosen ∈ cw_T := cw_mem (List.mem_of_getElem? (i := 251) (by decide +kernel)) (by decide +kernel)
theorem se_C_chosen : Cond.selects RC yC_chosen yC_chosen ∈ cw_T := cw_mem (List.mem_of_getElem? (i := 252) (by decide +kernel)) (by decide +kernel)
theorem cd_C_chosen : Cond.code yC_chosen prog_1_method_16_code 1 (some .int) ∈ cw_T := cw_mem (List.mem_of_getElem? (i := 253) (by decide +kernel)) (by decide +kernel)
theorem ml_L_80 : Cond.methodLink RL 80 yC_about ∈ cw_T := cw_mem (List.mem_of_getElem? (i := 254) (by decide +kernel)) (by decide +kernel)
theorem im_C_about : Cond.instanceMethod yC_about ∈ cw_T := cw_mem (List.mem_of_getElem? (i := 255) (by decide +kernel)) (by decide +kernel)
theorem se_C_about : Cond.selects RC yC_about yC_about ∈ cw_T := cw_mem (List.mem_of_getElem? (i := 256) (by decide +kernel)) (by decide +kernel)
theorem cd_C_about : Cond.code yC_about prog_1_method_17_code 3 (some .int) ∈ cw_T := cw_mem (List.mem_of_getElem? (i := 257) (by decide +kernel)) (by decide +kernel)
theorem cl_L_10 : Cond.classLink RL 10 "CoverJoinModel" ∈ cw_T := cw_mem (List.mem_of_getElem? (i := 258) (by decide +kernel)) (by decide +kernel)
theorem it_M : Cond.instantiable RM 13 ∈ cw_T := cw_mem (List.mem_of_getElem? (i := 259) (by decide +kernel)) (by decide +kernel)
theorem ml_L_12 : Cond.methodLink RL 12 yM_init ∈ cw_T := cw_mem (List.mem_of_getElem? (i := 260) (by decide +kernel)) (by decide +kernel)
theorem im_M_init : Cond.instanceMethod yM_init ∈ cw_T := cw_mem (List.mem_of_getElem? (i := 261) (by decide +kernel)) (by decide +kernel)
theorem cd_M_init : Cond.code yM_init prog_4_method_1_code 1 none ∈ cw_T := cw_mem (List.mem_of_getElem? (i := 262) (by decide +kernel)) (by decide +kernel)
theorem ml_M_1 : Cond.methodLink RM 1 ⟨"java/lang/Object", "<init>", "()V"⟩ ∈ cw_T := cw_mem (List.mem_of_getElem? (i := 263) (by decide +kernel)) (by decide +kernel)
theorem fl_M_42 : Cond.fieldLink RM 42 "CoverJoinModel" "editions" "I" ∈ cw_T := cw_mem (List.mem_of_getElem? (i := 264) (by decide +kernel)) (by decide +kernel)
theorem fl_M_50 : Cond.fieldLink RM 50 "CoverJoinModel" "runs" "I" ∈ cw_T := cw_mem (List.mem_of_getElem? (i := 265) (by decide +kernel)) (by decide +kernel)
theorem fl_M_82 : Cond.fieldLink RM 82 "CoverJoinModel" "chosen" "I" ∈ cw_T := cw_mem (List.mem_of_getElem? (i := 266) (by decide +kernel)) (by decide +kernel)
theorem fl_M_7 : Cond.fieldLink RM 7 "CoverJoinModel" "lines" "[I" ∈ cw_T := cw_mem (List.mem_of_getElem? (i := 267) (by decide +kernel)) (by decide +kernel)
theorem fl_M_13 : Cond.fieldLink RM 13 "CoverJoinModel" "content" "[I" ∈ cw_T := cw_mem (List.mem_of_getElem? (i := 268) (by decide +kernel)) (by decide +kernel)
theorem fl_M_16 : Cond.fieldLink RM 16 "CoverJoinModel" "owner" "[I" ∈ cw_T := cw_mem (List.mem_of_getElem? (i := 269) (by decide +kernel)) (by decide +kernel)
theorem fl_M_19 : Cond.fieldLink RM 19 "CoverJoinModel" "generated" "[Z" ∈ cw_T := cw_mem (List.mem_of_getElem? (i := 270) (by decide +kernel)) (by decide +kernel)
theorem fl_M_23 : Cond.fieldLink RM 23 "CoverJoinModel" "isFast" "[Z" ∈ cw_T := cw_mem (List.mem_of_getElem? (i := 271) (by decide +kernel)) (by decide +kernel)
theorem fl_M_26 : Cond.fieldLink RM 26 "CoverJoinModel" "editionOf" "[I" ∈ cw_T := cw_mem (List.mem_of_getElem? (i := 272) (by decide +kernel)) (by decide +kernel)
theorem fl_M_29 : Cond.fieldLink RM 29 "CoverJoinModel" "cost" "[I" ∈ cw_T := cw_mem (List.mem_of_getElem? (i := 273) (by decide +kernel)) (by decide +kernel)
theorem fl_M_32 : Cond.fieldLink RM 32 "CoverJoinModel" "hits" "[J" ∈ cw_T := cw_mem (List.mem_of_getElem? (i := 274) (by decide +kernel)) (by decide +kernel)
theorem fl_M_36 : Cond.fieldLink RM 36 "CoverJoinModel" "longest" "[I" ∈ cw_T := cw_mem (List.mem_of_getElem? (i := 275) (by decide +kernel)) (by decide +kernel)
theorem fl_M_39 : Cond.fieldLink RM 39 "CoverJoinModel" "pair" "[I" ∈ cw_T := cw_mem (List.mem_of_getElem? (i := 276) (by decide +kernel)) (by decide +kernel)
theorem ml_L_17 : Cond.methodLink RL 17 yM_edition ∈ cw_T := cw_mem (List.mem_of_getElem? (i := 304) (by decide +kernel)) (by decide +kernel)
theorem im_M_edition : Cond.instanceMethod yM_edition ∈ cw_T := cw_mem (List.mem_of_getElem? (i := 305) (by decide +kernel)) (by decide +kernel)
theorem se_M_edition : Cond.selects RM yM_edition yM_edition ∈ cw_T := cw_mem (List.mem_of_getElem? (i := 306) (by decide +kernel)) (by decide +kernel)
theorem cd_M_edition : Cond.code yM_edition prog_4_method_3_code 1 (some .int) ∈ cw_T := cw_mem (List.mem_of_getElem? (i := 307) (by decide +kernel)) (by decide +kernel)
theorem ml_L_22 : Cond.methodLink RL 22 yM_line ∈ cw_T := cw_mem (List.mem_of_getElem? (i := 308) (by decide +kernel)) (by decide +kernel)
theorem im_M_line : Cond.instanceMethod yM_line ∈ cw_T := cw_mem (List.mem_of_getElem? (i := 309) (by decide +kernel)) (by decide +kernel)
theorem se_M_line : Cond.selects RM yM_line yM_line ∈ cw_T := cw_mem (List.mem_of_getElem? (i := 310) (by decide +kernel)) (by decide +kernel)
theorem cd_M_line : Cond.code yM_line prog_4_method_4_code 6 (some .int) ∈ cw_T := cw_mem (List.mem_of_getElem? (i := 311) (by decide +kernel)) (by decide +kernel)
theorem ml_M_46 : Cond.methodLink RM 46 yM_in ∈ cw_T := cw_mem (List.mem_of_getElem? (i := 312) (by decide +kernel)) (by decide +kernel)
theorem st_M_in : Cond.static yM_in ∈ cw_T := cw_mem (List.mem_of_getElem? (i := 313) (by decide +kernel)) (by decide +kernel)
theorem cd_M_in : Cond.code yM_in prog_4_method_2_code 2 (some .boolean) ∈ cw_T := cw_mem (List.mem_of_getElem? (i := 314) (by decide +kernel)) (by decide +kernel)
theorem ml_L_27 : Cond.methodLink RL 27 yM_lines ∈ cw_T := cw_mem (List.mem_of_getElem? (i := 315) (by decide +kernel)) (by decide +kernel)
theorem im_M_lines : Cond.instanceMethod yM_lines ∈ cw_T := cw_mem (List.mem_of_getElem? (i := 316) (by decide +kernel)) (by decide +kernel)
theorem se_M_lines : Cond.selects RM yM_lines yM_lines ∈ cw_T := cw_mem (List.mem_of_getElem? (i := 317) (by decide +kernel)) (by decide +kernel)
theorem cd_M_lines : Cond.code yM_lines prog_4_method_5_code 2 (some .int) ∈ cw_T := cw_mem (List.mem_of_getElem? (i := 318) (by decide +kernel)) (by decide +kernel)
theorem ml_L_32 : Cond.methodLink RL 32 yM_run ∈ cw_T := cw_mem (List.mem_of_getElem? (i := 319) (by decide +kernel)) (by decide +kernel)
theorem im_M_run : Cond.instanceMethod yM_run ∈ cw_T := cw_mem (List.mem_of_getElem? (i := 320) (by decide +kernel)) (by decide +kernel)
theorem se_M_run : Cond.selects RM yM_run yM_run ∈ cw_T := cw_mem (List.mem_of_getElem? (i := 321) (by decide +kernel)) (by decide +kernel)
theorem cd_M_run : Cond.code yM_run prog_4_method_7_code 3 (some .int) ∈ cw_T := cw_mem (List.mem_of_getElem? (i := 322) (by decide +kernel)) (by decide +kernel)
theorem ko_M_53 : Cond.constant RM 53 100000 ∈ cw_T := cw_mem (List.mem_of_getElem? (i := 323) (by decide +kernel)) (by decide +kernel)
theorem ml_M_54 : Cond.methodLink RM 54 yM_newRun ∈ cw_T := cw_mem (List.mem_of_getElem? (i := 324) (by decide +kernel)) (by decide +kernel)
theorem im_M_newRun : Cond.instanceMethod yM_newRun ∈ cw_T := cw_mem (List.mem_of_getElem? (i := 326) (by decide +kernel)) (by decide +kernel)
theorem cd_M_newRun : Cond.code yM_newRun prog_4_method_6_code 5 (some .int) ∈ cw_T := cw_mem (List.mem_of_getElem? (i := 327) (by decide +kernel)) (by decide +kernel)
theorem ml_L_37 : Cond.methodLink RL 37 yM_hit ∈ cw_T := cw_mem (List.mem_of_getElem? (i := 328) (by decide +kernel)) (by decide +kernel)
theorem im_M_hit : Cond.instanceMethod yM_hit ∈ cw_T := cw_mem (List.mem_of_getElem? (i := 329) (by decide +kernel)) (by decide +kernel)
theorem se_M_hit : Cond.selects RM yM_hit yM_hit ∈ cw_T := cw_mem (List.mem_of_getElem? (i := 330) (by decide +kernel)) (by decide +kernel)
theorem cd_M_hit : Cond.code yM_hit prog_4_method_10_code 3 (some .boolean) ∈ cw_T := cw_mem (List.mem_of_getElem? (i := 331) (by decide +kernel)) (by decide +kernel)
theorem ml_M_58 : Cond.methodLink RM 58 yM_isLine ∈ cw_T := cw_mem (List.mem_of_getElem? (i := 332) (by decide +kernel)) (by decide +kernel)
theorem im_M_isLine : Cond.instanceMethod yM_isLine ∈ cw_T := cw_mem (List.mem_of_getElem? (i := 334) (by decide +kernel)) (by decide +kernel)
theorem cd_M_isLine : Cond.code yM_isLine prog_4_method_9_code 3 (some .boolean) ∈ cw_T := cw_mem (List.mem_of_getElem? (i := 335) (by decide +kernel)) (by decide +kernel)
theorem ml_M_61 : Cond.methodLink RM 61 yM_isHit ∈ cw_T := cw_mem (List.mem_of_getElem? (i := 336) (by decide +kernel)) (by decide +kernel)
theorem im_M_isHit : Cond.instanceMethod yM_isHit ∈ cw_T := cw_mem (List.mem_of_getElem? (i := 338) (by decide +kernel)) (by decide +kernel)
theorem cd_M_isHit : Cond.code yM_isHit prog_4_method_8_code 3 (some .boolean) ∈ cw_T := cw_mem (List.mem_of_getElem? (i := 339) (by decide +kernel)) (by decide +kernel)
theorem ml_L_41 : Cond.methodLink RL 41 yM_covered ∈ cw_T := cw_mem (List.mem_of_getElem? (i := 340) (by decide +kernel)) (by decide +kernel)
theorem im_M_covered : Cond.instanceMethod yM_covered ∈ cw_T := cw_mem (List.mem_of_getElem? (i := 341) (by decide +kernel)) (by decide +kernel)
theorem se_M_covered : Cond.selects RM yM_covered yM_covered ∈ cw_T := cw_mem (List.mem_of_getElem? (i := 342) (by decide +kernel)) (by decide +kernel)
theorem cd_M_covered : Cond.code yM_covered prog_4_method_11_code 3 (some .boolean) ∈ cw_T := cw_mem (List.mem_of_getElem? (i := 343) (by decide +kernel)) (by decide +kernel)
theorem ml_L_54 : Cond.methodLink RL 54 yM_same ∈ cw_T := cw_mem (List.mem_of_getElem? (i := 344) (by decide +kernel)) (by decide +kernel)
theorem im_M_same : Cond.instanceMethod yM_same ∈ cw_T := cw_mem (List.mem_of_getElem? (i := 345) (by decide +kernel)) (by decide +kernel)
theorem se_M_same : Cond.selects RM yM_same yM_same ∈ cw_T := cw_mem (List.mem_of_getElem? (i := 346) (by decide +kernel)) (by decide +kernel)
theorem cd_M_same : Cond.code yM_same prog_4_method_14_code 4 (some .int) ∈ cw_T := cw_mem (List.mem_of_getElem? (i := 347) (by decide +kernel)) (by decide +kernel)
theorem ml_M_68 : Cond.methodLink RM 68 yM_compare ∈ cw_T := cw_mem (List.mem_of_getElem? (i := 348) (by decide +kernel)) (by decide +kernel)
theorem im_M_compare : Cond.instanceMethod yM_compare ∈ cw_T := cw_mem (List.mem_of_getElem? (i := 350) (by decide +kernel)) (by decide +kernel)
theorem cd_M_compare : Cond.code yM_compare prog_4_method_13_code 11 none ∈ cw_T := cw_mem (List.mem_of_getElem? (i := 351) (by decide +kernel)) (by decide +kernel)
theorem ml_M_64 : Cond.methodLink RM 64 yM_isAlike ∈ cw_T := cw_mem (List.mem_of_getElem? (i := 352) (by decide +kernel)) (by decide +kernel)
theorem im_M_isAlike : Cond.instanceMethod yM_isAlike ∈ cw_T := cw_mem (List.mem_of_getElem? (i := 354) (by decide +kernel)) (by decide +kernel)
theorem cd_M_isAlike : Cond.code yM_isAlike prog_4_method_12_code 5 (some .boolean) ∈ cw_T := cw_mem (List.mem_of_getElem? (i := 355) (by decide +kernel)) (by decide +kernel)
theorem ml_L_45 : Cond.methodLink RL 45 yM_map ∈ cw_T := cw_mem (List.mem_of_getElem? (i := 356) (by decide +kernel)) (by decide +kernel)
theorem im_M_map : Cond.instanceMethod yM_map ∈ cw_T := cw_mem (List.mem_of_getElem? (i := 357) (by decide +kernel)) (by decide +kernel)
theorem se_M_map : Cond.selects RM yM_map yM_map ∈ cw_T := cw_mem (List.mem_of_getElem? (i := 358) (by decide +kernel)) (by decide +kernel)
theorem cd_M_map : Cond.code yM_map prog_4_method_15_code 6 (some .int) ∈ cw_T := cw_mem (List.mem_of_getElem? (i := 359) (by decide +kernel)) (by decide +kernel)
theorem ml_L_49 : Cond.methodLink RL 49 yM_join ∈ cw_T := cw_mem (List.mem_of_getElem? (i := 360) (by decide +kernel)) (by decide +kernel)
theorem im_M_join : Cond.instanceMethod yM_join ∈ cw_T := cw_mem (List.mem_of_getElem? (i := 361) (by decide +kernel)) (by decide +kernel)
theorem se_M_join : Cond.selects RM yM_join yM_join ∈ cw_T := cw_mem (List.mem_of_getElem? (i := 362) (by decide +kernel)) (by decide +kernel)
theorem cd_M_join : Cond.code yM_join prog_4_method_16_code 4 (some .int) ∈ cw_T := cw_mem (List.mem_of_getElem? (i := 363) (by decide +kernel)) (by decide +kernel)
theorem ml_L_59 : Cond.methodLink RL 59 yM_share ∈ cw_T := cw_mem (List.mem_of_getElem? (i := 364) (by decide +kernel)) (by decide +kernel)
theorem im_M_share : Cond.instanceMethod yM_share ∈ cw_T := cw_mem (List.mem_of_getElem? (i := 365) (by decide +kernel)) (by decide +kernel)
theorem se_M_share : Cond.selects RM yM_share yM_share ∈ cw_T := cw_mem (List.mem_of_getElem? (i := 366) (by decide +kernel)) (by decide +kernel)
theorem cd_M_share : Cond.code yM_share prog_4_method_18_code 4 (some .int) ∈ cw_T := cw_mem (List.mem_of_getElem? (i := 367) (by decide +kernel)) (by decide +kernel)
theorem ml_M_72 : Cond.methodLink RM 72 yM_shareOf ∈ cw_T := cw_mem (List.mem_of_getElem? (i := 368) (by decide +kernel)) (by decide +kernel)
theorem im_M_shareOf : Cond.instanceMethod yM_shareOf ∈ cw_T := cw_mem (List.mem_of_getElem? (i := 370) (by decide +kernel)) (by decide +kernel)
theorem cd_M_shareOf : Cond.code yM_shareOf prog_4_method_17_code 8 (some .int) ∈ cw_T := cw_mem (List.mem_of_getElem? (i := 371) (by decide +kernel)) (by decide +kernel)
theorem ml_L_63 : Cond.methodLink RL 63 yM_fresh ∈ cw_T := cw_mem (List.mem_of_getElem? (i := 372) (by decide +kernel)) (by decide +kernel)
theorem im_M_fresh : Cond.instanceMethod yM_fresh ∈ cw_T := cw_mem (List.mem_of_getElem? (i := 373) (by decide +kernel)) (by decide +kernel)
theorem se_M_fresh : Cond.selects RM yM_fresh yM_fresh ∈ cw_T := cw_mem (List.mem_of_getElem? (i := 374) (by decide +kernel)) (by decide +kernel)
theorem cd_M_fresh : Cond.code yM_fresh prog_4_method_19_code 10 (some .int) ∈ cw_T := cw_mem (List.mem_of_getElem? (i := 375) (by decide +kernel)) (by decide +kernel)
theorem ml_L_67 : Cond.methodLink RL 67 yM_falls ∈ cw_T := cw_mem (List.mem_of_getElem? (i := 376) (by decide +kernel)) (by decide +kernel)
theorem im_M_falls : Cond.instanceMethod yM_falls ∈ cw_T := cw_mem (List.mem_of_getElem? (i := 377) (by decide +kernel)) (by decide +kernel)
theorem se_M_falls : Cond.selects RM yM_falls yM_falls ∈ cw_T := cw_mem (List.mem_of_getElem? (i := 378) (by decide +kernel)) (by decide +kernel)
theorem cd_M_falls : Cond.code yM_falls prog_4_method_20_code 6 (some .int) ∈ cw_T := cw_mem (List.mem_of_getElem? (i := 379) (by decide +kernel)) (by decide +kernel)
theorem ml_L_71 : Cond.methodLink RL 71 yM_dead ∈ cw_T := cw_mem (List.mem_of_getElem? (i := 380) (by decide +kernel)) (by decide +kernel)
theorem im_M_dead : Cond.instanceMethod yM_dead ∈ cw_T := cw_mem (List.mem_of_getElem? (i := 381) (by decide +kernel)) (by decide +kernel)
theorem se_M_dead : Cond.selects RM yM_dead yM_dead ∈ cw_T := cw_mem (List.mem_of_getElem? (i := 382) (by decide +kernel)) (by decide +kernel)
theorem cd_M_dead : Cond.code yM_dead prog_4_method_21_code 6 (some .int) ∈ cw_T := cw_mem (List.mem_of_getElem? (i := 383) (by decide +kernel)) (by decide +kernel)
theorem kl_M_76 : Cond.constantLong RM 76 (-1) ∈ cw_T := cw_mem (List.mem_of_getElem? (i := 384) (by decide +kernel)) (by decide +kernel)
theorem ml_L_75 : Cond.methodLink RL 75 yM_least ∈ cw_T := cw_mem (List.mem_of_getElem? (i := 385) (by decide +kernel)) (by decide +kernel)
theorem im_M_least : Cond.instanceMethod yM_least ∈ cw_T := cw_mem (List.mem_of_getElem? (i := 386) (by decide +kernel)) (by decide +kernel)
theorem se_M_least : Cond.selects RM yM_least yM_least ∈ cw_T := cw_mem (List.mem_of_getElem? (i := 387) (by decide +kernel)) (by decide +kernel)
theorem cd_M_least : Cond.code yM_least prog_4_method_23_code 12 (some .int) ∈ cw_T := cw_mem (List.mem_of_getElem? (i := 388) (by decide +kernel)) (by decide +kernel)
theorem ml_M_78 : Cond.methodLink RM 78 yM_ones ∈ cw_T := cw_mem (List.mem_of_getElem? (i := 389) (by decide +kernel)) (by decide +kernel)
theorem st_M_ones : Cond.static yM_ones ∈ cw_T := cw_mem (List.mem_of_getElem? (i := 390) (by decide +kernel)) (by decide +kernel)
theorem cd_M_ones : Cond.code yM_ones prog_4_method_22_code 3 (some .int) ∈ cw_T := cw_mem (List.mem_of_getElem? (i := 391) (by decide +kernel)) (by decide +kernel)
theorem ml_L_79 : Cond.methodLink RL 79 yM_chosen ∈ cw_T := cw_mem (List.mem_of_getElem? (i := 392) (by decide +kernel)) (by decide +kernel)
theorem im_M_chosen : Cond.instanceMethod yM_chosen ∈ cw_T := cw_mem (List.mem_of_getElem? (i := 393) (by decide +kernel)) (by decide +kernel)
theorem se_M_chosen : Cond.selects RM yM_chosen yM_chosen ∈ cw_T := cw_mem (List.mem_of_getElem? (i := 394) (by decide +kernel)) (by decide +kernel)
theorem cd_M_chosen : Cond.code yM_chosen prog_4_method_24_code 1 (some .int) ∈ cw_T := cw_mem (List.mem_of_getElem? (i := 395) (by decide +kernel)) (by decide +kernel)
theorem ml_L_83 : Cond.methodLink RL 83 yM_about ∈ cw_T := cw_mem (List.mem_of_getElem? (i := 396) (by decide +kernel)) (by decide +kernel)
theorem im_M_about : Cond.instanceMethod yM_about ∈ cw_T := cw_mem (List.mem_of_getElem? (i := 397) (by decide +kernel)) (by decide +kernel)
theorem se_M_about : Cond.selects RM yM_about yM_about ∈ cw_T := cw_mem (List.mem_of_getElem? (i := 398) (by decide +kernel)) (by decide +kernel)
theorem cd_M_about : Cond.code yM_about prog_4_method_25_code 5 (some .int) ∈ cw_T := cw_mem (List.mem_of_getElem? (i := 399) (by decide +kernel)) (by decide +kernel)
theorem wsD : ∀ w ∈ u_ws RD TD 4, w ∈ cw_T := by
  intro w hw
  exact cw_mem (by revert w; decide +kernel) (by revert w; decide +kernel)
theorem wsC : ∀ w ∈ u_ws RC TC 13, w ∈ cw_T := by
  intro w hw
  exact cw_mem (by revert w; decide +kernel) (by revert w; decide +kernel)
theorem wsM : ∀ w ∈ u_ws RM TM 13, w ∈ cw_T := by
  intro w hw
  exact cw_mem (by revert w; decide +kernel) (by revert w; decide +kernel)
