-- small rows
theorem hd_C_edition : yC_edition.cls = RC ∧ yC_edition.cls ≠ "java/lang/invoke/MethodHandle" ∧ yC_edition.cls ≠ "java/lang/invoke/VarHandle" ∧ (parseMethodDescriptor yC_edition.desc).map (fun d => d.parameters.length) = some 0 := ⟨rfl, by decide, by decide, by decide +kernel⟩
theorem hd_C_line : yC_line.cls = RC ∧ yC_line.cls ≠ "java/lang/invoke/MethodHandle" ∧ yC_line.cls ≠ "java/lang/invoke/VarHandle" ∧ (parseMethodDescriptor yC_line.desc).map (fun d => d.parameters.length) = some 4 := ⟨rfl, by decide, by decide, by decide +kernel⟩
theorem hd_C_isEdition : yC_isEdition.cls = RC ∧ yC_isEdition.cls ≠ "java/lang/invoke/MethodHandle" ∧ yC_isEdition.cls ≠ "java/lang/invoke/VarHandle" ∧ (parseMethodDescriptor yC_isEdition.desc).map (fun d => d.parameters.length) = some 1 := ⟨rfl, by decide, by decide, by decide +kernel⟩
theorem hd_C_isOwner : yC_isOwner.cls ≠ "java/lang/invoke/MethodHandle" ∧ yC_isOwner.cls ≠ "java/lang/invoke/VarHandle" ∧ (parseMethodDescriptor yC_isOwner.desc).map (fun d => d.parameters.length) = some 1 := ⟨by decide, by decide, by decide +kernel⟩
theorem hd_C_bitOf : yC_bitOf.cls ≠ "java/lang/invoke/MethodHandle" ∧ yC_bitOf.cls ≠ "java/lang/invoke/VarHandle" ∧ (parseMethodDescriptor yC_bitOf.desc).map (fun d => d.parameters.length) = some 1 := ⟨by decide, by decide, by decide +kernel⟩
theorem hd_C_lines : yC_lines.cls = RC ∧ yC_lines.cls ≠ "java/lang/invoke/MethodHandle" ∧ yC_lines.cls ≠ "java/lang/invoke/VarHandle" ∧ (parseMethodDescriptor yC_lines.desc).map (fun d => d.parameters.length) = some 1 := ⟨rfl, by decide, by decide, by decide +kernel⟩
theorem hd_C_run : yC_run.cls = RC ∧ yC_run.cls ≠ "java/lang/invoke/MethodHandle" ∧ yC_run.cls ≠ "java/lang/invoke/VarHandle" ∧ (parseMethodDescriptor yC_run.desc).map (fun d => d.parameters.length) = some 2 := ⟨rfl, by decide, by decide, by decide +kernel⟩
theorem hd_C_addRun : yC_addRun.cls = RC ∧ yC_addRun.cls ≠ "java/lang/invoke/MethodHandle" ∧ yC_addRun.cls ≠ "java/lang/invoke/VarHandle" ∧ (parseMethodDescriptor yC_addRun.desc).map (fun d => d.parameters.length) = some 3 := ⟨rfl, by decide, by decide, by decide +kernel⟩
theorem hd_C_hit : yC_hit.cls = RC ∧ yC_hit.cls ≠ "java/lang/invoke/MethodHandle" ∧ yC_hit.cls ≠ "java/lang/invoke/VarHandle" ∧ (parseMethodDescriptor yC_hit.desc).map (fun d => d.parameters.length) = some 2 := ⟨rfl, by decide, by decide, by decide +kernel⟩
theorem hd_C_isRun : yC_isRun.cls = RC ∧ yC_isRun.cls ≠ "java/lang/invoke/MethodHandle" ∧ yC_isRun.cls ≠ "java/lang/invoke/VarHandle" ∧ (parseMethodDescriptor yC_isRun.desc).map (fun d => d.parameters.length) = some 1 := ⟨rfl, by decide, by decide, by decide +kernel⟩
theorem hd_C_isLine : yC_isLine.cls = RC ∧ yC_isLine.cls ≠ "java/lang/invoke/MethodHandle" ∧ yC_isLine.cls ≠ "java/lang/invoke/VarHandle" ∧ (parseMethodDescriptor yC_isLine.desc).map (fun d => d.parameters.length) = some 2 := ⟨rfl, by decide, by decide, by decide +kernel⟩
theorem hd_C_hitsLine : yC_hitsLine.cls = RC ∧ yC_hitsLine.cls ≠ "java/lang/invoke/MethodHandle" ∧ yC_hitsLine.cls ≠ "java/lang/invoke/VarHandle" ∧ (parseMethodDescriptor yC_hitsLine.desc).map (fun d => d.parameters.length) = some 2 := ⟨rfl, by decide, by decide, by decide +kernel⟩
theorem hd_C_covered : yC_covered.cls = RC ∧ yC_covered.cls ≠ "java/lang/invoke/MethodHandle" ∧ yC_covered.cls ≠ "java/lang/invoke/VarHandle" ∧ (parseMethodDescriptor yC_covered.desc).map (fun d => d.parameters.length) = some 2 := ⟨rfl, by decide, by decide, by decide +kernel⟩
theorem hd_C_map : yC_map.cls = RC ∧ yC_map.cls ≠ "java/lang/invoke/MethodHandle" ∧ yC_map.cls ≠ "java/lang/invoke/VarHandle" ∧ (parseMethodDescriptor yC_map.desc).map (fun d => d.parameters.length) = some 2 := ⟨rfl, by decide, by decide, by decide +kernel⟩
theorem hd_C_compare : yC_compare.cls = RC ∧ yC_compare.cls ≠ "java/lang/invoke/MethodHandle" ∧ yC_compare.cls ≠ "java/lang/invoke/VarHandle" ∧ (parseMethodDescriptor yC_compare.desc).map (fun d => d.parameters.length) = some 2 := ⟨rfl, by decide, by decide, by decide +kernel⟩
theorem hd_C_countPairs : yC_countPairs.cls = RC ∧ yC_countPairs.cls ≠ "java/lang/invoke/MethodHandle" ∧ yC_countPairs.cls ≠ "java/lang/invoke/VarHandle" ∧ (parseMethodDescriptor yC_countPairs.desc).map (fun d => d.parameters.length) = some 2 := ⟨rfl, by decide, by decide, by decide +kernel⟩
theorem hd_C_choosePairs : yC_choosePairs.cls = RC ∧ yC_choosePairs.cls ≠ "java/lang/invoke/MethodHandle" ∧ yC_choosePairs.cls ≠ "java/lang/invoke/VarHandle" ∧ (parseMethodDescriptor yC_choosePairs.desc).map (fun d => d.parameters.length) = some 2 := ⟨rfl, by decide, by decide, by decide +kernel⟩
theorem hd_C_placeOf : yC_placeOf.cls = RC ∧ yC_placeOf.cls ≠ "java/lang/invoke/MethodHandle" ∧ yC_placeOf.cls ≠ "java/lang/invoke/VarHandle" ∧ (parseMethodDescriptor yC_placeOf.desc).map (fun d => d.parameters.length) = some 3 := ⟨rfl, by decide, by decide, by decide +kernel⟩
theorem hd_C_pairsOf : yC_pairsOf.cls = RC ∧ yC_pairsOf.cls ≠ "java/lang/invoke/MethodHandle" ∧ yC_pairsOf.cls ≠ "java/lang/invoke/VarHandle" ∧ (parseMethodDescriptor yC_pairsOf.desc).map (fun d => d.parameters.length) = some 2 := ⟨rfl, by decide, by decide, by decide +kernel⟩
theorem hd_C_join : yC_join.cls = RC ∧ yC_join.cls ≠ "java/lang/invoke/MethodHandle" ∧ yC_join.cls ≠ "java/lang/invoke/VarHandle" ∧ (parseMethodDescriptor yC_join.desc).map (fun d => d.parameters.length) = some 2 := ⟨rfl, by decide, by decide, by decide +kernel⟩
theorem hd_C_same : yC_same.cls = RC ∧ yC_same.cls ≠ "java/lang/invoke/MethodHandle" ∧ yC_same.cls ≠ "java/lang/invoke/VarHandle" ∧ (parseMethodDescriptor yC_same.desc).map (fun d => d.parameters.length) = some 3 := ⟨rfl, by decide, by decide, by decide +kernel⟩
theorem hd_C_share : yC_share.cls = RC ∧ yC_share.cls ≠ "java/lang/invoke/MethodHandle" ∧ yC_share.cls ≠ "java/lang/invoke/VarHandle" ∧ (parseMethodDescriptor yC_share.desc).map (fun d => d.parameters.length) = some 3 := ⟨rfl, by decide, by decide, by decide +kernel⟩
theorem hd_C_hitShare : yC_hitShare.cls = RC ∧ yC_hitShare.cls ≠ "java/lang/invoke/MethodHandle" ∧ yC_hitShare.cls ≠ "java/lang/invoke/VarHandle" ∧ (parseMethodDescriptor yC_hitShare.desc).map (fun d => d.parameters.length) = some 2 := ⟨rfl, by decide, by decide, by decide +kernel⟩
theorem hd_J_bitCount : yJ_bitCount.cls ≠ "java/lang/invoke/MethodHandle" ∧ yJ_bitCount.cls ≠ "java/lang/invoke/VarHandle" ∧ (parseMethodDescriptor yJ_bitCount.desc).map (fun d => d.parameters.length) = some 1 := ⟨by decide, by decide, by decide +kernel⟩
theorem hd_C_wholeShare : yC_wholeShare.cls = RC ∧ yC_wholeShare.cls ≠ "java/lang/invoke/MethodHandle" ∧ yC_wholeShare.cls ≠ "java/lang/invoke/VarHandle" ∧ (parseMethodDescriptor yC_wholeShare.desc).map (fun d => d.parameters.length) = some 2 := ⟨rfl, by decide, by decide, by decide +kernel⟩
theorem hd_C_fresh : yC_fresh.cls = RC ∧ yC_fresh.cls ≠ "java/lang/invoke/MethodHandle" ∧ yC_fresh.cls ≠ "java/lang/invoke/VarHandle" ∧ (parseMethodDescriptor yC_fresh.desc).map (fun d => d.parameters.length) = some 3 := ⟨rfl, by decide, by decide, by decide +kernel⟩
theorem hd_C_ungenerated : yC_ungenerated.cls = RC ∧ yC_ungenerated.cls ≠ "java/lang/invoke/MethodHandle" ∧ yC_ungenerated.cls ≠ "java/lang/invoke/VarHandle" ∧ (parseMethodDescriptor yC_ungenerated.desc).map (fun d => d.parameters.length) = some 1 := ⟨rfl, by decide, by decide, by decide +kernel⟩
theorem hd_C_firstBits : yC_firstBits.cls ≠ "java/lang/invoke/MethodHandle" ∧ yC_firstBits.cls ≠ "java/lang/invoke/VarHandle" ∧ (parseMethodDescriptor yC_firstBits.desc).map (fun d => d.parameters.length) = some 1 := ⟨by decide, by decide, by decide +kernel⟩
theorem hd_C_falls : yC_falls.cls = RC ∧ yC_falls.cls ≠ "java/lang/invoke/MethodHandle" ∧ yC_falls.cls ≠ "java/lang/invoke/VarHandle" ∧ (parseMethodDescriptor yC_falls.desc).map (fun d => d.parameters.length) = some 3 := ⟨rfl, by decide, by decide, by decide +kernel⟩
theorem hd_C_dead : yC_dead.cls = RC ∧ yC_dead.cls ≠ "java/lang/invoke/MethodHandle" ∧ yC_dead.cls ≠ "java/lang/invoke/VarHandle" ∧ (parseMethodDescriptor yC_dead.desc).map (fun d => d.parameters.length) = some 1 := ⟨rfl, by decide, by decide, by decide +kernel⟩
theorem hd_C_least : yC_least.cls = RC ∧ yC_least.cls ≠ "java/lang/invoke/MethodHandle" ∧ yC_least.cls ≠ "java/lang/invoke/VarHandle" ∧ (parseMethodDescriptor yC_least.desc).map (fun d => d.parameters.length) = some 1 := ⟨rfl, by decide, by decide, by decide +kernel⟩
theorem hd_C_gatherCandidates : yC_gatherCandidates.cls = RC ∧ yC_gatherCandidates.cls ≠ "java/lang/invoke/MethodHandle" ∧ yC_gatherCandidates.cls ≠ "java/lang/invoke/VarHandle" ∧ (parseMethodDescriptor yC_gatherCandidates.desc).map (fun d => d.parameters.length) = some 1 := ⟨rfl, by decide, by decide, by decide +kernel⟩
theorem hd_C_weightOf : yC_weightOf.cls = RC ∧ yC_weightOf.cls ≠ "java/lang/invoke/MethodHandle" ∧ yC_weightOf.cls ≠ "java/lang/invoke/VarHandle" ∧ (parseMethodDescriptor yC_weightOf.desc).map (fun d => d.parameters.length) = some 1 := ⟨rfl, by decide, by decide, by decide +kernel⟩
theorem hd_C_lightest : yC_lightest.cls ≠ "java/lang/invoke/MethodHandle" ∧ yC_lightest.cls ≠ "java/lang/invoke/VarHandle" ∧ (parseMethodDescriptor yC_lightest.desc).map (fun d => d.parameters.length) = some 5 := ⟨by decide, by decide, by decide +kernel⟩
theorem hd_C_chosen : yC_chosen.cls = RC ∧ yC_chosen.cls ≠ "java/lang/invoke/MethodHandle" ∧ yC_chosen.cls ≠ "java/lang/invoke/VarHandle" ∧ (parseMethodDescriptor yC_chosen.desc).map (fun d => d.parameters.length) = some 0 := ⟨rfl, by decide, by decide, by decide +kernel⟩
theorem hd_C_about : yC_about.cls = RC ∧ yC_about.cls ≠ "java/lang/invoke/MethodHandle" ∧ yC_about.cls ≠ "java/lang/invoke/VarHandle" ∧ (parseMethodDescriptor yC_about.desc).map (fun d => d.parameters.length) = some 2 := ⟨rfl, by decide, by decide, by decide +kernel⟩
theorem hd_M_edition : yM_edition.cls = RM ∧ yM_edition.cls ≠ "java/lang/invoke/MethodHandle" ∧ yM_edition.cls ≠ "java/lang/invoke/VarHandle" ∧ (parseMethodDescriptor yM_edition.desc).map (fun d => d.parameters.length) = some 0 := ⟨rfl, by decide, by decide, by decide +kernel⟩
theorem hd_M_line : yM_line.cls = RM ∧ yM_line.cls ≠ "java/lang/invoke/MethodHandle" ∧ yM_line.cls ≠ "java/lang/invoke/VarHandle" ∧ (parseMethodDescriptor yM_line.desc).map (fun d => d.parameters.length) = some 4 := ⟨rfl, by decide, by decide, by decide +kernel⟩
theorem hd_M_in : yM_in.cls ≠ "java/lang/invoke/MethodHandle" ∧ yM_in.cls ≠ "java/lang/invoke/VarHandle" ∧ (parseMethodDescriptor yM_in.desc).map (fun d => d.parameters.length) = some 2 := ⟨by decide, by decide, by decide +kernel⟩
theorem hd_M_lines : yM_lines.cls = RM ∧ yM_lines.cls ≠ "java/lang/invoke/MethodHandle" ∧ yM_lines.cls ≠ "java/lang/invoke/VarHandle" ∧ (parseMethodDescriptor yM_lines.desc).map (fun d => d.parameters.length) = some 1 := ⟨rfl, by decide, by decide, by decide +kernel⟩
theorem hd_M_run : yM_run.cls = RM ∧ yM_run.cls ≠ "java/lang/invoke/MethodHandle" ∧ yM_run.cls ≠ "java/lang/invoke/VarHandle" ∧ (parseMethodDescriptor yM_run.desc).map (fun d => d.parameters.length) = some 2 := ⟨rfl, by decide, by decide, by decide +kernel⟩
theorem hd_M_newRun : yM_newRun.cls = RM ∧ yM_newRun.cls ≠ "java/lang/invoke/MethodHandle" ∧ yM_newRun.cls ≠ "java/lang/invoke/VarHandle" ∧ (parseMethodDescriptor yM_newRun.desc).map (fun d => d.parameters.length) = some 3 := ⟨rfl, by decide, by decide, by decide +kernel⟩
theorem hd_M_hit : yM_hit.cls = RM ∧ yM_hit.cls ≠ "java/lang/invoke/MethodHandle" ∧ yM_hit.cls ≠ "java/lang/invoke/VarHandle" ∧ (parseMethodDescriptor yM_hit.desc).map (fun d => d.parameters.length) = some 2 := ⟨rfl, by decide, by decide, by decide +kernel⟩
theorem hd_M_isLine : yM_isLine.cls = RM ∧ yM_isLine.cls ≠ "java/lang/invoke/MethodHandle" ∧ yM_isLine.cls ≠ "java/lang/invoke/VarHandle" ∧ (parseMethodDescriptor yM_isLine.desc).map (fun d => d.parameters.length) = some 2 := ⟨rfl, by decide, by decide, by decide +kernel⟩
theorem hd_M_isHit : yM_isHit.cls = RM ∧ yM_isHit.cls ≠ "java/lang/invoke/MethodHandle" ∧ yM_isHit.cls ≠ "java/lang/invoke/VarHandle" ∧ (parseMethodDescriptor yM_isHit.desc).map (fun d => d.parameters.length) = some 2 := ⟨rfl, by decide, by decide, by decide +kernel⟩
theorem hd_M_covered : yM_covered.cls = RM ∧ yM_covered.cls ≠ "java/lang/invoke/MethodHandle" ∧ yM_covered.cls ≠ "java/lang/invoke/VarHandle" ∧ (parseMethodDescriptor yM_covered.desc).map (fun d => d.parameters.length) = some 2 := ⟨rfl, by decide, by decide, by decide +kernel⟩
theorem hd_M_same : yM_same.cls = RM ∧ yM_same.cls ≠ "java/lang/invoke/MethodHandle" ∧ yM_same.cls ≠ "java/lang/invoke/VarHandle" ∧ (parseMethodDescriptor yM_same.desc).map (fun d => d.parameters.length) = some 3 := ⟨rfl, by decide, by decide, by decide +kernel⟩
theorem hd_M_compare : yM_compare.cls = RM ∧ yM_compare.cls ≠ "java/lang/invoke/MethodHandle" ∧ yM_compare.cls ≠ "java/lang/invoke/VarHandle" ∧ (parseMethodDescriptor yM_compare.desc).map (fun d => d.parameters.length) = some 2 := ⟨rfl, by decide, by decide, by decide +kernel⟩
theorem hd_M_isAlike : yM_isAlike.cls = RM ∧ yM_isAlike.cls ≠ "java/lang/invoke/MethodHandle" ∧ yM_isAlike.cls ≠ "java/lang/invoke/VarHandle" ∧ (parseMethodDescriptor yM_isAlike.desc).map (fun d => d.parameters.length) = some 4 := ⟨rfl, by decide, by decide, by decide +kernel⟩
theorem hd_M_map : yM_map.cls = RM ∧ yM_map.cls ≠ "java/lang/invoke/MethodHandle" ∧ yM_map.cls ≠ "java/lang/invoke/VarHandle" ∧ (parseMethodDescriptor yM_map.desc).map (fun d => d.parameters.length) = some 2 := ⟨rfl, by decide, by decide, by decide +kernel⟩
theorem hd_M_join : yM_join.cls = RM ∧ yM_join.cls ≠ "java/lang/invoke/MethodHandle" ∧ yM_join.cls ≠ "java/lang/invoke/VarHandle" ∧ (parseMethodDescriptor yM_join.desc).map (fun d => d.parameters.length) = some 2 := ⟨rfl, by decide, by decide, by decide +kernel⟩
theorem hd_M_share : yM_share.cls = RM ∧ yM_share.cls ≠ "java/lang/invoke/MethodHandle" ∧ yM_share.cls ≠ "java/lang/invoke/VarHandle" ∧ (parseMethodDescriptor yM_share.desc).map (fun d => d.parameters.length) = some 3 := ⟨rfl, by decide, by decide, by decide +kernel⟩
theorem hd_M_shareOf : yM_shareOf.cls = RM ∧ yM_shareOf.cls ≠ "java/lang/invoke/MethodHandle" ∧ yM_shareOf.cls ≠ "java/lang/invoke/VarHandle" ∧ (parseMethodDescriptor yM_shareOf.desc).map (fun d => d.parameters.length) = some 3 := ⟨rfl, by decide, by decide, by decide +kernel⟩
theorem hd_M_fresh : yM_fresh.cls = RM ∧ yM_fresh.cls ≠ "java/lang/invoke/MethodHandle" ∧ yM_fresh.cls ≠ "java/lang/invoke/VarHandle" ∧ (parseMethodDescriptor yM_fresh.desc).map (fun d => d.parameters.length) = some 3 := ⟨rfl, by decide, by decide, by decide +kernel⟩
theorem hd_M_falls : yM_falls.cls = RM ∧ yM_falls.cls ≠ "java/lang/invoke/MethodHandle" ∧ yM_falls.cls ≠ "java/lang/invoke/VarHandle" ∧ (parseMethodDescriptor yM_falls.desc).map (fun d => d.parameters.length) = some 3 := ⟨rfl, by decide, by decide, by decide +kernel⟩
theorem hd_M_dead : yM_dead.cls = RM ∧ yM_dead.cls ≠ "java/lang/invoke/MethodHandle" ∧ yM_dead.cls ≠ "java/lang/invoke/VarHandle" ∧ (parseMethodDescriptor yM_dead.desc).map (fun d => d.parameters.length) = some 1 := ⟨rfl, by decide, by decide, by decide +kernel⟩
theorem hd_M_least : yM_least.cls = RM ∧ yM_least.cls ≠ "java/lang/invoke/MethodHandle" ∧ yM_least.cls ≠ "java/lang/invoke/VarHandle" ∧ (parseMethodDescriptor yM_least.desc).map (fun d => d.parameters.length) = some 1 := ⟨rfl, by decide, by decide, by decide +kernel⟩
theorem hd_M_ones : yM_ones.cls ≠ "java/lang/invoke/MethodHandle" ∧ yM_ones.cls ≠ "java/lang/invoke/VarHandle" ∧ (parseMethodDescriptor yM_ones.desc).map (fun d => d.parameters.length) = some 1 := ⟨by decide, by decide, by decide +kernel⟩
theorem hd_M_chosen : yM_chosen.cls = RM ∧ yM_chosen.cls ≠ "java/lang/invoke/MethodHandle" ∧ yM_chosen.cls ≠ "java/lang/invoke/VarHandle" ∧ (parseMethodDescriptor yM_chosen.desc).map (fun d => d.parameters.length) = some 0 := ⟨rfl, by decide, by decide, by decide +kernel⟩
theorem hd_M_about : yM_about.cls = RM ∧ yM_about.cls ≠ "java/lang/invoke/MethodHandle" ∧ yM_about.cls ≠ "java/lang/invoke/VarHandle" ∧ (parseMethodDescriptor yM_about.desc).map (fun d => d.parameters.length) = some 2 := ⟨rfl, by decide, by decide, by decide +kernel⟩
/-- one less than a -/
def cj_p (a : Nat) : Int32 := nI a - 1
theorem cj_dp (a : Nat) : nI a + Int32.ofInt (-1) = cj_p a := by
  unfold cj_p
  rw [Int32.sub_eq_add_neg]
  rfl
theorem cj_p0 : cj_p 0 = (-1) := by decide
theorem cj_ps (a : Nat) : cj_p (a + 1) = nI a := nI_pred a
theorem cj_bz (b : Bool) : bI b = nI 0 ∨ bI b = nI 1 := by cases b <;> decide
theorem cj_max {a b : Nat} (ha : a < 2 ^ 31) (hb : b < 2 ^ 31) : (if nI a < nI b then nI b else nI a) = nI (max a b) := by
  by_cases h : a < b
  · rw [if_pos ((nI_ltI ha hb).mpr h), Nat.max_eq_right (Nat.le_of_lt h)]
  · rw [if_neg (fun q => h ((nI_ltI ha hb).mp q)), Nat.max_eq_left (Nat.not_lt.mp h)]
theorem cj_min {a b : Nat} (ha : a < 2 ^ 31) (hb : b < 2 ^ 31) : (if nI b < nI a then nI b else nI a) = nI (min a b) := by
  by_cases h : b < a
  · rw [if_pos ((nI_ltI hb ha).mpr h), Nat.min_eq_right (Nat.le_of_lt h)]
  · rw [if_neg (fun q => h ((nI_ltI hb ha).mp q)), Nat.min_eq_left (Nat.not_lt.mp h)]
/-- x is one of the first k numbers -/
def cj_in (x : Int32) (k : Nat) : Prop := ∃ j, j < k ∧ x = nI j
theorem cj_ixt {x : Int32} {k : Nat} (h0 : ¬ x < 0) (h1 : ¬ nI k ≤ x) (hk : k < 2 ^ 31) : cj_in x k := by
  rcases pk_ix x hk with h | h | h
  · exact absurd h h0
  · exact absurd h h1
  · exact h
theorem cj_ixf0 {x : Int32} {k : Nat} (h : x < 0) (hk : k < 2 ^ 31) : ¬ cj_in x k := fun ⟨j, hj, e⟩ => by
  rw [e] at h
  exact nI_pos (Nat.lt_trans hj hk) h
theorem cj_ixf1 {x : Int32} {k : Nat} (h : nI k ≤ x) (hk : k < 2 ^ 31) : ¬ cj_in x k := fun ⟨j, hj, e⟩ => by
  rw [e] at h
  have := (nI_leI hk (Nat.lt_trans hj hk)).mp h
  omega
theorem cj_in_inj {j k : Nat} (h : cj_in (nI j) k) (hj : j < 2 ^ 31) (hk : k < 2 ^ 31) : j < k := by
  obtain ⟨i, hi, e⟩ := h
  have := (nI_eq hj (Nat.lt_trans hi hk)).mp e
  omega
