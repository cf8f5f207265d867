set_option maxRecDepth 100000 in
set_option maxHeartbeats 4000000 in
theorem c_C_hitsLine (l : Launch) (D : va_G) (kd : Nat → ClassId) (ad : Nat → Nat) {E : Nat} {n : Nat → Nat} {cl : Nat → Bool} {con : Nat → Nat → Int32} {ow : Nat → Nat → Int64} {rn : Nat} {ed : Nat → Nat} {co : Nat → Nat} {hz : Nat → Int64} {mp : Nat → Nat → Nat} {pr : Nat → Int32} {cn : Nat} {hs : Nat → Int64} {wg : Nat → Int64} {rs : Nat → Int64} {ch : Int32} (j i : Nat) (hj : j < 14) (hi : i < 40) : cj_Mi (S := Unit) l yC_hitsLine cC_hitsLine 3 (some .boolean) 1 D kd [.ref (ad 0), .int (nI j), .int (nI i)] (wC kd ad E n cl con ow rn ed co hz mp pr cn hs wg rs ch) (fun r _ => r = bI (cj_tb (hz j) i)) (fun _ => wC kd ad E n cl con ow rn ed co hz mp pr cn hs wg rs ch) := by
  refine cj_ofi (by decide) (Nat.le_of_ble_eq_true rfl) ?_
  intro p e s m below meth c A ls X hr V hl
  obtain ⟨⟨hx, hb, hml, hown, hts⟩, hK, hlk⟩ := id X
  have hl : lv_has ls 3 [(0, .ref (ad 0)), (1, .int (nI j)), (2, .int (nI i))] := hl
  refine lv_aload_n hx hb dC_hitsLine_0 rfl (lv_at hl 0 rfl) ?_
  refine gC 8 X V fl_C_40 (by decide) rfl dC_hitsLine_1 ?_
  refine lv_iload_n hx hb dC_hitsLine_4 rfl (lv_at hl 1 rfl) ?_
  refine rC_hi X V (by omega) dC_hitsLine_5 ?_
  refine lv_iload_n hx hb dC_hitsLine_6 rfl (lv_at hl 2 rfl) ?_
  refine cj_csl X V (c_C_bitOf l D kd ad i (by omega)) ml_C_67 st_C_bitOf in_C cd_C_bitOf hd_C_bitOf ⟨by decide, by decide⟩ ⟨Nat.le_refl _, Nat.le_refl _⟩ hl.1 rfl (Nat.le_of_ble_eq_true rfl) dC_hitsLine_7 (fun r_9 u_9 H locs hw V => ?_)
  obtain rfl := hw
  refine lv_land hx hb dC_hitsLine_10 ?_
  refine lv_lconst (v := 0) hx hb dC_hitsLine_11 (by decide) ?_
  refine cj_l_eq (tgt := 20) hx hb dC_hitsLine_12 dC_hitsLine_13 (by decide) (fun c_1 => ?_) (fun c_1 => ?_)
  ·
    refine lv_iconst (v := nI 0) hx hb dC_hitsLine_20 (by decide) ?_
    exact cj_retz () X hr V (by decide) (by first | (rw [cj_ab_t (by omega) ‹_›]; rfl) | (rw [cj_ab_f (by omega) ‹_›]; rfl)) dC_hitsLine_21
  ·
    refine lv_iconst (v := nI 1) hx hb dC_hitsLine_16 (by decide) ?_
    refine lv_goto (tgt := 21) hx hb dC_hitsLine_17 (by decide) ?_
    exact cj_retz () X hr V (by decide) (by first | (rw [cj_ab_t (by omega) ‹_›]; rfl) | (rw [cj_ab_f (by omega) ‹_›]; rfl)) dC_hitsLine_21
set_option maxRecDepth 100000 in
set_option maxHeartbeats 4000000 in
theorem c_C_lines (l : Launch) (D : va_G) (kd : Nat → ClassId) (ad : Nat → Nat) {E : Nat} {n : Nat → Nat} {cl : Nat → Bool} {con : Nat → Nat → Int32} {ow : Nat → Nat → Int64} {rn : Nat} {ed : Nat → Nat} {co : Nat → Nat} {hz : Nat → Int64} {mp : Nat → Nat → Nat} {pr : Nat → Int32} {cn : Nat} {hs : Nat → Int64} {wg : Nat → Int64} {rs : Nat → Int64} {ch : Int32} (hE : E ≤ 8) (hn : ∀ i, n i ≤ 40) (hR : rn ≤ 14) (hed : ∀ r, r < rn → ed r < E) (hco : ∀ r, co r ≤ 100000) (x : Int32) : cj_Mi (S := Unit) l yC_lines cC_lines 2 (some .int) 1 D kd [.ref (ad 0), .int x] (wC kd ad E n cl con ow rn ed co hz mp pr cn hs wg rs ch) (fun r _ => r = f_lines E n x) (fun _ => wC kd ad E n cl con ow rn ed co hz mp pr cn hs wg rs ch) := by
  refine cj_ofi (by decide) (Nat.le_of_ble_eq_true rfl) ?_
  intro p e s m below meth c A ls X hr V hl
  obtain ⟨⟨hx, hb, hml, hown, hts⟩, hK, hlk⟩ := id X
  have hl : lv_has ls 2 [(0, .ref (ad 0)), (1, .int x)] := hl
  refine lv_aload_n hx hb dC_lines_0 rfl (lv_at hl 0 rfl) ?_
  refine lv_iload_n hx hb dC_lines_1 rfl (lv_at hl 1 rfl) ?_
  refine cj_cvi X V (c_C_isEdition l D kd ad hE x) 0 1 rfl rfl rfl ml_C_60 im_C_isEdition se_C_isEdition in_C cd_C_isEdition hd_C_isEdition ⟨by decide, by decide⟩ ⟨Nat.le_refl _, Nat.le_refl _⟩ hl.1 rfl (Nat.le_of_ble_eq_true rfl) dC_lines_2 (fun r_9 u_9 H locs hw V => ?_)
  rcases hw with ⟨rfl, j_1, hj_1, rfl⟩ | ⟨rfl, hj_1⟩
  ·
    have ij_1 := cj_ix_t hj_1 (show E < 2 ^ 31 by omega)
    refine lv_if_eq (tgt := 17) hx hb dC_lines_5 (by decide) (fun h => absurd h (by decide)) (fun _ => ?_)
    refine lv_aload_n hx hb dC_lines_8 rfl (lv_at hl 0 rfl) ?_
    refine gC 1 X V fl_C_13 (by decide) rfl dC_lines_9 ?_
    refine lv_iload_n hx hb dC_lines_12 rfl (lv_at hl 1 rfl) ?_
    refine rC_n X V (by omega) dC_lines_13 ?_
    have f_e_3 := hn j_1
    refine lv_goto (tgt := 18) hx hb dC_lines_14 (by decide) ?_
    exact cj_reti () X hr V (by simp only [f_lines, ij_1]) dC_lines_18
  ·
    have ij_1 := cj_ix_f hj_1
    refine lv_if_eq (tgt := 17) hx hb dC_lines_5 (by decide) (fun _ => ?_) (fun h => absurd (by decide) h)
    refine lv_iconst (v := (-1)) hx hb dC_lines_17 (by decide) ?_
    exact cj_reti () X hr V (by simp only [f_lines, ij_1]) dC_lines_18
set_option maxRecDepth 100000 in
set_option maxHeartbeats 4000000 in
theorem c_C_edition (l : Launch) (D : va_G) (kd : Nat → ClassId) (ad : Nat → Nat) {E : Nat} {n : Nat → Nat} {cl : Nat → Bool} {con : Nat → Nat → Int32} {ow : Nat → Nat → Int64} {rn : Nat} {ed : Nat → Nat} {co : Nat → Nat} {hz : Nat → Int64} {mp : Nat → Nat → Nat} {pr : Nat → Int32} {cn : Nat} {hs : Nat → Int64} {wg : Nat → Int64} {rs : Nat → Int64} {ch : Int32} (hE : E ≤ 8) : cj_Mi (S := Nat) l yC_edition cC_edition 2 (some .int) 0 D kd [.ref (ad 0)] (wC kd ad E n cl con ow rn ed co hz mp pr cn hs wg rs ch) (fun r E' => r = f_edition E ∧ E' = e_E E) (fun E' => wC kd ad E' n cl con ow rn ed co hz mp pr cn hs wg rs ch) := by
  refine cj_ofi (by decide) (Nat.le_of_ble_eq_true rfl) ?_
  intro p e s m below meth c A ls X hr V hl
  obtain ⟨⟨hx, hb, hml, hown, hts⟩, hK, hlk⟩ := id X
  have hl : lv_has ls 2 [(0, .ref (ad 0))] := hl
  refine lv_aload_n hx hb dC_edition_0 rfl (lv_at hl 0 rfl) ?_
  refine gC 0 X V fl_C_9 (by decide) rfl dC_edition_1 ?_
  refine lv_bipush (v := nI 8) hx hb dC_edition_4 (by decide) ?_
  refine cj_n_lt (tgt := 11) hx hb dC_edition_6 (by decide) (by omega) (by omega) (fun c_1 => ?_) (fun c_1 => ?_)
  ·
    refine lv_aload_n hx hb dC_edition_11 rfl (lv_at hl 0 rfl) ?_
    refine gC 0 X V fl_C_9 (by decide) rfl dC_edition_12 ?_
    refine lv_istore_n (lv' := [(1, .int (nI E)), (0, .ref (ad 0))]) hx hb dC_edition_15 rfl hl (by decide) rfl (fun ls hl => ?_)
    refine lv_aload_n hx hb dC_edition_16 rfl (lv_at hl 1 rfl) ?_
    refine lv_iload_n hx hb dC_edition_17 rfl (lv_at hl 0 rfl) ?_
    refine lv_iconst (v := nI 1) hx hb dC_edition_18 (by decide) ?_
    refine cj_iaddN hx hb dC_edition_19 ?_
    refine pC_E X V fl_C_9 dC_edition_20 (fun H locs V => ?_)
    refine lv_iload_n hx hb dC_edition_23 rfl (lv_at hl 0 rfl) ?_
    exact cj_reti (E + 1) X hr V (by unfold f_edition e_E; first | (rw [if_pos (by omega), if_pos (by omega)]; exact ⟨rfl, rfl⟩) | (rw [if_neg (by omega), if_neg (by omega)]; exact ⟨rfl, rfl⟩)) dC_edition_24
  ·
    refine lv_iconst (v := (-1)) hx hb dC_edition_9 (by decide) ?_
    exact cj_reti E X hr V (by unfold f_edition e_E; first | (rw [if_pos (by omega), if_pos (by omega)]; exact ⟨rfl, rfl⟩) | (rw [if_neg (by omega), if_neg (by omega)]; exact ⟨rfl, rfl⟩)) dC_edition_10
set_option maxRecDepth 100000 in
set_option maxHeartbeats 4000000 in
theorem c_C_covered (l : Launch) (D : va_G) (kd : Nat → ClassId) (ad : Nat → Nat) {E : Nat} {n : Nat → Nat} {cl : Nat → Bool} {con : Nat → Nat → Int32} {ow : Nat → Nat → Int64} {rn : Nat} {ed : Nat → Nat} {co : Nat → Nat} {hz : Nat → Int64} {mp : Nat → Nat → Nat} {pr : Nat → Int32} {cn : Nat} {hs : Nat → Int64} {wg : Nat → Int64} {rs : Nat → Int64} {ch : Int32} (hE : E ≤ 8) (hn : ∀ i, n i ≤ 40) (hR : rn ≤ 14) (hed : ∀ r, r < rn → ed r < E) (hco : ∀ r, co r ≤ 100000) (x y : Int32) : cj_Mi (S := Unit) l yC_covered cC_covered 3 (some .boolean) 2 D kd [.ref (ad 0), .int x, .int y] (wC kd ad E n cl con ow rn ed co hz mp pr cn hs wg rs ch) (fun r _ => r = f_covered rn n ed hz x y) (fun _ => wC kd ad E n cl con ow rn ed co hz mp pr cn hs wg rs ch) := by
  refine cj_ofi (by decide) (Nat.le_of_ble_eq_true rfl) ?_
  intro p e s m below meth c A ls X hr V hl
  obtain ⟨⟨hx, hb, hml, hown, hts⟩, hK, hlk⟩ := id X
  have hl : lv_has ls 3 [(0, .ref (ad 0)), (1, .int x), (2, .int y)] := hl
  refine lv_aload_n hx hb dC_covered_0 rfl (lv_at hl 0 rfl) ?_
  refine lv_iload_n hx hb dC_covered_1 rfl (lv_at hl 1 rfl) ?_
  refine cj_cvi X V (c_C_isRun l D kd ad hR x) 0 1 rfl rfl rfl ml_C_76 im_C_isRun se_C_isRun in_C cd_C_isRun hd_C_isRun ⟨by decide, by decide⟩ ⟨Nat.le_refl _, Nat.le_refl _⟩ hl.1 rfl (Nat.le_of_ble_eq_true rfl) dC_covered_2 (fun r_9 u_9 H locs hw V => ?_)
  rcases hw with ⟨rfl, j_1, hj_1, rfl⟩ | ⟨rfl, hj_1⟩
  ·
    have ij_1 := cj_ix_t hj_1 (show rn < 2 ^ 31 by omega)
    refine lv_if_eq (tgt := 35) hx hb dC_covered_5 (by decide) (fun h => absurd h (by decide)) (fun _ => ?_)
    refine lv_aload_n hx hb dC_covered_8 rfl (lv_at hl 0 rfl) ?_
    refine lv_aload_n hx hb dC_covered_9 rfl (lv_at hl 0 rfl) ?_
    refine gC 6 X V fl_C_34 (by decide) rfl dC_covered_10 ?_
    refine lv_iload_n hx hb dC_covered_13 rfl (lv_at hl 1 rfl) ?_
    refine rC_ed X V (by omega) dC_covered_14 ?_
    have f_e_3 := hed j_1 (by omega)
    refine lv_iload_n hx hb dC_covered_15 rfl (lv_at hl 2 rfl) ?_
    refine cj_cvi X V (c_C_isLine l D kd ad (ed j_1) (by omega) (hn _) y) 0 1 rfl rfl rfl ml_C_79 im_C_isLine se_C_isLine in_C cd_C_isLine hd_C_isLine ⟨by decide, by decide⟩ ⟨Nat.le_refl _, Nat.le_refl _⟩ hl.1 rfl (Nat.le_of_ble_eq_true rfl) dC_covered_16 (fun r_9 u_9 H locs hw V => ?_)
    rcases hw with ⟨rfl, j_4, hj_4, rfl⟩ | ⟨rfl, hj_4⟩
    ·
      have fj_4 := hn (ed j_1)
      have ij_4 := cj_ix_t hj_4 (show n (ed j_1) < 2 ^ 31 by omega)
      refine lv_if_eq (tgt := 35) hx hb dC_covered_19 (by decide) (fun h => absurd h (by decide)) (fun _ => ?_)
      refine lv_aload_n hx hb dC_covered_22 rfl (lv_at hl 0 rfl) ?_
      refine lv_iload_n hx hb dC_covered_23 rfl (lv_at hl 1 rfl) ?_
      refine lv_iload_n hx hb dC_covered_24 rfl (lv_at hl 2 rfl) ?_
      refine cj_cvi X V (c_C_hitsLine l D kd ad j_1 j_4 (by omega) (by omega)) 0 1 rfl rfl rfl ml_C_83 im_C_hitsLine se_C_hitsLine in_C cd_C_hitsLine hd_C_hitsLine ⟨by decide, by decide⟩ ⟨Nat.le_refl _, Nat.le_refl _⟩ hl.1 rfl (Nat.le_of_ble_eq_true rfl) dC_covered_25 (fun r_9 u_9 H locs hw V => ?_)
      obtain rfl := hw
      refine cj_b_eq (tgt := 35) hx hb dC_covered_28 (by decide) (fun c_6 => ?_) (fun c_6 => ?_)
      ·
        refine lv_iconst (v := nI 0) hx hb dC_covered_35 (by decide) ?_
        exact cj_retz () X hr V (by decide) (by simp only [f_covered, ij_1, ij_4, c_6]; try rfl) dC_covered_36
      ·
        refine lv_iconst (v := nI 1) hx hb dC_covered_31 (by decide) ?_
        refine lv_goto (tgt := 36) hx hb dC_covered_32 (by decide) ?_
        exact cj_retz () X hr V (by decide) (by simp only [f_covered, ij_1, ij_4, c_6]; try rfl) dC_covered_36
    ·
      have ij_4 := cj_ix_f hj_4
      refine lv_if_eq (tgt := 35) hx hb dC_covered_19 (by decide) (fun _ => ?_) (fun h => absurd (by decide) h)
      refine lv_iconst (v := nI 0) hx hb dC_covered_35 (by decide) ?_
      exact cj_retz () X hr V (by decide) (by simp only [f_covered, ij_1, ij_4]; try rfl) dC_covered_36
  ·
    have ij_1 := cj_ix_f hj_1
    refine lv_if_eq (tgt := 35) hx hb dC_covered_5 (by decide) (fun _ => ?_) (fun h => absurd (by decide) h)
    refine lv_iconst (v := nI 0) hx hb dC_covered_35 (by decide) ?_
    exact cj_retz () X hr V (by decide) (by simp only [f_covered, ij_1]; try rfl) dC_covered_36
set_option maxRecDepth 100000 in
set_option maxHeartbeats 4000000 in
theorem c_C_chosen (l : Launch) (D : va_G) (kd : Nat → ClassId) (ad : Nat → Nat) {E : Nat} {n : Nat → Nat} {cl : Nat → Bool} {con : Nat → Nat → Int32} {ow : Nat → Nat → Int64} {rn : Nat} {ed : Nat → Nat} {co : Nat → Nat} {hz : Nat → Int64} {mp : Nat → Nat → Nat} {pr : Nat → Int32} {cn : Nat} {hs : Nat → Int64} {wg : Nat → Int64} {rs : Nat → Int64} {ch : Int32}  : cj_Mi (S := Unit) l yC_chosen cC_chosen 1 (some .int) 0 D kd [.ref (ad 0)] (wC kd ad E n cl con ow rn ed co hz mp pr cn hs wg rs ch) (fun r _ => r = ch) (fun _ => wC kd ad E n cl con ow rn ed co hz mp pr cn hs wg rs ch) := by
  refine cj_ofi (by decide) (Nat.le_of_ble_eq_true rfl) ?_
  intro p e s m below meth c A ls X hr V hl
  obtain ⟨⟨hx, hb, hml, hown, hts⟩, hK, hlk⟩ := id X
  have hl : lv_has ls 1 [(0, .ref (ad 0))] := hl
  refine lv_aload_n hx hb dC_chosen_0 rfl (lv_at hl 0 rfl) ?_
  refine gC 12 X V fl_C_57 (by decide) rfl dC_chosen_1 ?_
  exact cj_reti () X hr V rfl dC_chosen_4
set_option maxRecDepth 100000 in
set_option maxHeartbeats 4000000 in
theorem c_C_addRun (l : Launch) (D : va_G) (kd : Nat → ClassId) (ad : Nat → Nat) {E : Nat} {n : Nat → Nat} {cl : Nat → Bool} {con : Nat → Nat → Int32} {ow : Nat → Nat → Int64} {rn : Nat} {ed : Nat → Nat} {co : Nat → Nat} {hz : Nat → Int64} {mp : Nat → Nat → Nat} {pr : Nat → Int32} {cn : Nat} {hs : Nat → Int64} {wg : Nat → Int64} {rs : Nat → Int64} {ch : Int32} (ea ca : Nat) (h : Int64) (hR : rn ≤ 14) (he : ea < 8) : cj_Mi (S := Nat × (Nat → Nat) × (Nat → Nat) × (Nat → Int64) × (Nat → Bool)) l yC_addRun cC_addRun 6 (some .int) 0 D kd [.ref (ad 0), .int (nI ea), .int (nI ca), .long h] (wC kd ad E n cl con ow rn ed co hz mp pr cn hs wg rs ch) (fun r u => r = f_add rn (o_room rn ea ca h) ∧ u = (a_rn rn (o_room rn ea ca h), a_ed rn ed (o_room rn ea ca h), a_co rn co (o_room rn ea ca h), a_hz rn hz (o_room rn ea ca h), a_cl cl (o_room rn ea ca h))) (fun u => wC kd ad E n u.2.2.2.2 con ow u.1 u.2.1 u.2.2.1 u.2.2.2.1 mp pr cn hs wg rs ch) := by
  refine cj_ofi (by decide) (Nat.le_of_ble_eq_true rfl) ?_
  intro p e s m below meth c A ls X hr V hl
  obtain ⟨⟨hx, hb, hml, hown, hts⟩, hK, hlk⟩ := id X
  have hl : lv_has ls 6 [(0, .ref (ad 0)), (1, .int (nI ea)), (2, .int (nI ca)), (3, .long h)] := hl
  refine lv_aload_n hx hb dC_addRun_0 rfl (lv_at hl 0 rfl) ?_
  refine gC 5 X V fl_C_31 (by decide) rfl dC_addRun_1 ?_
  refine lv_bipush (v := nI 14) hx hb dC_addRun_4 (by decide) ?_
  refine cj_n_lt (tgt := 11) hx hb dC_addRun_6 (by decide) (by omega) (by omega) (fun c_1 => ?_) (fun c_1 => ?_)
  ·
    refine lv_aload_n hx hb dC_addRun_11 rfl (lv_at hl 0 rfl) ?_
    refine gC 5 X V fl_C_31 (by decide) rfl dC_addRun_12 ?_
    refine lv_istore (lv' := [(5, .int (nI rn)), (0, .ref (ad 0)), (1, .int (nI ea)), (2, .int (nI ca)), (3, .long h)]) hx hb dC_addRun_15 hl (by decide) rfl (fun ls hl => ?_)
    refine lv_aload_n hx hb dC_addRun_17 rfl (lv_at hl 1 rfl) ?_
    refine gC 6 X V fl_C_34 (by decide) rfl dC_addRun_18 ?_
    refine lv_iload hx hb dC_addRun_21 (lv_at hl 0 rfl) ?_
    refine lv_iload_n hx hb dC_addRun_23 rfl (lv_at hl 2 rfl) ?_
    refine sC_ed X V (by omega) dC_addRun_24 (fun H locs V => ?_)
    refine lv_aload_n hx hb dC_addRun_25 rfl (lv_at hl 1 rfl) ?_
    refine gC 7 X V fl_C_37 (by decide) rfl dC_addRun_26 ?_
    refine lv_iload hx hb dC_addRun_29 (lv_at hl 0 rfl) ?_
    refine lv_iload_n hx hb dC_addRun_31 rfl (lv_at hl 3 rfl) ?_
    refine sC_co X V (by omega) dC_addRun_32 (fun H locs V => ?_)
    refine lv_aload_n hx hb dC_addRun_33 rfl (lv_at hl 1 rfl) ?_
    refine gC 8 X V fl_C_40 (by decide) rfl dC_addRun_34 ?_
    refine lv_iload hx hb dC_addRun_37 (lv_at hl 0 rfl) ?_
    refine lv_lload_n hx hb dC_addRun_39 rfl (lv_at hl 4 rfl) ?_
    refine sC_hi X V (by omega) dC_addRun_40 (fun H locs V => ?_)
    refine lv_aload_n hx hb dC_addRun_41 rfl (lv_at hl 1 rfl) ?_
    refine lv_iload hx hb dC_addRun_42 (lv_at hl 0 rfl) ?_
    refine lv_iconst (v := nI 1) hx hb dC_addRun_44 (by decide) ?_
    refine cj_iaddN hx hb dC_addRun_45 ?_
    refine pC_rn X V fl_C_31 dC_addRun_46 (fun H locs V => ?_)
    refine lv_aload_n hx hb dC_addRun_49 rfl (lv_at hl 1 rfl) ?_
    refine gC 2 X V fl_C_17 (by decide) rfl dC_addRun_50 ?_
    refine lv_iload_n hx hb dC_addRun_53 rfl (lv_at hl 2 rfl) ?_
    refine lv_iconst (v := nI 1) hx hb dC_addRun_54 (by decide) ?_
    refine sC_cl (x := true) X V (by omega) dC_addRun_55 (fun H locs V => ?_)
    refine lv_iload hx hb dC_addRun_56 (lv_at hl 0 rfl) ?_
    exact cj_reti (rn + 1, va_up ed rn ea, va_up co rn ca, va_up hz rn h, va_up cl ea true) X hr V (by unfold o_room; first | (rw [if_pos (by omega)]; exact ⟨rfl, rfl⟩) | (rw [if_neg (by omega)]; exact ⟨rfl, rfl⟩)) dC_addRun_58
  ·
    refine lv_iconst (v := (-1)) hx hb dC_addRun_9 (by decide) ?_
    exact cj_reti (rn, ed, co, hz, cl) X hr V (by unfold o_room; first | (rw [if_pos (by omega)]; exact ⟨rfl, rfl⟩) | (rw [if_neg (by omega)]; exact ⟨rfl, rfl⟩)) dC_addRun_10
set_option maxRecDepth 100000 in
set_option maxHeartbeats 4000000 in
theorem c_C_wholeShare (l : Launch) (D : va_G) (kd : Nat → ClassId) (ad : Nat → Nat) {E : Nat} {n : Nat → Nat} {cl : Nat → Bool} {con : Nat → Nat → Int32} {ow : Nat → Nat → Int64} {rn : Nat} {ed : Nat → Nat} {co : Nat → Nat} {hz : Nat → Int64} {mp : Nat → Nat → Nat} {pr : Nat → Int32} {cn : Nat} {hs : Nat → Int64} {wg : Nat → Int64} {rs : Nat → Int64} {ch : Int32} (j o : Nat) (hj : j < 14) (ho : o < 4) (he : ed j < 8) : cj_Mi (S := Unit) l yC_wholeShare cC_wholeShare 3 (some .int) 1 D kd [.ref (ad 0), .int (nI j), .int (nI o)] (wC kd ad E n cl con ow rn ed co hz mp pr cn hs wg rs ch) (fun r _ => r = nI (cj_pop (ow (ed j) o))) (fun _ => wC kd ad E n cl con ow rn ed co hz mp pr cn hs wg rs ch) := by
  refine cj_ofi (by decide) (Nat.le_of_ble_eq_true rfl) ?_
  intro p e s m below meth c A ls X hr V hl
  obtain ⟨⟨hx, hb, hml, hown, hts⟩, hK, hlk⟩ := id X
  have hl : lv_has ls 3 [(0, .ref (ad 0)), (1, .int (nI j)), (2, .int (nI o))] := hl
  refine lv_aload_n hx hb dC_wholeShare_0 rfl (lv_at hl 0 rfl) ?_
  refine gC 4 X V fl_C_28 (by decide) rfl dC_wholeShare_1 ?_
  refine lv_aload_n hx hb dC_wholeShare_4 rfl (lv_at hl 0 rfl) ?_
  refine gC 6 X V fl_C_34 (by decide) rfl dC_wholeShare_5 ?_
  refine lv_iload_n hx hb dC_wholeShare_8 rfl (lv_at hl 1 rfl) ?_
  refine rC_ed X V (by omega) dC_wholeShare_9 ?_
  refine rC_owO X V (by omega) dC_wholeShare_10 ?_
  refine lv_iload_n hx hb dC_wholeShare_11 rfl (lv_at hl 2 rfl) ?_
  refine rC_owR X V (by omega) (by omega) dC_wholeShare_12 ?_
  refine cj_csi X V (c_J_bitCount l D kd _ (ow (ed j) o)) ml_C_114 st_J_bitCount in_J cd_J_bitCount hd_J_bitCount ⟨by decide, by decide⟩ ⟨Nat.le_refl _, Nat.le_refl _⟩ hl.1 rfl (Nat.le_of_ble_eq_true rfl) dC_wholeShare_13 (fun r_9 u_9 H locs hw V => ?_)
  obtain rfl := hw
  have f_q_1 := cj_pop_le (ow (ed j) o)
  exact cj_reti () X hr V rfl dC_wholeShare_16
set_option maxRecDepth 100000 in
set_option maxHeartbeats 4000000 in
theorem c_C_hitShare (l : Launch) (D : va_G) (kd : Nat → ClassId) (ad : Nat → Nat) {E : Nat} {n : Nat → Nat} {cl : Nat → Bool} {con : Nat → Nat → Int32} {ow : Nat → Nat → Int64} {rn : Nat} {ed : Nat → Nat} {co : Nat → Nat} {hz : Nat → Int64} {mp : Nat → Nat → Nat} {pr : Nat → Int32} {cn : Nat} {hs : Nat → Int64} {wg : Nat → Int64} {rs : Nat → Int64} {ch : Int32} (j o : Nat) (hj : j < 14) (ho : o < 4) (he : ed j < 8) : cj_Mi (S := Unit) l yC_hitShare cC_hitShare 3 (some .int) 1 D kd [.ref (ad 0), .int (nI j), .int (nI o)] (wC kd ad E n cl con ow rn ed co hz mp pr cn hs wg rs ch) (fun r _ => r = nI (cj_pop (ow (ed j) o &&& hz j))) (fun _ => wC kd ad E n cl con ow rn ed co hz mp pr cn hs wg rs ch) := by
  refine cj_ofi (by decide) (Nat.le_of_ble_eq_true rfl) ?_
  intro p e s m below meth c A ls X hr V hl
  obtain ⟨⟨hx, hb, hml, hown, hts⟩, hK, hlk⟩ := id X
  have hl : lv_has ls 3 [(0, .ref (ad 0)), (1, .int (nI j)), (2, .int (nI o))] := hl
  refine lv_aload_n hx hb dC_hitShare_0 rfl (lv_at hl 0 rfl) ?_
  refine gC 4 X V fl_C_28 (by decide) rfl dC_hitShare_1 ?_
  refine lv_aload_n hx hb dC_hitShare_4 rfl (lv_at hl 0 rfl) ?_
  refine gC 6 X V fl_C_34 (by decide) rfl dC_hitShare_5 ?_
  refine lv_iload_n hx hb dC_hitShare_8 rfl (lv_at hl 1 rfl) ?_
  refine rC_ed X V (by omega) dC_hitShare_9 ?_
  refine rC_owO X V (by omega) dC_hitShare_10 ?_
  refine lv_iload_n hx hb dC_hitShare_11 rfl (lv_at hl 2 rfl) ?_
  refine rC_owR X V (by omega) (by omega) dC_hitShare_12 ?_
  refine lv_aload_n hx hb dC_hitShare_13 rfl (lv_at hl 0 rfl) ?_
  refine gC 8 X V fl_C_40 (by decide) rfl dC_hitShare_14 ?_
  refine lv_iload_n hx hb dC_hitShare_17 rfl (lv_at hl 1 rfl) ?_
  refine rC_hi X V (by omega) dC_hitShare_18 ?_
  refine lv_land hx hb dC_hitShare_19 ?_
  refine cj_csi X V (c_J_bitCount l D kd _ ((ow (ed j) o) &&& (hz j))) ml_C_114 st_J_bitCount in_J cd_J_bitCount hd_J_bitCount ⟨by decide, by decide⟩ ⟨Nat.le_refl _, Nat.le_refl _⟩ hl.1 rfl (Nat.le_of_ble_eq_true rfl) dC_hitShare_20 (fun r_9 u_9 H locs hw V => ?_)
  obtain rfl := hw
  have f_q_1 := cj_pop_le ((ow (ed j) o) &&& (hz j))
  exact cj_reti () X hr V rfl dC_hitShare_23
