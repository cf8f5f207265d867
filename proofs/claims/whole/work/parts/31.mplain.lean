set_option maxRecDepth 100000 in
set_option maxHeartbeats 4000000 in
theorem c_M_in (l : Launch) (D : va_G) (kd : Nat → ClassId) (ad : Nat → Nat) {E : Nat} {rn : Nat} {ch : Int32} {n : Nat → Nat} {con : Nat → Int32} {ow : Nat → Nat} {ge : Nat → Bool} {cl : Nat → Bool} {ed : Nat → Nat} {co : Nat → Nat} {hz : Nat → Int64} {lo : Nat → Nat} {pr : Nat → Int32} (x : Int32) (k : Nat) (hk : k < 2 ^ 31) : cj_Mi (S := Unit) l yM_in cM_in 2 (some .boolean) 0 D kd [.int x, .int (nI k)] (wM kd ad E rn ch n con ow ge cl ed co hz lo pr) (fun r _ => (r = nI 1 ∧ cj_in x k) ∨ (r = nI 0 ∧ ¬ cj_in x k)) (fun _ => wM kd ad E rn ch n con ow ge cl ed co hz lo pr) := by
  refine cj_ofi (by decide) (Nat.le_of_ble_eq_true rfl) ?_
  intro p e s m below meth c A ls X hr V hl
  obtain ⟨⟨hx, hb, hml, hown, hts⟩, hK, hlk⟩ := id X
  have hl : lv_has ls 2 [(0, .int x), (1, .int (nI k))] := hl
  refine lv_iload_n hx hb dM_in_0 rfl (lv_at hl 0 rfl) ?_
  refine lv_if_lt (tgt := 13) hx hb dM_in_1 (by decide) (fun c_1 => ?_) (fun c_1 => ?_)
  ·
    refine lv_iconst (v := nI 0) hx hb dM_in_13 (by decide) ?_
    exact cj_retz () X hr V (by decide) (by first | exact Or.inl ⟨rfl, cj_ixt ‹_› ‹_› (by omega)⟩ | exact Or.inr ⟨rfl, cj_ixf0 ‹_› (by omega)⟩ | exact Or.inr ⟨rfl, cj_ixf1 ‹_› (by omega)⟩) dM_in_14
  ·
    refine lv_iload_n hx hb dM_in_4 rfl (lv_at hl 0 rfl) ?_
    refine lv_iload_n hx hb dM_in_5 rfl (lv_at hl 1 rfl) ?_
    refine lv_icmp_ge (tgt := 13) hx hb dM_in_6 (by decide) (fun c_2 => ?_) (fun c_2 => ?_)
    ·
      refine lv_iconst (v := nI 0) hx hb dM_in_13 (by decide) ?_
      exact cj_retz () X hr V (by decide) (by first | exact Or.inl ⟨rfl, cj_ixt ‹_› ‹_› (by omega)⟩ | exact Or.inr ⟨rfl, cj_ixf0 ‹_› (by omega)⟩ | exact Or.inr ⟨rfl, cj_ixf1 ‹_› (by omega)⟩) dM_in_14
    ·
      refine lv_iconst (v := nI 1) hx hb dM_in_9 (by decide) ?_
      refine lv_goto (tgt := 14) hx hb dM_in_10 (by decide) ?_
      exact cj_retz () X hr V (by decide) (by first | exact Or.inl ⟨rfl, cj_ixt ‹_› ‹_› (by omega)⟩ | exact Or.inr ⟨rfl, cj_ixf0 ‹_› (by omega)⟩ | exact Or.inr ⟨rfl, cj_ixf1 ‹_› (by omega)⟩) dM_in_14
set_option maxRecDepth 100000 in
set_option maxHeartbeats 4000000 in
theorem c_M_edition (l : Launch) (D : va_G) (kd : Nat → ClassId) (ad : Nat → Nat) {E : Nat} {rn : Nat} {ch : Int32} {n : Nat → Nat} {con : Nat → Int32} {ow : Nat → Nat} {ge : Nat → Bool} {cl : Nat → Bool} {ed : Nat → Nat} {co : Nat → Nat} {hz : Nat → Int64} {lo : Nat → Nat} {pr : Nat → Int32} (hE : E ≤ 8) : cj_Mi (S := Nat) l yM_edition cM_edition 1 (some .int) 0 D kd [.ref (ad 0)] (wM kd ad E rn ch n con ow ge cl ed co hz lo pr) (fun r E' => r = f_edition E ∧ E' = e_E E) (fun E' => wM kd ad E' rn ch n con ow ge cl ed co hz lo pr) := by
  refine cj_ofi (by decide) (Nat.le_of_ble_eq_true rfl) ?_
  intro p e s m below meth c A ls X hr V hl
  obtain ⟨⟨hx, hb, hml, hown, hts⟩, hK, hlk⟩ := id X
  have hl : lv_has ls 1 [(0, .ref (ad 0))] := hl
  refine lv_aload_n hx hb dM_edition_0 rfl (lv_at hl 0 rfl) ?_
  refine gM 0 X V fl_M_42 (by decide) rfl dM_edition_1 ?_
  refine lv_bipush (v := nI 8) hx hb dM_edition_4 (by decide) ?_
  refine cj_n_ne (tgt := 11) hx hb dM_edition_6 (by decide) (by omega) (by omega) (fun c_1 => ?_) (fun c_1 => ?_)
  ·
    refine lv_aload_n hx hb dM_edition_11 rfl (lv_at hl 0 rfl) ?_
    refine lv_dup hx hb dM_edition_12 rfl ?_
    refine gM 0 X V fl_M_42 (by decide) rfl dM_edition_13 ?_
    refine lv_iconst (v := nI 1) hx hb dM_edition_16 (by decide) ?_
    refine cj_iaddN hx hb dM_edition_17 ?_
    refine pM_E X V fl_M_42 dM_edition_18 (fun H locs V => ?_)
    refine lv_aload_n hx hb dM_edition_21 rfl (lv_at hl 0 rfl) ?_
    refine gM 0 X V fl_M_42 (by decide) rfl dM_edition_22 ?_
    refine lv_iconst (v := nI 1) hx hb dM_edition_25 (by decide) ?_
    refine cj_isubN hx hb (by omega) dM_edition_26 ?_
    exact cj_reti (E + 1) X hr V (by unfold f_edition e_E; first | (rw [if_pos (by omega), if_pos (by omega)]; exact ⟨by congr 1, rfl⟩) | (rw [if_neg (by omega), if_neg (by omega)]; exact ⟨rfl, rfl⟩)) dM_edition_27
  ·
    refine lv_iconst (v := (-1)) hx hb dM_edition_9 (by decide) ?_
    exact cj_reti E X hr V (by unfold f_edition e_E; first | (rw [if_pos (by omega), if_pos (by omega)]; exact ⟨by congr 1, rfl⟩) | (rw [if_neg (by omega), if_neg (by omega)]; exact ⟨rfl, rfl⟩)) dM_edition_10
set_option maxRecDepth 100000 in
set_option maxHeartbeats 4000000 in
theorem c_M_lines (l : Launch) (D : va_G) (kd : Nat → ClassId) (ad : Nat → Nat) {E : Nat} {rn : Nat} {ch : Int32} {n : Nat → Nat} {con : Nat → Int32} {ow : Nat → Nat} {ge : Nat → Bool} {cl : Nat → Bool} {ed : Nat → Nat} {co : Nat → Nat} {hz : Nat → Int64} {lo : Nat → Nat} {pr : Nat → Int32} (hE : E ≤ 8) (hn : ∀ i, n i ≤ 40) (hR : rn ≤ 14) (hed : ∀ r, r < rn → ed r < E) (hco : ∀ r, co r ≤ 100000) (x : Int32) : cj_Mi (S := Unit) l yM_lines cM_lines 2 (some .int) 1 D kd [.ref (ad 0), .int x] (wM kd ad E rn ch n con ow ge cl ed co hz lo pr) (fun r _ => r = f_lines E n x) (fun _ => wM kd ad E rn ch n con ow ge cl ed co hz lo pr) := by
  refine cj_ofi (by decide) (Nat.le_of_ble_eq_true rfl) ?_
  intro p e s m below meth c A ls X hr V hl
  obtain ⟨⟨hx, hb, hml, hown, hts⟩, hK, hlk⟩ := id X
  have hl : lv_has ls 2 [(0, .ref (ad 0)), (1, .int x)] := hl
  refine lv_iload_n hx hb dM_lines_0 rfl (lv_at hl 1 rfl) ?_
  refine lv_aload_n hx hb dM_lines_1 rfl (lv_at hl 0 rfl) ?_
  refine gM 0 X V fl_M_42 (by decide) rfl dM_lines_2 ?_
  refine cj_csi X V (c_M_in l D kd ad x E (by omega)) ml_M_46 st_M_in in_M cd_M_in hd_M_in ⟨by decide, by decide⟩ ⟨Nat.le_refl _, Nat.le_refl _⟩ hl.1 rfl (Nat.le_of_ble_eq_true rfl) dM_lines_5 (fun r_9 u_9 H locs hw V => ?_)
  rcases hw with ⟨rfl, j_1, hj_1, rfl⟩ | ⟨rfl, hj_1⟩
  ·
    have ij_1 := cj_ix_t hj_1 (show E < 2 ^ 31 by omega)
    refine lv_if_eq (tgt := 20) hx hb dM_lines_8 (by decide) (fun h => absurd h (by decide)) (fun _ => ?_)
    refine lv_aload_n hx hb dM_lines_11 rfl (lv_at hl 0 rfl) ?_
    refine gM 3 X V fl_M_7 (by decide) rfl dM_lines_12 ?_
    refine lv_iload_n hx hb dM_lines_15 rfl (lv_at hl 1 rfl) ?_
    refine rM_n X V (by omega) dM_lines_16 ?_
    have f_e_3 := hn j_1
    refine lv_goto (tgt := 21) hx hb dM_lines_17 (by decide) ?_
    exact cj_reti () X hr V (by simp only [f_lines, ij_1]) dM_lines_21
  ·
    have ij_1 := cj_ix_f hj_1
    refine lv_if_eq (tgt := 20) hx hb dM_lines_8 (by decide) (fun _ => ?_) (fun h => absurd (by decide) h)
    refine lv_iconst (v := (-1)) hx hb dM_lines_20 (by decide) ?_
    exact cj_reti () X hr V (by simp only [f_lines, ij_1]) dM_lines_21
set_option maxRecDepth 100000 in
set_option maxHeartbeats 4000000 in
theorem c_M_chosen (l : Launch) (D : va_G) (kd : Nat → ClassId) (ad : Nat → Nat) {E : Nat} {rn : Nat} {ch : Int32} {n : Nat → Nat} {con : Nat → Int32} {ow : Nat → Nat} {ge : Nat → Bool} {cl : Nat → Bool} {ed : Nat → Nat} {co : Nat → Nat} {hz : Nat → Int64} {lo : Nat → Nat} {pr : Nat → Int32}  : cj_Mi (S := Unit) l yM_chosen cM_chosen 1 (some .int) 0 D kd [.ref (ad 0)] (wM kd ad E rn ch n con ow ge cl ed co hz lo pr) (fun r _ => r = ch) (fun _ => wM kd ad E rn ch n con ow ge cl ed co hz lo pr) := by
  refine cj_ofi (by decide) (Nat.le_of_ble_eq_true rfl) ?_
  intro p e s m below meth c A ls X hr V hl
  obtain ⟨⟨hx, hb, hml, hown, hts⟩, hK, hlk⟩ := id X
  have hl : lv_has ls 1 [(0, .ref (ad 0))] := hl
  refine lv_aload_n hx hb dM_chosen_0 rfl (lv_at hl 0 rfl) ?_
  refine gM 2 X V fl_M_82 (by decide) rfl dM_chosen_1 ?_
  exact cj_reti () X hr V rfl dM_chosen_4
set_option maxRecDepth 100000 in
set_option maxHeartbeats 4000000 in
theorem c_M_newRun (l : Launch) (D : va_G) (kd : Nat → ClassId) (ad : Nat → Nat) {E : Nat} {rn : Nat} {ch : Int32} {n : Nat → Nat} {con : Nat → Int32} {ow : Nat → Nat} {ge : Nat → Bool} {cl : Nat → Bool} {ed : Nat → Nat} {co : Nat → Nat} {hz : Nat → Int64} {lo : Nat → Nat} {pr : Nat → Int32} (ea ca : Nat) (h : Int64) (hr14 : rn < 14) (he : ea < 8) : cj_Mi (S := Nat × (Nat → Nat) × (Nat → Nat) × (Nat → Int64) × (Nat → Bool)) l yM_newRun cM_newRun 5 (some .int) 0 D kd [.ref (ad 0), .int (nI ea), .int (nI ca), .long h] (wM kd ad E rn ch n con ow ge cl ed co hz lo pr) (fun r u => r = nI rn ∧ u = (rn + 1, va_up ed rn ea, va_up co rn ca, va_up hz rn h, va_up cl ea true)) (fun u => wM kd ad E u.1 ch n con ow ge u.2.2.2.2 u.2.1 u.2.2.1 u.2.2.2.1 lo pr) := by
  refine cj_ofi (by decide) (Nat.le_of_ble_eq_true rfl) ?_
  intro p e s m below meth c A ls X hr V hl
  obtain ⟨⟨hx, hb, hml, hown, hts⟩, hK, hlk⟩ := id X
  have hl : lv_has ls 5 [(0, .ref (ad 0)), (1, .int (nI ea)), (2, .int (nI ca)), (3, .long h)] := hl
  refine lv_aload_n hx hb dM_newRun_0 rfl (lv_at hl 0 rfl) ?_
  refine gM 8 X V fl_M_26 (by decide) rfl dM_newRun_1 ?_
  refine lv_aload_n hx hb dM_newRun_4 rfl (lv_at hl 0 rfl) ?_
  refine gM 1 X V fl_M_50 (by decide) rfl dM_newRun_5 ?_
  refine lv_iload_n hx hb dM_newRun_8 rfl (lv_at hl 1 rfl) ?_
  refine sM_ed X V (by omega) dM_newRun_9 (fun H locs V => ?_)
  refine lv_aload_n hx hb dM_newRun_10 rfl (lv_at hl 0 rfl) ?_
  refine gM 9 X V fl_M_29 (by decide) rfl dM_newRun_11 ?_
  refine lv_aload_n hx hb dM_newRun_14 rfl (lv_at hl 0 rfl) ?_
  refine gM 1 X V fl_M_50 (by decide) rfl dM_newRun_15 ?_
  refine lv_iload_n hx hb dM_newRun_18 rfl (lv_at hl 2 rfl) ?_
  refine sM_co X V (by omega) dM_newRun_19 (fun H locs V => ?_)
  refine lv_aload_n hx hb dM_newRun_20 rfl (lv_at hl 0 rfl) ?_
  refine gM 10 X V fl_M_32 (by decide) rfl dM_newRun_21 ?_
  refine lv_aload_n hx hb dM_newRun_24 rfl (lv_at hl 0 rfl) ?_
  refine gM 1 X V fl_M_50 (by decide) rfl dM_newRun_25 ?_
  refine lv_lload_n hx hb dM_newRun_28 rfl (lv_at hl 3 rfl) ?_
  refine sM_hi X V (by omega) dM_newRun_29 (fun H locs V => ?_)
  refine lv_aload_n hx hb dM_newRun_30 rfl (lv_at hl 0 rfl) ?_
  refine gM 7 X V fl_M_23 (by decide) rfl dM_newRun_31 ?_
  refine lv_iload_n hx hb dM_newRun_34 rfl (lv_at hl 1 rfl) ?_
  refine lv_iconst (v := nI 1) hx hb dM_newRun_35 (by decide) ?_
  refine sM_cl (x := true) X V (by omega) dM_newRun_36 (fun H locs V => ?_)
  refine lv_aload_n hx hb dM_newRun_37 rfl (lv_at hl 0 rfl) ?_
  refine lv_dup hx hb dM_newRun_38 rfl ?_
  refine gM 1 X V fl_M_50 (by decide) rfl dM_newRun_39 ?_
  refine lv_iconst (v := nI 1) hx hb dM_newRun_42 (by decide) ?_
  refine cj_iaddN hx hb dM_newRun_43 ?_
  refine pM_rn X V fl_M_50 dM_newRun_44 (fun H locs V => ?_)
  refine lv_aload_n hx hb dM_newRun_47 rfl (lv_at hl 0 rfl) ?_
  refine gM 1 X V fl_M_50 (by decide) rfl dM_newRun_48 ?_
  refine lv_iconst (v := nI 1) hx hb dM_newRun_51 (by decide) ?_
  refine cj_isubN hx hb (by omega) dM_newRun_52 ?_
  exact cj_reti (rn + 1, va_up ed rn ea, va_up co rn ca, va_up hz rn h, va_up cl ea true) X hr V ⟨rfl, rfl⟩ dM_newRun_53
set_option maxRecDepth 100000 in
set_option maxHeartbeats 4000000 in
theorem c_M_isHit (l : Launch) (D : va_G) (kd : Nat → ClassId) (ad : Nat → Nat) {E : Nat} {rn : Nat} {ch : Int32} {n : Nat → Nat} {con : Nat → Int32} {ow : Nat → Nat} {ge : Nat → Bool} {cl : Nat → Bool} {ed : Nat → Nat} {co : Nat → Nat} {hz : Nat → Int64} {lo : Nat → Nat} {pr : Nat → Int32} (j i : Nat) (hj : j < 14) (hi : i < 40) : cj_Mi (S := Unit) l yM_isHit cM_isHit 3 (some .boolean) 0 D kd [.ref (ad 0), .int (nI j), .int (nI i)] (wM kd ad E rn ch n con ow ge cl ed co hz lo pr) (fun r _ => r = bI (cj_tb (hz j) i)) (fun _ => wM kd ad E rn ch n con ow ge cl ed co hz lo pr) := by
  refine cj_ofi (by decide) (Nat.le_of_ble_eq_true rfl) ?_
  intro p e s m below meth c A ls X hr V hl
  obtain ⟨⟨hx, hb, hml, hown, hts⟩, hK, hlk⟩ := id X
  have hl : lv_has ls 3 [(0, .ref (ad 0)), (1, .int (nI j)), (2, .int (nI i))] := hl
  refine lv_aload_n hx hb dM_isHit_0 rfl (lv_at hl 0 rfl) ?_
  refine gM 10 X V fl_M_32 (by decide) rfl dM_isHit_1 ?_
  refine lv_iload_n hx hb dM_isHit_4 rfl (lv_at hl 1 rfl) ?_
  refine rM_hi X V (by omega) dM_isHit_5 ?_
  refine lv_iload_n hx hb dM_isHit_6 rfl (lv_at hl 2 rfl) ?_
  refine lv_lshr hx hb dM_isHit_7 rfl ?_
  refine lv_lconst (v := lN 1) hx hb dM_isHit_8 (by decide) ?_
  refine lv_land hx hb dM_isHit_9 ?_
  refine lv_lconst (v := lN 1) hx hb dM_isHit_10 (by decide) ?_
  refine cj_l_ne (tgt := 19) hx hb dM_isHit_11 dM_isHit_12 (by decide) (fun c_1 => ?_) (fun c_1 => ?_)
  ·
    refine lv_iconst (v := nI 0) hx hb dM_isHit_19 (by decide) ?_
    exact cj_retz () X hr V (by decide) (by first | (rw [cj_sar_t (by omega) ‹_›]; rfl) | (rw [cj_sar_f (by omega) ‹_›]; rfl)) dM_isHit_20
  ·
    refine lv_iconst (v := nI 1) hx hb dM_isHit_15 (by decide) ?_
    refine lv_goto (tgt := 20) hx hb dM_isHit_16 (by decide) ?_
    exact cj_retz () X hr V (by decide) (by first | (rw [cj_sar_t (by omega) ‹_›]; rfl) | (rw [cj_sar_f (by omega) ‹_›]; rfl)) dM_isHit_20
set_option maxRecDepth 100000 in
set_option maxHeartbeats 4000000 in
theorem c_M_isLine (l : Launch) (D : va_G) (kd : Nat → ClassId) (ad : Nat → Nat) {E : Nat} {rn : Nat} {ch : Int32} {n : Nat → Nat} {con : Nat → Int32} {ow : Nat → Nat} {ge : Nat → Bool} {cl : Nat → Bool} {ed : Nat → Nat} {co : Nat → Nat} {hz : Nat → Int64} {lo : Nat → Nat} {pr : Nat → Int32} (hn : ∀ i, n i ≤ 40) (hR : rn ≤ 14) (hed : ∀ r, r < rn → ed r < 8) (x y : Int32) : cj_Mi (S := Unit) l yM_isLine cM_isLine 3 (some .boolean) 1 D kd [.ref (ad 0), .int x, .int y] (wM kd ad E rn ch n con ow ge cl ed co hz lo pr) (fun r _ => (r = nI 1 ∧ ∃ j, j < rn ∧ x = nI j ∧ ∃ i, i < n (ed j) ∧ y = nI i) ∨ (r = nI 0 ∧ ¬ cj_in x rn) ∨ (r = nI 0 ∧ ∃ j, j < rn ∧ x = nI j ∧ ¬ cj_in y (n (ed j)))) (fun _ => wM kd ad E rn ch n con ow ge cl ed co hz lo pr) := by
  refine cj_ofi (by decide) (Nat.le_of_ble_eq_true rfl) ?_
  intro p e s m below meth c A ls X hr V hl
  obtain ⟨⟨hx, hb, hml, hown, hts⟩, hK, hlk⟩ := id X
  have hl : lv_has ls 3 [(0, .ref (ad 0)), (1, .int x), (2, .int y)] := hl
  refine lv_iload_n hx hb dM_isLine_0 rfl (lv_at hl 1 rfl) ?_
  refine lv_aload_n hx hb dM_isLine_1 rfl (lv_at hl 0 rfl) ?_
  refine gM 1 X V fl_M_50 (by decide) rfl dM_isLine_2 ?_
  refine cj_csi X V (c_M_in l D kd ad x rn (by omega)) ml_M_46 st_M_in in_M cd_M_in hd_M_in ⟨by decide, by decide⟩ ⟨Nat.le_refl _, Nat.le_refl _⟩ hl.1 rfl (Nat.le_of_ble_eq_true rfl) dM_isLine_5 (fun r_9 u_9 H locs hw V => ?_)
  rcases hw with ⟨rfl, j_1, hj_1, rfl⟩ | ⟨rfl, hj_1⟩
  ·
    have ij_1 := cj_ix_t hj_1 (show rn < 2 ^ 31 by omega)
    refine lv_if_eq (tgt := 33) hx hb dM_isLine_8 (by decide) (fun h => absurd h (by decide)) (fun _ => ?_)
    refine lv_iload_n hx hb dM_isLine_11 rfl (lv_at hl 2 rfl) ?_
    refine lv_aload_n hx hb dM_isLine_12 rfl (lv_at hl 0 rfl) ?_
    refine gM 3 X V fl_M_7 (by decide) rfl dM_isLine_13 ?_
    refine lv_aload_n hx hb dM_isLine_16 rfl (lv_at hl 0 rfl) ?_
    refine gM 8 X V fl_M_26 (by decide) rfl dM_isLine_17 ?_
    refine lv_iload_n hx hb dM_isLine_20 rfl (lv_at hl 1 rfl) ?_
    refine rM_ed X V (by omega) dM_isLine_21 ?_
    have f_e_3 := hed j_1 (by omega)
    refine rM_n X V (by omega) dM_isLine_22 ?_
    have f_e_4 := hn (ed j_1)
    refine cj_csi X V (c_M_in l D kd ad y (n (ed j_1)) (by omega)) ml_M_46 st_M_in in_M cd_M_in hd_M_in ⟨by decide, by decide⟩ ⟨Nat.le_refl _, Nat.le_refl _⟩ hl.1 rfl (Nat.le_of_ble_eq_true rfl) dM_isLine_23 (fun r_9 u_9 H locs hw V => ?_)
    rcases hw with ⟨rfl, j_5, hj_5, rfl⟩ | ⟨rfl, hj_5⟩
    ·
      have ij_5 := cj_ix_t hj_5 (show n (ed j_1) < 2 ^ 31 by omega)
      refine lv_if_eq (tgt := 33) hx hb dM_isLine_26 (by decide) (fun h => absurd h (by decide)) (fun _ => ?_)
      refine lv_iconst (v := nI 1) hx hb dM_isLine_29 (by decide) ?_
      refine lv_goto (tgt := 34) hx hb dM_isLine_30 (by decide) ?_
      exact cj_retz () X hr V (by decide) (Or.inl ⟨rfl, j_1, hj_1, rfl, j_5, hj_5, rfl⟩) dM_isLine_34
    ·
      have ij_5 := cj_ix_f hj_5
      refine lv_if_eq (tgt := 33) hx hb dM_isLine_26 (by decide) (fun _ => ?_) (fun h => absurd (by decide) h)
      refine lv_iconst (v := nI 0) hx hb dM_isLine_33 (by decide) ?_
      exact cj_retz () X hr V (by decide) (Or.inr (Or.inr ⟨rfl, j_1, hj_1, rfl, hj_5⟩)) dM_isLine_34
  ·
    have ij_1 := cj_ix_f hj_1
    refine lv_if_eq (tgt := 33) hx hb dM_isLine_8 (by decide) (fun _ => ?_) (fun h => absurd (by decide) h)
    refine lv_iconst (v := nI 0) hx hb dM_isLine_33 (by decide) ?_
    exact cj_retz () X hr V (by decide) (Or.inr (Or.inl ⟨rfl, hj_1⟩)) dM_isLine_34
set_option maxRecDepth 100000 in
set_option maxHeartbeats 4000000 in
theorem c_M_covered (l : Launch) (D : va_G) (kd : Nat → ClassId) (ad : Nat → Nat) {E : Nat} {rn : Nat} {ch : Int32} {n : Nat → Nat} {con : Nat → Int32} {ow : Nat → Nat} {ge : Nat → Bool} {cl : Nat → Bool} {ed : Nat → Nat} {co : Nat → Nat} {hz : Nat → Int64} {lo : Nat → Nat} {pr : Nat → Int32} (hE : E ≤ 8) (hn : ∀ i, n i ≤ 40) (hR : rn ≤ 14) (hed : ∀ r, r < rn → ed r < E) (hco : ∀ r, co r ≤ 100000) (x y : Int32) : cj_Mi (S := Unit) l yM_covered cM_covered 3 (some .boolean) 2 D kd [.ref (ad 0), .int x, .int y] (wM kd ad E rn ch n con ow ge cl ed co hz lo pr) (fun r _ => r = f_covered rn n ed hz x y) (fun _ => wM kd ad E rn ch n con ow ge cl ed co hz lo pr) := by
  refine cj_ofi (by decide) (Nat.le_of_ble_eq_true rfl) ?_
  intro p e s m below meth c A ls X hr V hl
  obtain ⟨⟨hx, hb, hml, hown, hts⟩, hK, hlk⟩ := id X
  have hl : lv_has ls 3 [(0, .ref (ad 0)), (1, .int x), (2, .int y)] := hl
  refine lv_aload_n hx hb dM_covered_0 rfl (lv_at hl 0 rfl) ?_
  refine lv_iload_n hx hb dM_covered_1 rfl (lv_at hl 1 rfl) ?_
  refine lv_iload_n hx hb dM_covered_2 rfl (lv_at hl 2 rfl) ?_
  refine cj_cvi X V (c_M_isLine l D kd ad hn hR (fun r h => by have := hed r h; omega) x y) 0 2 rfl rfl rfl ml_M_58 im_M_isLine se_M_isLine in_M cd_M_isLine hd_M_isLine ⟨by decide, by decide⟩ ⟨Nat.le_refl _, Nat.le_refl _⟩ hl.1 rfl (Nat.le_of_ble_eq_true rfl) dM_covered_3 (fun r_9 u_9 H locs hw V => ?_)
  rcases hw with ⟨rfl, j_1, hj_1, rfl, k_2, hk_2, rfl⟩ | ⟨rfl, hj_1⟩ | ⟨rfl, j_1, hj_1, rfl, hk_2⟩
  ·
    have fj_1 := hn (ed j_1)
    have ij_1 := cj_ix_t hj_1 (show rn < 2 ^ 31 by omega)
    have ik_2 := cj_ix_t hk_2 (show n (ed j_1) < 2 ^ 31 by omega)
    refine lv_if_eq (tgt := 22) hx hb dM_covered_6 (by decide) (fun h => absurd h (by decide)) (fun _ => ?_)
    refine lv_aload_n hx hb dM_covered_9 rfl (lv_at hl 0 rfl) ?_
    refine lv_iload_n hx hb dM_covered_10 rfl (lv_at hl 1 rfl) ?_
    refine lv_iload_n hx hb dM_covered_11 rfl (lv_at hl 2 rfl) ?_
    refine cj_cvi X V (c_M_isHit l D kd ad j_1 k_2 (by omega) (by omega)) 0 2 rfl rfl rfl ml_M_61 im_M_isHit se_M_isHit in_M cd_M_isHit hd_M_isHit ⟨by decide, by decide⟩ ⟨Nat.le_refl _, Nat.le_refl _⟩ hl.1 rfl (Nat.le_of_ble_eq_true rfl) dM_covered_12 (fun r_9 u_9 H locs hw V => ?_)
    obtain rfl := hw
    refine cj_b_eq (tgt := 22) hx hb dM_covered_15 (by decide) (fun c_4 => ?_) (fun c_4 => ?_)
    ·
      refine lv_iconst (v := nI 0) hx hb dM_covered_22 (by decide) ?_
      exact cj_retz () X hr V (by decide) (by simp only [f_covered, ij_1, ik_2, c_4]; try rfl) dM_covered_23
    ·
      refine lv_iconst (v := nI 1) hx hb dM_covered_18 (by decide) ?_
      refine lv_goto (tgt := 23) hx hb dM_covered_19 (by decide) ?_
      exact cj_retz () X hr V (by decide) (by simp only [f_covered, ij_1, ik_2, c_4]; try rfl) dM_covered_23
  ·
    have ij_1 := cj_ix_f hj_1
    refine lv_if_eq (tgt := 22) hx hb dM_covered_6 (by decide) (fun _ => ?_) (fun h => absurd (by decide) h)
    refine lv_iconst (v := nI 0) hx hb dM_covered_22 (by decide) ?_
    exact cj_retz () X hr V (by decide) (by simp only [f_covered, ij_1]; try rfl) dM_covered_23
  ·
    have ij_1 := cj_ix_t hj_1 (show rn < 2 ^ 31 by omega)
    have ik_2 := cj_ix_f hk_2
    refine lv_if_eq (tgt := 22) hx hb dM_covered_6 (by decide) (fun _ => ?_) (fun h => absurd (by decide) h)
    refine lv_iconst (v := nI 0) hx hb dM_covered_22 (by decide) ?_
    exact cj_retz () X hr V (by decide) (by simp only [f_covered, ij_1, ik_2]; try rfl) dM_covered_23
set_option maxRecDepth 100000 in
set_option maxHeartbeats 4000000 in
theorem c_M_hit (l : Launch) (D : va_G) (kd : Nat → ClassId) (ad : Nat → Nat) {E : Nat} {rn : Nat} {ch : Int32} {n : Nat → Nat} {con : Nat → Int32} {ow : Nat → Nat} {ge : Nat → Bool} {cl : Nat → Bool} {ed : Nat → Nat} {co : Nat → Nat} {hz : Nat → Int64} {lo : Nat → Nat} {pr : Nat → Int32} (hE : E ≤ 8) (hn : ∀ i, n i ≤ 40) (hR : rn ≤ 14) (hed : ∀ r, r < rn → ed r < E) (hco : ∀ r, co r ≤ 100000) (x y : Int32) : cj_Mi (S := Nat → Int64) l yM_hit cM_hit 3 (some .boolean) 2 D kd [.ref (ad 0), .int x, .int y] (wM kd ad E rn ch n con ow ge cl ed co hz lo pr) (fun r u => r = f_hit (o_hit rn n ed hz x y) ∧ u = h_hit hz (o_hit rn n ed hz x y)) (fun u => wM kd ad E rn ch n con ow ge cl ed co u lo pr) := by
  refine cj_ofi (by decide) (Nat.le_of_ble_eq_true rfl) ?_
  intro p e s m below meth c A ls X hr V hl
  obtain ⟨⟨hx, hb, hml, hown, hts⟩, hK, hlk⟩ := id X
  have hl : lv_has ls 3 [(0, .ref (ad 0)), (1, .int x), (2, .int y)] := hl
  refine lv_aload_n hx hb dM_hit_0 rfl (lv_at hl 0 rfl) ?_
  refine lv_iload_n hx hb dM_hit_1 rfl (lv_at hl 1 rfl) ?_
  refine lv_iload_n hx hb dM_hit_2 rfl (lv_at hl 2 rfl) ?_
  refine cj_cvi X V (c_M_isLine l D kd ad hn hR (fun r h => by have := hed r h; omega) x y) 0 2 rfl rfl rfl ml_M_58 im_M_isLine se_M_isLine in_M cd_M_isLine hd_M_isLine ⟨by decide, by decide⟩ ⟨Nat.le_refl _, Nat.le_refl _⟩ hl.1 rfl (Nat.le_of_ble_eq_true rfl) dM_hit_3 (fun r_9 u_9 H locs hw V => ?_)
  rcases hw with ⟨rfl, j_1, hj_1, rfl, k_2, hk_2, rfl⟩ | ⟨rfl, hj_1⟩ | ⟨rfl, j_1, hj_1, rfl, hk_2⟩
  ·
    have fj_1 := hn (ed j_1)
    have ij_1 := cj_ix_t hj_1 (show rn < 2 ^ 31 by omega)
    have ik_2 := cj_ix_t hk_2 (show n (ed j_1) < 2 ^ 31 by omega)
    refine lv_if_eq (tgt := 18) hx hb dM_hit_6 (by decide) (fun h => absurd h (by decide)) (fun _ => ?_)
    refine lv_aload_n hx hb dM_hit_9 rfl (lv_at hl 0 rfl) ?_
    refine lv_iload_n hx hb dM_hit_10 rfl (lv_at hl 1 rfl) ?_
    refine lv_iload_n hx hb dM_hit_11 rfl (lv_at hl 2 rfl) ?_
    refine cj_cvi X V (c_M_isHit l D kd ad j_1 k_2 (by omega) (by omega)) 0 2 rfl rfl rfl ml_M_61 im_M_isHit se_M_isHit in_M cd_M_isHit hd_M_isHit ⟨by decide, by decide⟩ ⟨Nat.le_refl _, Nat.le_refl _⟩ hl.1 rfl (Nat.le_of_ble_eq_true rfl) dM_hit_12 (fun r_9 u_9 H locs hw V => ?_)
    obtain rfl := hw
    refine cj_b_eq (tgt := 20) hx hb dM_hit_15 (by decide) (fun c_4 => ?_) (fun c_4 => ?_)
    ·
      refine lv_aload_n hx hb dM_hit_20 rfl (lv_at hl 0 rfl) ?_
      refine gM 10 X V fl_M_32 (by decide) rfl dM_hit_21 ?_
      refine lv_iload_n hx hb dM_hit_24 rfl (lv_at hl 1 rfl) ?_
      refine lv_dup2_11 hx hb dM_hit_25 rfl rfl ?_
      refine rM_hi X V (by omega) dM_hit_26 ?_
      refine lv_lconst (v := lN 1) hx hb dM_hit_27 (by decide) ?_
      refine lv_iload_n hx hb dM_hit_28 rfl (lv_at hl 2 rfl) ?_
      refine lv_lshl hx hb dM_hit_29 (cj_shl1 (by omega)) ?_
      refine lv_lor hx hb dM_hit_30 ?_
      refine sM_hi X V (by omega) dM_hit_31 (fun H locs V => ?_)
      refine lv_iconst (v := nI 1) hx hb dM_hit_32 (by decide) ?_
      exact cj_retz (va_up hz j_1 ((hz j_1) ||| (cj_bit k_2))) X hr V (by decide) (by refine ⟨?_, ?_⟩ <;> first | (simp only [o_hit, cond_true, cond_false, ij_1, ik_2, c_4]; done) | (simp only [o_hit, cond_true, cond_false, ij_1, ik_2, c_4]; rfl)) dM_hit_33
    ·
      refine lv_iconst (v := nI 0) hx hb dM_hit_18 (by decide) ?_
      exact cj_retz hz X hr V (by decide) (by refine ⟨?_, ?_⟩ <;> first | (simp only [o_hit, cond_true, cond_false, ij_1, ik_2, c_4]; done) | (simp only [o_hit, cond_true, cond_false, ij_1, ik_2, c_4]; rfl)) dM_hit_19
  ·
    have ij_1 := cj_ix_f hj_1
    refine lv_if_eq (tgt := 18) hx hb dM_hit_6 (by decide) (fun _ => ?_) (fun h => absurd (by decide) h)
    refine lv_iconst (v := nI 0) hx hb dM_hit_18 (by decide) ?_
    exact cj_retz hz X hr V (by decide) (by refine ⟨?_, ?_⟩ <;> first | (simp only [o_hit, cond_true, cond_false, ij_1]; done) | (simp only [o_hit, cond_true, cond_false, ij_1]; rfl)) dM_hit_19
  ·
    have ij_1 := cj_ix_t hj_1 (show rn < 2 ^ 31 by omega)
    have ik_2 := cj_ix_f hk_2
    refine lv_if_eq (tgt := 18) hx hb dM_hit_6 (by decide) (fun _ => ?_) (fun h => absurd (by decide) h)
    refine lv_iconst (v := nI 0) hx hb dM_hit_18 (by decide) ?_
    exact cj_retz hz X hr V (by decide) (by refine ⟨?_, ?_⟩ <;> first | (simp only [o_hit, cond_true, cond_false, ij_1, ik_2]; done) | (simp only [o_hit, cond_true, cond_false, ij_1, ik_2]; rfl)) dM_hit_19
set_option maxRecDepth 100000 in
set_option maxHeartbeats 4000000 in
theorem c_M_run (l : Launch) (D : va_G) (kd : Nat → ClassId) (ad : Nat → Nat) {E : Nat} {rn : Nat} {ch : Int32} {n : Nat → Nat} {con : Nat → Int32} {ow : Nat → Nat} {ge : Nat → Bool} {cl : Nat → Bool} {ed : Nat → Nat} {co : Nat → Nat} {hz : Nat → Int64} {lo : Nat → Nat} {pr : Nat → Int32} (hE : E ≤ 8) (hn : ∀ i, n i ≤ 40) (hR : rn ≤ 14) (hed : ∀ r, r < rn → ed r < E) (hco : ∀ r, co r ≤ 100000) (x y : Int32) : cj_Mi (S := Nat × (Nat → Nat) × (Nat → Nat) × (Nat → Int64) × (Nat → Bool)) l yM_run cM_run 3 (some .int) 1 D kd [.ref (ad 0), .int x, .int y] (wM kd ad E rn ch n con ow ge cl ed co hz lo pr) (fun r u => r = f_add rn (o_run E rn x y) ∧ u = (a_rn rn (o_run E rn x y), a_ed rn ed (o_run E rn x y), a_co rn co (o_run E rn x y), a_hz rn hz (o_run E rn x y), a_cl cl (o_run E rn x y))) (fun u => wM kd ad E u.1 ch n con ow ge u.2.2.2.2 u.2.1 u.2.2.1 u.2.2.2.1 lo pr) := by
  refine cj_ofi (by decide) (Nat.le_of_ble_eq_true rfl) ?_
  intro p e s m below meth c A ls X hr V hl
  obtain ⟨⟨hx, hb, hml, hown, hts⟩, hK, hlk⟩ := id X
  have hl : lv_has ls 3 [(0, .ref (ad 0)), (1, .int x), (2, .int y)] := hl
  refine lv_aload_n hx hb dM_run_0 rfl (lv_at hl 0 rfl) ?_
  refine gM 1 X V fl_M_50 (by decide) rfl dM_run_1 ?_
  refine lv_bipush (v := nI 14) hx hb dM_run_4 (by decide) ?_
  refine cj_n_eq (tgt := 30) hx hb dM_run_6 (by decide) (by omega) (by omega) (fun c_1 => ?_) (fun c_1 => ?_)
  ·
    refine lv_iconst (v := (-1)) hx hb dM_run_30 (by decide) ?_
    exact cj_reti (rn, ed, co, hz, cl) X hr V (by rw [o_run_full (by omega)]; exact ⟨rfl, rfl⟩) dM_run_31
  ·
    refine lv_iload_n hx hb dM_run_9 rfl (lv_at hl 1 rfl) ?_
    refine lv_aload_n hx hb dM_run_10 rfl (lv_at hl 0 rfl) ?_
    refine gM 0 X V fl_M_42 (by decide) rfl dM_run_11 ?_
    refine cj_csi X V (c_M_in l D kd ad x E (by omega)) ml_M_46 st_M_in in_M cd_M_in hd_M_in ⟨by decide, by decide⟩ ⟨Nat.le_refl _, Nat.le_refl _⟩ hl.1 rfl (Nat.le_of_ble_eq_true rfl) dM_run_14 (fun r_9 u_9 H locs hw V => ?_)
    rcases hw with ⟨rfl, j_2, hj_2, rfl⟩ | ⟨rfl, hj_2⟩
    ·
      have ij_2 := cj_ix_t hj_2 (show E < 2 ^ 31 by omega)
      refine lv_if_eq (tgt := 30) hx hb dM_run_17 (by decide) (fun h => absurd h (by decide)) (fun _ => ?_)
      refine lv_iload_n hx hb dM_run_20 rfl (lv_at hl 2 rfl) ?_
      refine lv_if_lt (tgt := 30) hx hb dM_run_21 (by decide) (fun c_4 => ?_) (fun c_4 => ?_)
      ·
        have iy := cj_ix_f (cj_ixf0 (k := 100001) c_4 (by decide))
        refine lv_iconst (v := (-1)) hx hb dM_run_30 (by decide) ?_
        exact cj_reti (rn, ed, co, hz, cl) X hr V (by simp only [o_run, ij_2, iy]; exact ⟨rfl, rfl⟩) dM_run_31
      ·
        refine lv_iload_n hx hb dM_run_24 rfl (lv_at hl 2 rfl) ?_
        refine lv_ldc hx hb hown (hts _ ko_M_53) dM_run_25 ?_
        refine cj_ti (z := nI 100000) (by decide) ?_
        refine lv_icmp_le (tgt := 32) hx hb dM_run_27 (by decide) (fun c_5 => ?_) (fun c_5 => ?_)
        ·
          obtain ⟨cy, hcy, rfl⟩ := cj_cost_t ‹¬ y < 0› c_5
          have iy := cj_ix_t hcy (by decide)
          refine lv_aload_n hx hb dM_run_32 rfl (lv_at hl 0 rfl) ?_
          refine lv_iload_n hx hb dM_run_33 rfl (lv_at hl 1 rfl) ?_
          refine lv_iload_n hx hb dM_run_34 rfl (lv_at hl 2 rfl) ?_
          refine lv_lconst (v := 0) hx hb dM_run_35 (by decide) ?_
          refine cj_cvi X V (c_M_newRun l D kd ad j_2 cy 0 (by omega) (by omega)) 0 2 rfl rfl rfl ml_M_54 im_M_newRun se_M_newRun in_M cd_M_newRun hd_M_newRun ⟨by decide, by decide⟩ ⟨Nat.le_refl _, Nat.le_refl _⟩ hl.1 rfl (Nat.le_of_ble_eq_true rfl) dM_run_36 (fun r_9 ua H locs hw V => ?_)
          obtain ⟨rfl, rfl⟩ := hw
          exact cj_reti (rn + 1, va_up ed rn j_2, va_up co rn cy, va_up hz rn 0, va_up cl j_2 true) X hr V (by simp only [o_run, o_room, ij_2, iy]; rw [if_pos (show rn < 14 by omega)]; exact ⟨rfl, rfl⟩) dM_run_39
        ·
          have iy := cj_ix_f (cj_cost_f c_5)
          refine lv_iconst (v := (-1)) hx hb dM_run_30 (by decide) ?_
          exact cj_reti (rn, ed, co, hz, cl) X hr V (by simp only [o_run, ij_2, iy]; exact ⟨rfl, rfl⟩) dM_run_31
    ·
      have ij_2 := cj_ix_f hj_2
      refine lv_if_eq (tgt := 30) hx hb dM_run_17 (by decide) (fun _ => ?_) (fun h => absurd (by decide) h)
      refine lv_iconst (v := (-1)) hx hb dM_run_30 (by decide) ?_
      exact cj_reti (rn, ed, co, hz, cl) X hr V (by simp only [o_run, ij_2]; exact ⟨rfl, rfl⟩) dM_run_31
set_option maxRecDepth 100000 in
set_option maxHeartbeats 4000000 in
theorem c_M_join (l : Launch) (D : va_G) (kd : Nat → ClassId) (ad : Nat → Nat) {E : Nat} {rn : Nat} {ch : Int32} {n : Nat → Nat} {con : Nat → Int32} {ow : Nat → Nat} {ge : Nat → Bool} {cl : Nat → Bool} {ed : Nat → Nat} {co : Nat → Nat} {hz : Nat → Int64} {lo : Nat → Nat} {pr : Nat → Int32} (hE : E ≤ 8) (hn : ∀ i, n i ≤ 40) (hR : rn ≤ 14) (hed : ∀ r, r < rn → ed r < E) (hco : ∀ r, co r ≤ 100000) (x y : Int32) : cj_Mi (S := Nat × (Nat → Nat) × (Nat → Nat) × (Nat → Int64) × (Nat → Bool)) l yM_join cM_join 4 (some .int) 1 D kd [.ref (ad 0), .int x, .int y] (wM kd ad E rn ch n con ow ge cl ed co hz lo pr) (fun r u => r = f_add rn (o_join rn ed co hz x y) ∧ u = (a_rn rn (o_join rn ed co hz x y), a_ed rn ed (o_join rn ed co hz x y), a_co rn co (o_join rn ed co hz x y), a_hz rn hz (o_join rn ed co hz x y), a_cl cl (o_join rn ed co hz x y))) (fun u => wM kd ad E u.1 ch n con ow ge u.2.2.2.2 u.2.1 u.2.2.1 u.2.2.2.1 lo pr) := by
  refine cj_ofi (by decide) (Nat.le_of_ble_eq_true rfl) ?_
  intro p e s m below meth c A ls X hr V hl
  obtain ⟨⟨hx, hb, hml, hown, hts⟩, hK, hlk⟩ := id X
  have hl : lv_has ls 4 [(0, .ref (ad 0)), (1, .int x), (2, .int y)] := hl
  refine lv_iload_n hx hb dM_join_0 rfl (lv_at hl 1 rfl) ?_
  refine lv_aload_n hx hb dM_join_1 rfl (lv_at hl 0 rfl) ?_
  refine gM 1 X V fl_M_50 (by decide) rfl dM_join_2 ?_
  refine cj_csi X V (c_M_in l D kd ad x rn (by omega)) ml_M_46 st_M_in in_M cd_M_in hd_M_in ⟨by decide, by decide⟩ ⟨Nat.le_refl _, Nat.le_refl _⟩ hl.1 rfl (Nat.le_of_ble_eq_true rfl) dM_join_5 (fun r_9 u_9 H locs hw V => ?_)
  rcases hw with ⟨rfl, j_1, hj_1, rfl⟩ | ⟨rfl, hj_1⟩
  ·
    have ij_1 := cj_ix_t hj_1 (show rn < 2 ^ 31 by omega)
    refine lv_if_eq (tgt := 46) hx hb dM_join_8 (by decide) (fun h => absurd h (by decide)) (fun _ => ?_)
    refine lv_iload_n hx hb dM_join_11 rfl (lv_at hl 2 rfl) ?_
    refine lv_aload_n hx hb dM_join_12 rfl (lv_at hl 0 rfl) ?_
    refine gM 1 X V fl_M_50 (by decide) rfl dM_join_13 ?_
    refine cj_csi X V (c_M_in l D kd ad y rn (by omega)) ml_M_46 st_M_in in_M cd_M_in hd_M_in ⟨by decide, by decide⟩ ⟨Nat.le_refl _, Nat.le_refl _⟩ hl.1 rfl (Nat.le_of_ble_eq_true rfl) dM_join_16 (fun r_9 u_9 H locs hw V => ?_)
    rcases hw with ⟨rfl, j_3, hj_3, rfl⟩ | ⟨rfl, hj_3⟩
    ·
      have ij_3 := cj_ix_t hj_3 (show rn < 2 ^ 31 by omega)
      refine lv_if_eq (tgt := 46) hx hb dM_join_19 (by decide) (fun h => absurd h (by decide)) (fun _ => ?_)
      refine lv_aload_n hx hb dM_join_22 rfl (lv_at hl 0 rfl) ?_
      refine gM 8 X V fl_M_26 (by decide) rfl dM_join_23 ?_
      refine lv_iload_n hx hb dM_join_26 rfl (lv_at hl 1 rfl) ?_
      refine rM_ed X V (by omega) dM_join_27 ?_
      have f_e_5 := hed j_1 (by omega)
      refine lv_aload_n hx hb dM_join_28 rfl (lv_at hl 0 rfl) ?_
      refine gM 8 X V fl_M_26 (by decide) rfl dM_join_29 ?_
      refine lv_iload_n hx hb dM_join_32 rfl (lv_at hl 2 rfl) ?_
      refine rM_ed X V (by omega) dM_join_33 ?_
      have f_e_6 := hed j_3 (by omega)
      refine cj_n_ne (tgt := 46) hx hb dM_join_34 (by decide) (by omega) (by omega) (fun c_7 => ?_) (fun c_7 => ?_)
      ·
        refine lv_iconst (v := (-1)) hx hb dM_join_46 (by decide) ?_
        exact cj_reti (rn, ed, co, hz, cl) X hr V (by simp only [o_join, ij_1, ij_3]; rw [if_neg c_7]; exact ⟨rfl, rfl⟩) dM_join_47
      ·
        refine lv_aload_n hx hb dM_join_37 rfl (lv_at hl 0 rfl) ?_
        refine gM 1 X V fl_M_50 (by decide) rfl dM_join_38 ?_
        refine lv_bipush (v := nI 14) hx hb dM_join_41 (by decide) ?_
        refine cj_n_ne (tgt := 48) hx hb dM_join_43 (by decide) (by omega) (by omega) (fun c_8 => ?_) (fun c_8 => ?_)
        ·
          refine lv_aload_n hx hb dM_join_48 rfl (lv_at hl 0 rfl) ?_
          refine gM 9 X V fl_M_29 (by decide) rfl dM_join_49 ?_
          refine lv_iload_n hx hb dM_join_52 rfl (lv_at hl 1 rfl) ?_
          refine rM_co X V (by omega) dM_join_53 ?_
          have f_e_9 := hco j_1
          refine lv_aload_n hx hb dM_join_54 rfl (lv_at hl 0 rfl) ?_
          refine gM 9 X V fl_M_29 (by decide) rfl dM_join_55 ?_
          refine lv_iload_n hx hb dM_join_58 rfl (lv_at hl 2 rfl) ?_
          refine rM_co X V (by omega) dM_join_59 ?_
          have f_e_10 := hco j_3
          refine cj_iaddN hx hb dM_join_60 ?_
          refine lv_istore_n (lv' := [(3, .int (nI ((co j_1) + (co j_3)))), (0, .ref (ad 0)), (1, .int (nI j_1)), (2, .int (nI j_3))]) hx hb dM_join_61 rfl hl (by decide) rfl (fun ls hl => ?_)
          refine lv_aload_n hx hb dM_join_62 rfl (lv_at hl 1 rfl) ?_
          refine lv_aload_n hx hb dM_join_63 rfl (lv_at hl 1 rfl) ?_
          refine gM 8 X V fl_M_26 (by decide) rfl dM_join_64 ?_
          refine lv_iload_n hx hb dM_join_67 rfl (lv_at hl 2 rfl) ?_
          refine rM_ed X V (by omega) dM_join_68 ?_
          have f_e_11 := hed j_1 (by omega)
          refine lv_iload_n hx hb dM_join_69 rfl (lv_at hl 0 rfl) ?_
          refine lv_ldc hx hb hown (hts _ ko_M_53) dM_join_70 ?_
          refine cj_ti (z := nI 100000) (by decide) ?_
          refine cj_n_le (tgt := 80) hx hb dM_join_72 (by decide) (by omega) (by omega) (fun c_12 => ?_) (fun c_12 => ?_)
          ·
            refine lv_iload_n hx hb dM_join_80 rfl (lv_at hl 0 rfl) ?_
            refine lv_aload_n hx hb dM_join_81 rfl (lv_at hl 1 rfl) ?_
            refine gM 10 X V fl_M_32 (by decide) rfl dM_join_82 ?_
            refine lv_iload_n hx hb dM_join_85 rfl (lv_at hl 2 rfl) ?_
            refine rM_hi X V (by omega) dM_join_86 ?_
            refine lv_aload_n hx hb dM_join_87 rfl (lv_at hl 1 rfl) ?_
            refine gM 10 X V fl_M_32 (by decide) rfl dM_join_88 ?_
            refine lv_iload_n hx hb dM_join_91 rfl (lv_at hl 3 rfl) ?_
            refine rM_hi X V (by omega) dM_join_92 ?_
            refine lv_lor hx hb dM_join_93 ?_
            refine cj_cvi X V (c_M_newRun l D kd ad (ed j_1) ((co j_1) + (co j_3)) ((hz j_1) ||| (hz j_3)) (by omega) (by omega)) 0 2 rfl rfl rfl ml_M_54 im_M_newRun se_M_newRun in_M cd_M_newRun hd_M_newRun ⟨by decide, by decide⟩ ⟨Nat.le_refl _, Nat.le_refl _⟩ hl.1 rfl (Nat.le_of_ble_eq_true rfl) dM_join_94 (fun r_9 ua H locs hw V => ?_)
            obtain ⟨rfl, rfl⟩ := hw
            exact cj_reti (rn + 1, va_up ed rn (ed j_1), va_up co rn ((co j_1) + (co j_3)), va_up hz rn ((hz j_1) ||| (hz j_3)), va_up cl (ed j_1) true) X hr V (by simp only [o_join, o_room, ij_1, ij_3]; rw [if_pos c_7, if_pos (show rn < 14 by omega)]; rw [Nat.min_eq_left (by omega)]; exact ⟨rfl, rfl⟩) dM_join_97
          ·
            refine lv_ldc hx hb hown (hts _ ko_M_53) dM_join_75 ?_
            refine cj_ti (z := nI 100000) (by decide) ?_
            refine lv_goto (tgt := 81) hx hb dM_join_77 (by decide) ?_
            refine lv_aload_n hx hb dM_join_81 rfl (lv_at hl 1 rfl) ?_
            refine gM 10 X V fl_M_32 (by decide) rfl dM_join_82 ?_
            refine lv_iload_n hx hb dM_join_85 rfl (lv_at hl 2 rfl) ?_
            refine rM_hi X V (by omega) dM_join_86 ?_
            refine lv_aload_n hx hb dM_join_87 rfl (lv_at hl 1 rfl) ?_
            refine gM 10 X V fl_M_32 (by decide) rfl dM_join_88 ?_
            refine lv_iload_n hx hb dM_join_91 rfl (lv_at hl 3 rfl) ?_
            refine rM_hi X V (by omega) dM_join_92 ?_
            refine lv_lor hx hb dM_join_93 ?_
            refine cj_cvi X V (c_M_newRun l D kd ad (ed j_1) 100000 ((hz j_1) ||| (hz j_3)) (by omega) (by omega)) 0 2 rfl rfl rfl ml_M_54 im_M_newRun se_M_newRun in_M cd_M_newRun hd_M_newRun ⟨by decide, by decide⟩ ⟨Nat.le_refl _, Nat.le_refl _⟩ hl.1 rfl (Nat.le_of_ble_eq_true rfl) dM_join_94 (fun r_9 ua H locs hw V => ?_)
            obtain ⟨rfl, rfl⟩ := hw
            exact cj_reti (rn + 1, va_up ed rn (ed j_1), va_up co rn 100000, va_up hz rn ((hz j_1) ||| (hz j_3)), va_up cl (ed j_1) true) X hr V (by simp only [o_join, o_room, ij_1, ij_3]; rw [if_pos c_7, if_pos (show rn < 14 by omega)]; rw [Nat.min_eq_right (by omega)]; exact ⟨rfl, rfl⟩) dM_join_97
        ·
          refine lv_iconst (v := (-1)) hx hb dM_join_46 (by decide) ?_
          exact cj_reti (rn, ed, co, hz, cl) X hr V (by simp only [o_join, o_room, ij_1, ij_3]; rw [if_pos c_7, if_neg (show ¬ rn < 14 by omega)]; exact ⟨rfl, rfl⟩) dM_join_47
    ·
      have ij_3 := cj_ix_f hj_3
      refine lv_if_eq (tgt := 46) hx hb dM_join_19 (by decide) (fun _ => ?_) (fun h => absurd (by decide) h)
      refine lv_iconst (v := (-1)) hx hb dM_join_46 (by decide) ?_
      exact cj_reti (rn, ed, co, hz, cl) X hr V (by simp only [o_join, ij_1, ij_3]; exact ⟨rfl, rfl⟩) dM_join_47
  ·
    have ij_1 := cj_ix_f hj_1
    refine lv_if_eq (tgt := 46) hx hb dM_join_8 (by decide) (fun _ => ?_) (fun h => absurd (by decide) h)
    refine lv_iconst (v := (-1)) hx hb dM_join_46 (by decide) ?_
    exact cj_reti (rn, ed, co, hz, cl) X hr V (by simp only [o_join, ij_1]; exact ⟨rfl, rfl⟩) dM_join_47
set_option maxRecDepth 100000 in
set_option maxHeartbeats 4000000 in
theorem c_M_line (l : Launch) (D : va_G) (kd : Nat → ClassId) (ad : Nat → Nat) {E : Nat} {rn : Nat} {ch : Int32} {n : Nat → Nat} {con : Nat → Int32} {ow : Nat → Nat} {ge : Nat → Bool} {cl : Nat → Bool} {ed : Nat → Nat} {co : Nat → Nat} {hz : Nat → Int64} {lo : Nat → Nat} {pr : Nat → Int32} (hE : E ≤ 8) (hn : ∀ i, n i ≤ 40) (hR : rn ≤ 14) (hed : ∀ r, r < rn → ed r < E) (hco : ∀ r, co r ≤ 100000) (x y z : Int32) (g : Bool) : cj_Mi (S := (Nat → Nat) × (Nat → Int32) × (Nat → Nat) × (Nat → Bool)) l yM_line cM_line 6 (some .int) 1 D kd [.ref (ad 0), .int x, .int y, .int z, .int (bI g)] (wM kd ad E rn ch n con ow ge cl ed co hz lo pr) (fun r u => r = f_line n (o_line E n cl x z) ∧ u = (l_n n (o_line E n cl x z), m_con n con y (o_line E n cl x z), m_ow n ow (o_line E n cl x z), m_ge n ge g (o_line E n cl x z))) (fun u => wM kd ad E rn ch u.1 u.2.1 u.2.2.1 u.2.2.2 cl ed co hz lo pr) := by
  refine cj_ofi (by decide) (Nat.le_of_ble_eq_true rfl) ?_
  intro p e s m below meth c A ls X hr V hl
  obtain ⟨⟨hx, hb, hml, hown, hts⟩, hK, hlk⟩ := id X
  have hl : lv_has ls 6 [(0, .ref (ad 0)), (1, .int x), (2, .int y), (3, .int z), (4, .int (bI g))] := hl
  refine lv_iload_n hx hb dM_line_0 rfl (lv_at hl 1 rfl) ?_
  refine lv_aload_n hx hb dM_line_1 rfl (lv_at hl 0 rfl) ?_
  refine gM 0 X V fl_M_42 (by decide) rfl dM_line_2 ?_
  refine cj_csi X V (c_M_in l D kd ad x E (by omega)) ml_M_46 st_M_in in_M cd_M_in hd_M_in ⟨by decide, by decide⟩ ⟨Nat.le_refl _, Nat.le_refl _⟩ hl.1 rfl (Nat.le_of_ble_eq_true rfl) dM_line_5 (fun r_9 u_9 H locs hw V => ?_)
  rcases hw with ⟨rfl, j_1, hj_1, rfl⟩ | ⟨rfl, hj_1⟩
  ·
    have ij_1 := cj_ix_t hj_1 (show E < 2 ^ 31 by omega)
    refine lv_if_eq (tgt := 39) hx hb dM_line_8 (by decide) (fun h => absurd h (by decide)) (fun _ => ?_)
    refine lv_iload_n hx hb dM_line_11 rfl (lv_at hl 3 rfl) ?_
    refine lv_iconst (v := nI 4) hx hb dM_line_12 (by decide) ?_
    refine cj_csi X V (c_M_in l D kd ad z 4 (by omega)) ml_M_46 st_M_in in_M cd_M_in hd_M_in ⟨by decide, by decide⟩ ⟨Nat.le_refl _, Nat.le_refl _⟩ hl.1 rfl (Nat.le_of_ble_eq_true rfl) dM_line_13 (fun r_9 u_9 H locs hw V => ?_)
    rcases hw with ⟨rfl, j_3, hj_3, rfl⟩ | ⟨rfl, hj_3⟩
    ·
      have ij_3 := cj_ix_t hj_3 (show 4 < 2 ^ 31 by omega)
      refine lv_if_eq (tgt := 39) hx hb dM_line_16 (by decide) (fun h => absurd h (by decide)) (fun _ => ?_)
      refine lv_aload_n hx hb dM_line_19 rfl (lv_at hl 0 rfl) ?_
      refine gM 7 X V fl_M_23 (by decide) rfl dM_line_20 ?_
      refine lv_iload_n hx hb dM_line_23 rfl (lv_at hl 1 rfl) ?_
      refine rM_cl X V (by omega) dM_line_24 ?_
      refine cj_b_ne (tgt := 39) hx hb dM_line_25 (by decide) (fun c_5 => ?_) (fun c_5 => ?_)
      ·
        refine lv_iconst (v := (-1)) hx hb dM_line_39 (by decide) ?_
        exact cj_reti (n, con, ow, ge) X hr V (by refine ⟨?_, ?_⟩ <;> first | (simp only [o_line, m_ow, m_con, m_ge, l_n, f_line, cond_true, cond_false, ij_1, ij_3, c_5]; done) | (simp only [o_line, m_ow, m_con, m_ge, l_n, f_line, cond_true, cond_false, ij_1, ij_3, c_5]; rfl)) dM_line_40
      ·
        refine lv_aload_n hx hb dM_line_28 rfl (lv_at hl 0 rfl) ?_
        refine gM 3 X V fl_M_7 (by decide) rfl dM_line_29 ?_
        refine lv_iload_n hx hb dM_line_32 rfl (lv_at hl 1 rfl) ?_
        refine rM_n X V (by omega) dM_line_33 ?_
        have f_e_6 := hn j_1
        refine lv_bipush (v := nI 40) hx hb dM_line_34 (by decide) ?_
        refine cj_n_ne (tgt := 41) hx hb dM_line_36 (by decide) (by omega) (by omega) (fun c_7 => ?_) (fun c_7 => ?_)
        ·
          refine lv_bipush (v := nI 40) hx hb dM_line_41 (by decide) ?_
          refine lv_iload_n hx hb dM_line_43 rfl (lv_at hl 1 rfl) ?_
          refine cj_imulN hx hb dM_line_44 ?_
          refine lv_aload_n hx hb dM_line_45 rfl (lv_at hl 0 rfl) ?_
          refine gM 3 X V fl_M_7 (by decide) rfl dM_line_46 ?_
          refine lv_iload_n hx hb dM_line_49 rfl (lv_at hl 1 rfl) ?_
          refine rM_n X V (by omega) dM_line_50 ?_
          have f_e_8 := hn j_1
          refine cj_iaddN hx hb dM_line_51 ?_
          refine lv_istore (lv' := [(5, .int (nI ((40 * j_1) + (n j_1)))), (0, .ref (ad 0)), (1, .int (nI j_1)), (2, .int y), (3, .int (nI j_3)), (4, .int (bI g))]) hx hb dM_line_52 hl (by decide) rfl (fun ls hl => ?_)
          refine lv_aload_n hx hb dM_line_54 rfl (lv_at hl 1 rfl) ?_
          refine gM 4 X V fl_M_13 (by decide) rfl dM_line_55 ?_
          refine lv_iload hx hb dM_line_58 (lv_at hl 0 rfl) ?_
          refine lv_iload_n hx hb dM_line_60 rfl (lv_at hl 3 rfl) ?_
          refine sM_con X V (by omega) dM_line_61 (fun H locs V => ?_)
          refine lv_aload_n hx hb dM_line_62 rfl (lv_at hl 1 rfl) ?_
          refine gM 5 X V fl_M_16 (by decide) rfl dM_line_63 ?_
          refine lv_iload hx hb dM_line_66 (lv_at hl 0 rfl) ?_
          refine lv_iload_n hx hb dM_line_68 rfl (lv_at hl 4 rfl) ?_
          refine sM_ow X V (by omega) dM_line_69 (fun H locs V => ?_)
          refine lv_aload_n hx hb dM_line_70 rfl (lv_at hl 1 rfl) ?_
          refine gM 6 X V fl_M_19 (by decide) rfl dM_line_71 ?_
          refine lv_iload hx hb dM_line_74 (lv_at hl 0 rfl) ?_
          refine lv_iload hx hb dM_line_76 (lv_at hl 5 rfl) ?_
          refine sM_ge X V (by omega) dM_line_78 (fun H locs V => ?_)
          refine lv_aload_n hx hb dM_line_79 rfl (lv_at hl 1 rfl) ?_
          refine gM 3 X V fl_M_7 (by decide) rfl dM_line_80 ?_
          refine lv_iload_n hx hb dM_line_83 rfl (lv_at hl 2 rfl) ?_
          refine lv_dup2_11 hx hb dM_line_84 rfl rfl ?_
          refine rM_n X V (by omega) dM_line_85 ?_
          have f_e_9 := hn j_1
          refine lv_iconst (v := nI 1) hx hb dM_line_86 (by decide) ?_
          refine cj_iaddN hx hb dM_line_87 ?_
          refine sM_n X V (by omega) dM_line_88 (fun H locs V => ?_)
          refine lv_aload_n hx hb dM_line_89 rfl (lv_at hl 1 rfl) ?_
          refine gM 3 X V fl_M_7 (by decide) rfl dM_line_90 ?_
          refine lv_iload_n hx hb dM_line_93 rfl (lv_at hl 2 rfl) ?_
          refine rM_n X V (by omega) dM_line_94 ?_
          have f_e_10 := hn j_1
          rw [va_up_self]
          have f_9 := hn j_1
          refine lv_iconst (v := nI 1) hx hb dM_line_95 (by decide) ?_
          refine cj_isubN hx hb (by omega) dM_line_96 ?_
          rw [Nat.add_sub_cancel]
          exact cj_reti (va_up n j_1 ((n j_1) + 1), va_up con ((40 * j_1) + (n j_1)) y, va_up ow ((40 * j_1) + (n j_1)) j_3, va_up ge ((40 * j_1) + (n j_1)) g) X hr V (by refine ⟨?_, ?_⟩ <;> first | (simp only [o_line, m_ow, m_con, m_ge, l_n, f_line, cond_true, cond_false, ij_1, ij_3, c_5]; rw [if_pos (by omega)]; done) | (simp only [o_line, m_ow, m_con, m_ge, l_n, f_line, cond_true, cond_false, ij_1, ij_3, c_5]; rw [if_pos (by omega)]; rfl)) dM_line_97
        ·
          refine lv_iconst (v := (-1)) hx hb dM_line_39 (by decide) ?_
          exact cj_reti (n, con, ow, ge) X hr V (by refine ⟨?_, ?_⟩ <;> first | (simp only [o_line, m_ow, m_con, m_ge, l_n, f_line, cond_true, cond_false, ij_1, ij_3, c_5]; rw [if_neg (by omega)]; done) | (simp only [o_line, m_ow, m_con, m_ge, l_n, f_line, cond_true, cond_false, ij_1, ij_3, c_5]; rw [if_neg (by omega)]; rfl)) dM_line_40
    ·
      have ij_3 := cj_ix_f hj_3
      refine lv_if_eq (tgt := 39) hx hb dM_line_16 (by decide) (fun _ => ?_) (fun h => absurd (by decide) h)
      refine lv_iconst (v := (-1)) hx hb dM_line_39 (by decide) ?_
      exact cj_reti (n, con, ow, ge) X hr V (by refine ⟨?_, ?_⟩ <;> first | (simp only [o_line, m_ow, m_con, m_ge, l_n, f_line, cond_true, cond_false, ij_1, ij_3]; done) | (simp only [o_line, m_ow, m_con, m_ge, l_n, f_line, cond_true, cond_false, ij_1, ij_3]; rfl)) dM_line_40
  ·
    have ij_1 := cj_ix_f hj_1
    refine lv_if_eq (tgt := 39) hx hb dM_line_8 (by decide) (fun _ => ?_) (fun h => absurd (by decide) h)
    refine lv_iconst (v := (-1)) hx hb dM_line_39 (by decide) ?_
    exact cj_reti (n, con, ow, ge) X hr V (by refine ⟨?_, ?_⟩ <;> first | (simp only [o_line, m_ow, m_con, m_ge, l_n, f_line, cond_true, cond_false, ij_1]; done) | (simp only [o_line, m_ow, m_con, m_ge, l_n, f_line, cond_true, cond_false, ij_1]; rfl)) dM_line_40
set_option maxRecDepth 100000 in
set_option maxHeartbeats 4000000 in
theorem c_M_isAlike (l : Launch) (D : va_G) (kd : Nat → ClassId) (ad : Nat → Nat) {E : Nat} {rn : Nat} {ch : Int32} {n : Nat → Nat} {con : Nat → Int32} {ow : Nat → Nat} {ge : Nat → Bool} {cl : Nat → Bool} {ed : Nat → Nat} {co : Nat → Nat} {hz : Nat → Int64} {lo : Nat → Nat} {pr : Nat → Int32} (f i g j : Nat) (hf : f < 8) (hi : i < 40) (hg : g < 8) (hj : j < 40) : cj_Mi (S := Unit) l yM_isAlike cM_isAlike 5 (some .boolean) 0 D kd [.ref (ad 0), .int (nI f), .int (nI i), .int (nI g), .int (nI j)] (wM kd ad E rn ch n con ow ge cl ed co hz lo pr) (fun r _ => r = bI (decide (con (40 * f + i) = con (40 * g + j)))) (fun _ => wM kd ad E rn ch n con ow ge cl ed co hz lo pr) := by
  refine cj_ofi (by decide) (Nat.le_of_ble_eq_true rfl) ?_
  intro p e s m below meth c A ls X hr V hl
  obtain ⟨⟨hx, hb, hml, hown, hts⟩, hK, hlk⟩ := id X
  have hl : lv_has ls 5 [(0, .ref (ad 0)), (1, .int (nI f)), (2, .int (nI i)), (3, .int (nI g)), (4, .int (nI j))] := hl
  refine lv_aload_n hx hb dM_isAlike_0 rfl (lv_at hl 0 rfl) ?_
  refine gM 4 X V fl_M_13 (by decide) rfl dM_isAlike_1 ?_
  refine lv_bipush (v := nI 40) hx hb dM_isAlike_4 (by decide) ?_
  refine lv_iload_n hx hb dM_isAlike_6 rfl (lv_at hl 1 rfl) ?_
  refine cj_imulN hx hb dM_isAlike_7 ?_
  refine lv_iload_n hx hb dM_isAlike_8 rfl (lv_at hl 2 rfl) ?_
  refine cj_iaddN hx hb dM_isAlike_9 ?_
  refine rM_con X V (by omega) dM_isAlike_10 ?_
  refine lv_aload_n hx hb dM_isAlike_11 rfl (lv_at hl 0 rfl) ?_
  refine gM 4 X V fl_M_13 (by decide) rfl dM_isAlike_12 ?_
  refine lv_bipush (v := nI 40) hx hb dM_isAlike_15 (by decide) ?_
  refine lv_iload_n hx hb dM_isAlike_17 rfl (lv_at hl 3 rfl) ?_
  refine cj_imulN hx hb dM_isAlike_18 ?_
  refine lv_iload hx hb dM_isAlike_19 (lv_at hl 4 rfl) ?_
  refine cj_iaddN hx hb dM_isAlike_21 ?_
  refine rM_con X V (by omega) dM_isAlike_22 ?_
  refine lv_icmp_ne (tgt := 30) hx hb dM_isAlike_23 (by decide) (fun c_1 => ?_) (fun c_1 => ?_)
  ·
    refine lv_iconst (v := nI 0) hx hb dM_isAlike_30 (by decide) ?_
    exact cj_retz () X hr V (by decide) (by first | (rw [decide_eq_true ‹con _ = con _›]; rfl) | (rw [decide_eq_false ‹¬ con _ = con _›]; rfl)) dM_isAlike_31
  ·
    refine lv_iconst (v := nI 1) hx hb dM_isAlike_26 (by decide) ?_
    refine lv_goto (tgt := 31) hx hb dM_isAlike_27 (by decide) ?_
    exact cj_retz () X hr V (by decide) (by first | (rw [decide_eq_true ‹con _ = con _›]; rfl) | (rw [decide_eq_false ‹¬ con _ = con _›]; rfl)) dM_isAlike_31
