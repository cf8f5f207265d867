set_option maxRecDepth 100000 in
set_option maxHeartbeats 4000000 in
theorem c_C_isEdition (l : Launch) (D : va_G) (kd : Nat → ClassId) (ad : Nat → Nat) {E : Nat} {n : Nat → Nat} {cl : Nat → Bool} {con : Nat → Nat → Int32} {ow : Nat → Nat → Int64} {rn : Nat} {ed : Nat → Nat} {co : Nat → Nat} {hz : Nat → Int64} {mp : Nat → Nat → Nat} {pr : Nat → Int32} {cn : Nat} {hs : Nat → Int64} {wg : Nat → Int64} {rs : Nat → Int64} {ch : Int32}  (hE : E ≤ 8) (x : Int32) : cj_Mi (S := Unit) l yC_isEdition cC_isEdition 2 (some .boolean) 0 D kd [.ref (ad 0), .int x] (wC kd ad E n cl con ow rn ed co hz mp pr cn hs wg rs ch) (fun r _ => (r = nI 1 ∧ cj_in x E) ∨ (r = nI 0 ∧ ¬ cj_in x E)) (fun _ => wC kd ad E n cl con ow rn ed co hz mp pr cn hs wg rs ch) := by
  refine cj_ofi (by decide) (Nat.le_of_ble_eq_true rfl) ?_
  intro p e s m below meth c A ls X hr V hl
  obtain ⟨⟨hx, hb, hml, hown, hts⟩, hK, hlk⟩ := id X
  have hl : lv_has ls 2 [(0, .ref (ad 0)), (1, .int x)] := hl
  refine lv_iload_n hx hb dC_isEdition_0 rfl (lv_at hl 1 rfl) ?_
  refine lv_if_lt (tgt := 16) hx hb dC_isEdition_1 (by decide) (fun c_1 => ?_) (fun c_1 => ?_)
  ·
    refine lv_iconst (v := nI 0) hx hb dC_isEdition_16 (by decide) ?_
    exact cj_retz () X hr V (by decide) (by first | exact Or.inl ⟨rfl, cj_ixt ‹_› ‹_› (by omega)⟩ | exact Or.inr ⟨rfl, cj_ixf0 ‹_› (by omega)⟩ | exact Or.inr ⟨rfl, cj_ixf1 ‹_› (by omega)⟩) dC_isEdition_17
  ·
    refine lv_iload_n hx hb dC_isEdition_4 rfl (lv_at hl 1 rfl) ?_
    refine lv_aload_n hx hb dC_isEdition_5 rfl (lv_at hl 0 rfl) ?_
    refine gC 0 X V fl_C_9 (by decide) rfl dC_isEdition_6 ?_
    refine lv_icmp_ge (tgt := 16) hx hb dC_isEdition_9 (by decide) (fun c_2 => ?_) (fun c_2 => ?_)
    ·
      refine lv_iconst (v := nI 0) hx hb dC_isEdition_16 (by decide) ?_
      exact cj_retz () X hr V (by decide) (by first | exact Or.inl ⟨rfl, cj_ixt ‹_› ‹_› (by omega)⟩ | exact Or.inr ⟨rfl, cj_ixf0 ‹_› (by omega)⟩ | exact Or.inr ⟨rfl, cj_ixf1 ‹_› (by omega)⟩) dC_isEdition_17
    ·
      refine lv_iconst (v := nI 1) hx hb dC_isEdition_12 (by decide) ?_
      refine lv_goto (tgt := 17) hx hb dC_isEdition_13 (by decide) ?_
      exact cj_retz () X hr V (by decide) (by first | exact Or.inl ⟨rfl, cj_ixt ‹_› ‹_› (by omega)⟩ | exact Or.inr ⟨rfl, cj_ixf0 ‹_› (by omega)⟩ | exact Or.inr ⟨rfl, cj_ixf1 ‹_› (by omega)⟩) dC_isEdition_17
set_option maxRecDepth 100000 in
set_option maxHeartbeats 4000000 in
theorem c_C_isRun (l : Launch) (D : va_G) (kd : Nat → ClassId) (ad : Nat → Nat) {E : Nat} {n : Nat → Nat} {cl : Nat → Bool} {con : Nat → Nat → Int32} {ow : Nat → Nat → Int64} {rn : Nat} {ed : Nat → Nat} {co : Nat → Nat} {hz : Nat → Int64} {mp : Nat → Nat → Nat} {pr : Nat → Int32} {cn : Nat} {hs : Nat → Int64} {wg : Nat → Int64} {rs : Nat → Int64} {ch : Int32}  (hR : rn ≤ 14) (x : Int32) : cj_Mi (S := Unit) l yC_isRun cC_isRun 2 (some .boolean) 0 D kd [.ref (ad 0), .int x] (wC kd ad E n cl con ow rn ed co hz mp pr cn hs wg rs ch) (fun r _ => (r = nI 1 ∧ cj_in x rn) ∨ (r = nI 0 ∧ ¬ cj_in x rn)) (fun _ => wC kd ad E n cl con ow rn ed co hz mp pr cn hs wg rs ch) := by
  refine cj_ofi (by decide) (Nat.le_of_ble_eq_true rfl) ?_
  intro p e s m below meth c A ls X hr V hl
  obtain ⟨⟨hx, hb, hml, hown, hts⟩, hK, hlk⟩ := id X
  have hl : lv_has ls 2 [(0, .ref (ad 0)), (1, .int x)] := hl
  refine lv_iload_n hx hb dC_isRun_0 rfl (lv_at hl 1 rfl) ?_
  refine lv_if_lt (tgt := 16) hx hb dC_isRun_1 (by decide) (fun c_1 => ?_) (fun c_1 => ?_)
  ·
    refine lv_iconst (v := nI 0) hx hb dC_isRun_16 (by decide) ?_
    exact cj_retz () X hr V (by decide) (by first | exact Or.inl ⟨rfl, cj_ixt ‹_› ‹_› (by omega)⟩ | exact Or.inr ⟨rfl, cj_ixf0 ‹_› (by omega)⟩ | exact Or.inr ⟨rfl, cj_ixf1 ‹_› (by omega)⟩) dC_isRun_17
  ·
    refine lv_iload_n hx hb dC_isRun_4 rfl (lv_at hl 1 rfl) ?_
    refine lv_aload_n hx hb dC_isRun_5 rfl (lv_at hl 0 rfl) ?_
    refine gC 5 X V fl_C_31 (by decide) rfl dC_isRun_6 ?_
    refine lv_icmp_ge (tgt := 16) hx hb dC_isRun_9 (by decide) (fun c_2 => ?_) (fun c_2 => ?_)
    ·
      refine lv_iconst (v := nI 0) hx hb dC_isRun_16 (by decide) ?_
      exact cj_retz () X hr V (by decide) (by first | exact Or.inl ⟨rfl, cj_ixt ‹_› ‹_› (by omega)⟩ | exact Or.inr ⟨rfl, cj_ixf0 ‹_› (by omega)⟩ | exact Or.inr ⟨rfl, cj_ixf1 ‹_› (by omega)⟩) dC_isRun_17
    ·
      refine lv_iconst (v := nI 1) hx hb dC_isRun_12 (by decide) ?_
      refine lv_goto (tgt := 17) hx hb dC_isRun_13 (by decide) ?_
      exact cj_retz () X hr V (by decide) (by first | exact Or.inl ⟨rfl, cj_ixt ‹_› ‹_› (by omega)⟩ | exact Or.inr ⟨rfl, cj_ixf0 ‹_› (by omega)⟩ | exact Or.inr ⟨rfl, cj_ixf1 ‹_› (by omega)⟩) dC_isRun_17
set_option maxRecDepth 100000 in
set_option maxHeartbeats 4000000 in
theorem c_C_isOwner (l : Launch) (D : va_G) (kd : Nat → ClassId) (ad : Nat → Nat) {E : Nat} {n : Nat → Nat} {cl : Nat → Bool} {con : Nat → Nat → Int32} {ow : Nat → Nat → Int64} {rn : Nat} {ed : Nat → Nat} {co : Nat → Nat} {hz : Nat → Int64} {mp : Nat → Nat → Nat} {pr : Nat → Int32} {cn : Nat} {hs : Nat → Int64} {wg : Nat → Int64} {rs : Nat → Int64} {ch : Int32}  (x : Int32) : cj_Mi (S := Unit) l yC_isOwner cC_isOwner 1 (some .boolean) 0 D kd [.int x] (wC kd ad E n cl con ow rn ed co hz mp pr cn hs wg rs ch) (fun r _ => (r = nI 1 ∧ cj_in x 4) ∨ (r = nI 0 ∧ ¬ cj_in x 4)) (fun _ => wC kd ad E n cl con ow rn ed co hz mp pr cn hs wg rs ch) := by
  refine cj_ofi (by decide) (Nat.le_of_ble_eq_true rfl) ?_
  intro p e s m below meth c A ls X hr V hl
  obtain ⟨⟨hx, hb, hml, hown, hts⟩, hK, hlk⟩ := id X
  have hl : lv_has ls 1 [(0, .int x)] := hl
  refine lv_iload_n hx hb dC_isOwner_0 rfl (lv_at hl 0 rfl) ?_
  refine lv_if_lt (tgt := 13) hx hb dC_isOwner_1 (by decide) (fun c_1 => ?_) (fun c_1 => ?_)
  ·
    refine lv_iconst (v := nI 0) hx hb dC_isOwner_13 (by decide) ?_
    exact cj_retz () X hr V (by decide) (by first | exact Or.inl ⟨rfl, cj_ixt ‹_› ‹_› (by omega)⟩ | exact Or.inr ⟨rfl, cj_ixf0 ‹_› (by omega)⟩ | exact Or.inr ⟨rfl, cj_ixf1 ‹_› (by omega)⟩) dC_isOwner_14
  ·
    refine lv_iload_n hx hb dC_isOwner_4 rfl (lv_at hl 0 rfl) ?_
    refine lv_iconst (v := nI 4) hx hb dC_isOwner_5 (by decide) ?_
    refine lv_icmp_ge (tgt := 13) hx hb dC_isOwner_6 (by decide) (fun c_2 => ?_) (fun c_2 => ?_)
    ·
      refine lv_iconst (v := nI 0) hx hb dC_isOwner_13 (by decide) ?_
      exact cj_retz () X hr V (by decide) (by first | exact Or.inl ⟨rfl, cj_ixt ‹_› ‹_› (by omega)⟩ | exact Or.inr ⟨rfl, cj_ixf0 ‹_› (by omega)⟩ | exact Or.inr ⟨rfl, cj_ixf1 ‹_› (by omega)⟩) dC_isOwner_14
    ·
      refine lv_iconst (v := nI 1) hx hb dC_isOwner_9 (by decide) ?_
      refine lv_goto (tgt := 14) hx hb dC_isOwner_10 (by decide) ?_
      exact cj_retz () X hr V (by decide) (by first | exact Or.inl ⟨rfl, cj_ixt ‹_› ‹_› (by omega)⟩ | exact Or.inr ⟨rfl, cj_ixf0 ‹_› (by omega)⟩ | exact Or.inr ⟨rfl, cj_ixf1 ‹_› (by omega)⟩) dC_isOwner_14
set_option maxRecDepth 100000 in
set_option maxHeartbeats 4000000 in
theorem c_C_isLine (l : Launch) (D : va_G) (kd : Nat → ClassId) (ad : Nat → Nat) {E : Nat} {n : Nat → Nat} {cl : Nat → Bool} {con : Nat → Nat → Int32} {ow : Nat → Nat → Int64} {rn : Nat} {ed : Nat → Nat} {co : Nat → Nat} {hz : Nat → Int64} {mp : Nat → Nat → Nat} {pr : Nat → Int32} {cn : Nat} {hs : Nat → Int64} {wg : Nat → Int64} {rs : Nat → Int64} {ch : Int32}  (j : Nat) (hj : j < 8) (hn : n j ≤ 40) (x : Int32) : cj_Mi (S := Unit) l yC_isLine cC_isLine 3 (some .boolean) 0 D kd [.ref (ad 0), .int (nI j), .int x] (wC kd ad E n cl con ow rn ed co hz mp pr cn hs wg rs ch) (fun r _ => (r = nI 1 ∧ cj_in x (n j)) ∨ (r = nI 0 ∧ ¬ cj_in x (n j))) (fun _ => wC kd ad E n cl con ow rn ed co hz mp pr cn hs wg rs ch) := by
  refine cj_ofi (by decide) (Nat.le_of_ble_eq_true rfl) ?_
  intro p e s m below meth c A ls X hr V hl
  obtain ⟨⟨hx, hb, hml, hown, hts⟩, hK, hlk⟩ := id X
  have hl : lv_has ls 3 [(0, .ref (ad 0)), (1, .int (nI j)), (2, .int x)] := hl
  refine lv_iload_n hx hb dC_isLine_0 rfl (lv_at hl 2 rfl) ?_
  refine lv_if_lt (tgt := 18) hx hb dC_isLine_1 (by decide) (fun c_1 => ?_) (fun c_1 => ?_)
  ·
    refine lv_iconst (v := nI 0) hx hb dC_isLine_18 (by decide) ?_
    exact cj_retz () X hr V (by decide) (by first | exact Or.inl ⟨rfl, cj_ixt ‹_› ‹_› (by omega)⟩ | exact Or.inr ⟨rfl, cj_ixf0 ‹_› (by omega)⟩ | exact Or.inr ⟨rfl, cj_ixf1 ‹_› (by omega)⟩) dC_isLine_19
  ·
    refine lv_iload_n hx hb dC_isLine_4 rfl (lv_at hl 2 rfl) ?_
    refine lv_aload_n hx hb dC_isLine_5 rfl (lv_at hl 0 rfl) ?_
    refine gC 1 X V fl_C_13 (by decide) rfl dC_isLine_6 ?_
    refine lv_iload_n hx hb dC_isLine_9 rfl (lv_at hl 1 rfl) ?_
    refine rC_n X V (by omega) dC_isLine_10 ?_
    refine lv_icmp_ge (tgt := 18) hx hb dC_isLine_11 (by decide) (fun c_2 => ?_) (fun c_2 => ?_)
    ·
      refine lv_iconst (v := nI 0) hx hb dC_isLine_18 (by decide) ?_
      exact cj_retz () X hr V (by decide) (by first | exact Or.inl ⟨rfl, cj_ixt ‹_› ‹_› (by omega)⟩ | exact Or.inr ⟨rfl, cj_ixf0 ‹_› (by omega)⟩ | exact Or.inr ⟨rfl, cj_ixf1 ‹_› (by omega)⟩) dC_isLine_19
    ·
      refine lv_iconst (v := nI 1) hx hb dC_isLine_14 (by decide) ?_
      refine lv_goto (tgt := 19) hx hb dC_isLine_15 (by decide) ?_
      exact cj_retz () X hr V (by decide) (by first | exact Or.inl ⟨rfl, cj_ixt ‹_› ‹_› (by omega)⟩ | exact Or.inr ⟨rfl, cj_ixf0 ‹_› (by omega)⟩ | exact Or.inr ⟨rfl, cj_ixf1 ‹_› (by omega)⟩) dC_isLine_19
set_option maxRecDepth 100000 in
set_option maxHeartbeats 4000000 in
theorem c_C_bitOf (l : Launch) (D : va_G) (kd : Nat → ClassId) (ad : Nat → Nat) {E : Nat} {n : Nat → Nat} {cl : Nat → Bool} {con : Nat → Nat → Int32} {ow : Nat → Nat → Int64} {rn : Nat} {ed : Nat → Nat} {co : Nat → Nat} {hz : Nat → Int64} {mp : Nat → Nat → Nat} {pr : Nat → Int32} {cn : Nat} {hs : Nat → Int64} {wg : Nat → Int64} {rs : Nat → Int64} {ch : Int32}  (j : Nat) (hj : j < 64) : cj_Ml (S := Unit) l yC_bitOf cC_bitOf 1 (some .long) 0 D kd [.int (nI j)] (wC kd ad E n cl con ow rn ed co hz mp pr cn hs wg rs ch) (fun r _ => r = cj_bit j) (fun _ => wC kd ad E n cl con ow rn ed co hz mp pr cn hs wg rs ch) := by
  refine cj_ofl (by decide) (Nat.le_of_ble_eq_true rfl) ?_
  intro p e s m below meth c A ls X hr V hl
  obtain ⟨⟨hx, hb, hml, hown, hts⟩, hK, hlk⟩ := id X
  have hl : lv_has ls 1 [(0, .int (nI j))] := hl
  refine lv_lconst (v := lN 1) hx hb dC_bitOf_0 (by decide) ?_
  refine lv_iload_n hx hb dC_bitOf_1 rfl (lv_at hl 0 rfl) ?_
  refine lv_lshl hx hb dC_bitOf_2 (cj_shl1 (by omega)) ?_
  exact cj_retl () X hr V rfl dC_bitOf_3
set_option maxRecDepth 100000 in
set_option maxHeartbeats 4000000 in
theorem c_C_firstBits (l : Launch) (D : va_G) (kd : Nat → ClassId) (ad : Nat → Nat) {E : Nat} {n : Nat → Nat} {cl : Nat → Bool} {con : Nat → Nat → Int32} {ow : Nat → Nat → Int64} {rn : Nat} {ed : Nat → Nat} {co : Nat → Nat} {hz : Nat → Int64} {mp : Nat → Nat → Nat} {pr : Nat → Int32} {cn : Nat} {hs : Nat → Int64} {wg : Nat → Int64} {rs : Nat → Int64} {ch : Int32}  (j : Nat) (hj : j < 64) : cj_Ml (S := Unit) l yC_firstBits cC_firstBits 1 (some .long) 0 D kd [.int (nI j)] (wC kd ad E n cl con ow rn ed co hz mp pr cn hs wg rs ch) (fun r _ => r = cj_bit j - lN 1) (fun _ => wC kd ad E n cl con ow rn ed co hz mp pr cn hs wg rs ch) := by
  refine cj_ofl (by decide) (Nat.le_of_ble_eq_true rfl) ?_
  intro p e s m below meth c A ls X hr V hl
  obtain ⟨⟨hx, hb, hml, hown, hts⟩, hK, hlk⟩ := id X
  have hl : lv_has ls 1 [(0, .int (nI j))] := hl
  refine lv_lconst (v := lN 1) hx hb dC_firstBits_0 (by decide) ?_
  refine lv_iload_n hx hb dC_firstBits_1 rfl (lv_at hl 0 rfl) ?_
  refine lv_lshl hx hb dC_firstBits_2 (cj_shl1 (by omega)) ?_
  refine lv_lconst (v := lN 1) hx hb dC_firstBits_3 (by decide) ?_
  refine lv_lsub hx hb dC_firstBits_4 ?_
  exact cj_retl () X hr V rfl dC_firstBits_5
