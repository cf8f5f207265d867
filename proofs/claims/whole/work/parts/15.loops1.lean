set_option maxRecDepth 100000 in
set_option maxHeartbeats 4000000 in
theorem lp_C_ungen {p : Program} {l : Launch} {e : Env} {s : State} {m : MethodId} {args : Array Value} {below : List Frame} {meth : Method} {c : Code} {Q : State → Prop} {D : va_G} {kd : Nat → ClassId} {A : Nat → Prop} {H0 : Heap} {ad : Nat → Nat} {E : Nat} {n : Nat → Nat} {cl : Nat → Bool} {con : Nat → Nat → Int32} {ow : Nat → Nat → Int64} {rn : Nat} {ed : Nat → Nat} {co : Nat → Nat} {hz : Nat → Int64} {mp : Nat → Nat → Nat} {pr : Nat → Int32} {cn : Nat} {hs : Nat → Int64} {wg : Nat → Int64} {rs : Nat → Int64} {ch : Int32} (X : cj_X p s m args c meth cC_ungenerated 5 RC D kd) (ea : Nat) (he : ea < 8) : ∀ (d i : Nat) (H : Heap) (locs : List Loc) (ls : Array Slot), i + d = 4 → cj_V D A H0 (wC kd ad E n cl con ow rn ed co hz mp pr cn hs wg rs ch) H locs → lv_has ls 5 [(4, .int (nI i)), (2, .long (cj_ug ow ea i)), (0, .ref (ad 0)), (1, .int (nI ea))] → (∀ (H : Heap) (locs : List Loc) (ls : Array Slot), cj_V D A H0 (wC kd ad E n cl con ow rn ed co hz mp pr cn hs wg rs ch) H locs → lv_has ls 5 [(4, .int (nI 4)), (2, .long (cj_ug ow ea 4)), (0, .ref (ad 0)), (1, .int (nI ea))] → W p l e (cj_rm 0) s m args below meth c H locs 0 0 Q (F0 m 29 ls [])) → W p l e (cj_rm 0) s m args below meth c H locs 0 0 Q (F0 m 5 ls []) := by
  obtain ⟨⟨hx, hb, hml, hown, hts⟩, hK, hlk⟩ := id X
  intro d
  induction d with
  | zero =>
    intro i H locs ls hi V hl kont
    refine lv_iload hx hb dC_ungenerated_5 (lv_at hl 0 rfl) ?_
    refine lv_iconst (v := nI 4) hx hb dC_ungenerated_7 (by decide) ?_
    refine cj_n_ge (tgt := 29) hx hb dC_ungenerated_8 (by decide) (by omega) (by omega) (fun c_1 => ?_) (fun c_1 => ?_)
    ·
      obtain rfl : i = 4 := by omega
      exact kont _ _ _ V (lv_sub hl [0, 1, 2, 3] rfl)
    ·
      exact absurd c_1 (by omega)
  | succ d ih =>
    intro i H locs ls hi V hl kont
    refine lv_iload hx hb dC_ungenerated_5 (lv_at hl 0 rfl) ?_
    refine lv_iconst (v := nI 4) hx hb dC_ungenerated_7 (by decide) ?_
    refine cj_n_ge (tgt := 29) hx hb dC_ungenerated_8 (by decide) (by omega) (by omega) (fun c_1 => ?_) (fun c_1 => ?_)
    ·
      exact absurd c_1 (by omega)
    ·
      refine lv_lload_n hx hb dC_ungenerated_11 rfl (lv_at hl 1 rfl) ?_
      refine lv_aload_n hx hb dC_ungenerated_12 rfl (lv_at hl 2 rfl) ?_
      refine gC 4 X V fl_C_28 (by decide) rfl dC_ungenerated_13 ?_
      refine lv_iload_n hx hb dC_ungenerated_16 rfl (lv_at hl 3 rfl) ?_
      refine rC_owO X V (by omega) dC_ungenerated_17 ?_
      refine lv_iload hx hb dC_ungenerated_18 (lv_at hl 0 rfl) ?_
      refine rC_owR X V (by omega) (by omega) dC_ungenerated_20 ?_
      refine lv_lor hx hb dC_ungenerated_21 ?_
      refine lv_lstore_n (lv' := [(2, .long ((cj_ug ow ea i) ||| (ow ea i))), (4, .int (nI i)), (0, .ref (ad 0)), (1, .int (nI ea))]) hx hb dC_ungenerated_22 rfl hl (by decide) rfl (fun ls hl => ?_)
      refine lv_iinc (v := nI (i + 1)) (lv' := [(4, .int (nI (i + 1))), (2, .long ((cj_ug ow ea i) ||| (ow ea i))), (0, .ref (ad 0)), (1, .int (nI ea))]) hx hb dC_ungenerated_23 hl (k := 1) rfl (cj_inc _) (by decide) rfl (fun ls hl => ?_)
      refine lv_goto (tgt := 5) hx hb dC_ungenerated_26 (by decide) ?_
      exact ih (i + 1) _ _ ls (by omega) V (lv_sub hl [0, 1, 2, 3] rfl) kont
set_option maxRecDepth 100000 in
set_option maxHeartbeats 4000000 in
theorem c_C_ungenerated (l : Launch) (D : va_G) (kd : Nat → ClassId) (ad : Nat → Nat) {E : Nat} {n : Nat → Nat} {cl : Nat → Bool} {con : Nat → Nat → Int32} {ow : Nat → Nat → Int64} {rn : Nat} {ed : Nat → Nat} {co : Nat → Nat} {hz : Nat → Int64} {mp : Nat → Nat → Nat} {pr : Nat → Int32} {cn : Nat} {hs : Nat → Int64} {wg : Nat → Int64} {rs : Nat → Int64} {ch : Int32} (ea : Nat) (he : ea < 8) : cj_Ml (S := Unit) l yC_ungenerated cC_ungenerated 5 (some .long) 0 D kd [.ref (ad 0), .int (nI ea)] (wC kd ad E n cl con ow rn ed co hz mp pr cn hs wg rs ch) (fun r _ => r = cj_ug ow ea 4) (fun _ => wC kd ad E n cl con ow rn ed co hz mp pr cn hs wg rs ch) := by
  refine cj_ofl (by decide) (Nat.le_of_ble_eq_true rfl) ?_
  intro p e s m below meth c A ls X hr V hl
  obtain ⟨⟨hx, hb, hml, hown, hts⟩, hK, hlk⟩ := id X
  have hl : lv_has ls 5 [(0, .ref (ad 0)), (1, .int (nI ea))] := hl
  refine lv_lconst (v := 0) hx hb dC_ungenerated_0 (by decide) ?_
  refine lv_lstore_n (lv' := [(2, .long 0), (0, .ref (ad 0)), (1, .int (nI ea))]) hx hb dC_ungenerated_1 rfl hl (by decide) rfl (fun ls hl => ?_)
  refine lv_iconst (v := nI 0) hx hb dC_ungenerated_2 (by decide) ?_
  refine lv_istore (lv' := [(4, .int (nI 0)), (2, .long 0), (0, .ref (ad 0)), (1, .int (nI ea))]) hx hb dC_ungenerated_3 hl (by decide) rfl (fun ls hl => ?_)
  refine lp_C_ungen X ea he 4 0 _ _ ls rfl V (lv_sub hl [0, 1, 2, 3] rfl) (fun H locs ls V hl => ?_)
  refine lv_lload_n hx hb dC_ungenerated_29 rfl (lv_at hl 1 rfl) ?_
  exact cj_retl () X hr V rfl dC_ungenerated_30
set_option maxRecDepth 100000 in
set_option maxHeartbeats 4000000 in
theorem lp_C_pairsOf {p : Program} {l : Launch} {e : Env} {s : State} {m : MethodId} {args : Array Value} {below : List Frame} {meth : Method} {c : Code} {Q : State → Prop} {D : va_G} {kd : Nat → ClassId} {A : Nat → Prop} {H0 : Heap} {ad : Nat → Nat} {E : Nat} {n : Nat → Nat} {cl : Nat → Bool} {con : Nat → Nat → Int32} {ow : Nat → Nat → Int64} {rn : Nat} {ed : Nat → Nat} {co : Nat → Nat} {hz : Nat → Int64} {mp : Nat → Nat → Nat} {pr : Nat → Int32} {cn : Nat} {hs : Nat → Int64} {wg : Nat → Int64} {rs : Nat → Int64} {ch : Int32} (X : cj_X p s m args c meth cC_pairsOf 7 RC D kd) (ea : Nat) (he : ea < 8) (sm : Int64) (pp : Nat → Option Nat) (hn : ∀ i, n i ≤ 40) (hpr : ∀ i, i < n ea → pr i = oI (pp i)) (hpp : ∀ i q, pp i = some q → q < 40) : ∀ (d i : Nat) (H : Heap) (locs : List Loc) (ls : Array Slot), i + d = n ea → cj_V D A H0 (wC kd ad E n cl con ow rn ed co hz mp pr cn hs wg rs ch) H locs → lv_has ls 7 [(6, .int (nI i)), (4, .long (cj_po pp sm i)), (0, .ref (ad 0)), (1, .int (nI ea)), (2, .long sm)] → (∀ (H : Heap) (locs : List Loc) (ls : Array Slot), cj_V D A H0 (wC kd ad E n cl con ow rn ed co hz mp pr cn hs wg rs ch) H locs → lv_has ls 7 [(6, .int (nI (n ea))), (4, .long (cj_po pp sm (n ea))), (0, .ref (ad 0)), (1, .int (nI ea)), (2, .long sm)] → W p l e (cj_rm 1) s m args below meth c H locs 0 0 Q (F0 m 61 ls [])) → W p l e (cj_rm 1) s m args below meth c H locs 0 0 Q (F0 m 6 ls []) := by
  obtain ⟨⟨hx, hb, hml, hown, hts⟩, hK, hlk⟩ := id X
  intro d
  induction d with
  | zero =>
    intro i H locs ls hi V hl kont
    refine lv_iload hx hb dC_pairsOf_6 (lv_at hl 0 rfl) ?_
    refine lv_aload_n hx hb dC_pairsOf_8 rfl (lv_at hl 2 rfl) ?_
    refine gC 1 X V fl_C_13 (by decide) rfl dC_pairsOf_9 ?_
    refine lv_iload_n hx hb dC_pairsOf_12 rfl (lv_at hl 3 rfl) ?_
    refine rC_n X V (by omega) dC_pairsOf_13 ?_
    have f_e_1 := hn ea
    refine cj_n_ge (tgt := 61) hx hb dC_pairsOf_14 (by decide) (by omega) (by omega) (fun c_2 => ?_) (fun c_2 => ?_)
    ·
      obtain rfl : i = n ea := by omega
      exact kont _ _ _ V (lv_sub hl [0, 1, 2, 3, 4] rfl)
    ·
      exact absurd c_2 (by omega)
  | succ d ih =>
    intro i H locs ls hi V hl kont
    refine lv_iload hx hb dC_pairsOf_6 (lv_at hl 0 rfl) ?_
    refine lv_aload_n hx hb dC_pairsOf_8 rfl (lv_at hl 2 rfl) ?_
    refine gC 1 X V fl_C_13 (by decide) rfl dC_pairsOf_9 ?_
    refine lv_iload_n hx hb dC_pairsOf_12 rfl (lv_at hl 3 rfl) ?_
    refine rC_n X V (by omega) dC_pairsOf_13 ?_
    have f_e_1 := hn ea
    refine cj_n_ge (tgt := 61) hx hb dC_pairsOf_14 (by decide) (by omega) (by omega) (fun c_2 => ?_) (fun c_2 => ?_)
    ·
      exact absurd c_2 (by omega)
    ·
      refine lv_lload_n hx hb dC_pairsOf_17 rfl (lv_at hl 4 rfl) ?_
      refine lv_iload hx hb dC_pairsOf_18 (lv_at hl 0 rfl) ?_
      refine cj_csl X V (c_C_bitOf l D kd ad i (by omega)) ml_C_67 st_C_bitOf in_C cd_C_bitOf hd_C_bitOf ⟨by decide, by decide⟩ ⟨Nat.le_refl _, Nat.le_refl _⟩ hl.1 rfl (Nat.le_of_ble_eq_true rfl) dC_pairsOf_20 (fun r_9 u_9 H locs hw V => ?_)
      obtain rfl := hw
      refine lv_land hx hb dC_pairsOf_23 ?_
      refine lv_lconst (v := 0) hx hb dC_pairsOf_24 (by decide) ?_
      refine cj_l_eq (tgt := 55) hx hb dC_pairsOf_25 dC_pairsOf_26 (by decide) (fun c_3 => ?_) (fun c_3 => ?_)
      ·
        refine lv_iinc (v := nI (i + 1)) (lv' := [(6, .int (nI (i + 1))), (4, .long (cj_po pp sm i)), (0, .ref (ad 0)), (1, .int (nI ea)), (2, .long sm)]) hx hb dC_pairsOf_55 hl (k := 0) rfl (cj_inc _) (by decide) rfl (fun ls hl => ?_)
        refine lv_goto (tgt := 6) hx hb dC_pairsOf_58 (by decide) ?_
        exact ih (i + 1) _ _ ls (by omega) V (lv_sub hl [0, 1, 2, 3, 4] (by rw [cj_po_f (cj_ab_f (by omega) c_3)]; rfl)) kont
      ·
        rcases hq : pp i with _ | q
        ·
          have hpi : pr i = (-1) := by rw [hpr i (by omega), hq]; rfl
          refine lv_aload_n hx hb dC_pairsOf_29 rfl (lv_at hl 2 rfl) ?_
          refine gC 10 X V fl_C_47 (by decide) rfl dC_pairsOf_30 ?_
          refine lv_iload hx hb dC_pairsOf_33 (lv_at hl 0 rfl) ?_
          refine rC_pr X V (by omega) dC_pairsOf_35 ?_
          refine cj_ti hpi ?_
          refine lv_iconst (v := (-1)) hx hb dC_pairsOf_36 (by decide) ?_
          refine lv_icmp_eq (tgt := 55) hx hb dC_pairsOf_37 (by decide) (fun _ => ?_) (fun h => absurd rfl h)
          refine lv_iinc (v := nI (i + 1)) (lv' := [(6, .int (nI (i + 1))), (4, .long (cj_po pp sm i)), (0, .ref (ad 0)), (1, .int (nI ea)), (2, .long sm)]) hx hb dC_pairsOf_55 hl (k := 0) rfl (cj_inc _) (by decide) rfl (fun ls hl => ?_)
          refine lv_goto (tgt := 6) hx hb dC_pairsOf_58 (by decide) ?_
          exact ih (i + 1) _ _ ls (by omega) V (lv_sub hl [0, 1, 2, 3, 4] (by rw [cj_po_n hq]; rfl)) kont
        ·
          have hpi : pr i = nI q := by rw [hpr i (by omega), hq]; rfl
          have hq40 := hpp i q hq
          refine lv_aload_n hx hb dC_pairsOf_29 rfl (lv_at hl 2 rfl) ?_
          refine gC 10 X V fl_C_47 (by decide) rfl dC_pairsOf_30 ?_
          refine lv_iload hx hb dC_pairsOf_33 (lv_at hl 0 rfl) ?_
          refine rC_pr X V (by omega) dC_pairsOf_35 ?_
          refine cj_ti hpi ?_
          refine lv_iconst (v := (-1)) hx hb dC_pairsOf_36 (by decide) ?_
          refine lv_icmp_eq (tgt := 55) hx hb dC_pairsOf_37 (by decide) (fun h => absurd h (cj_nm1 (by omega))) (fun _ => ?_)
          refine lv_lload hx hb dC_pairsOf_40 (lv_at hl 1 rfl) ?_
          refine lv_aload_n hx hb dC_pairsOf_42 rfl (lv_at hl 2 rfl) ?_
          refine gC 10 X V fl_C_47 (by decide) rfl dC_pairsOf_43 ?_
          refine lv_iload hx hb dC_pairsOf_46 (lv_at hl 0 rfl) ?_
          refine rC_pr X V (by omega) dC_pairsOf_48 ?_
          refine cj_ti hpi ?_
          refine cj_csl X V (c_C_bitOf l D kd ad q (by omega)) ml_C_67 st_C_bitOf in_C cd_C_bitOf hd_C_bitOf ⟨by decide, by decide⟩ ⟨Nat.le_refl _, Nat.le_refl _⟩ hl.1 rfl (Nat.le_of_ble_eq_true rfl) dC_pairsOf_49 (fun r_9 u_9 H locs hw V => ?_)
          obtain rfl := hw
          refine lv_lor hx hb dC_pairsOf_52 ?_
          refine lv_lstore (lv' := [(4, .long ((cj_po pp sm i) ||| (cj_bit q))), (6, .int (nI i)), (0, .ref (ad 0)), (1, .int (nI ea)), (2, .long sm)]) hx hb dC_pairsOf_53 hl (by decide) rfl (fun ls hl => ?_)
          refine lv_iinc (v := nI (i + 1)) (lv' := [(6, .int (nI (i + 1))), (4, .long ((cj_po pp sm i) ||| (cj_bit q))), (0, .ref (ad 0)), (1, .int (nI ea)), (2, .long sm)]) hx hb dC_pairsOf_55 hl (k := 1) rfl (cj_inc _) (by decide) rfl (fun ls hl => ?_)
          refine lv_goto (tgt := 6) hx hb dC_pairsOf_58 (by decide) ?_
          exact ih (i + 1) _ _ ls (by omega) V (lv_sub hl [0, 1, 2, 3, 4] (by rw [cj_po_s (cj_ab_t (by omega) c_3) hq]; rfl)) kont
set_option maxRecDepth 100000 in
set_option maxHeartbeats 4000000 in
theorem c_C_pairsOf (l : Launch) (D : va_G) (kd : Nat → ClassId) (ad : Nat → Nat) {E : Nat} {n : Nat → Nat} {cl : Nat → Bool} {con : Nat → Nat → Int32} {ow : Nat → Nat → Int64} {rn : Nat} {ed : Nat → Nat} {co : Nat → Nat} {hz : Nat → Int64} {mp : Nat → Nat → Nat} {pr : Nat → Int32} {cn : Nat} {hs : Nat → Int64} {wg : Nat → Int64} {rs : Nat → Int64} {ch : Int32} (ea : Nat) (he : ea < 8) (sm : Int64) (pp : Nat → Option Nat) (hn : ∀ i, n i ≤ 40) (hpr : ∀ i, i < n ea → pr i = oI (pp i)) (hpp : ∀ i q, pp i = some q → q < 40) : cj_Ml (S := Unit) l yC_pairsOf cC_pairsOf 7 (some .long) 1 D kd [.ref (ad 0), .int (nI ea), .long sm] (wC kd ad E n cl con ow rn ed co hz mp pr cn hs wg rs ch) (fun r _ => r = cj_po pp sm (n ea)) (fun _ => wC kd ad E n cl con ow rn ed co hz mp pr cn hs wg rs ch) := by
  refine cj_ofl (by decide) (Nat.le_of_ble_eq_true rfl) ?_
  intro p e s m below meth c A ls X hr V hl
  obtain ⟨⟨hx, hb, hml, hown, hts⟩, hK, hlk⟩ := id X
  have hl : lv_has ls 7 [(0, .ref (ad 0)), (1, .int (nI ea)), (2, .long sm)] := hl
  refine lv_lconst (v := 0) hx hb dC_pairsOf_0 (by decide) ?_
  refine lv_lstore (lv' := [(4, .long 0), (0, .ref (ad 0)), (1, .int (nI ea)), (2, .long sm)]) hx hb dC_pairsOf_1 hl (by decide) rfl (fun ls hl => ?_)
  refine lv_iconst (v := nI 0) hx hb dC_pairsOf_3 (by decide) ?_
  refine lv_istore (lv' := [(6, .int (nI 0)), (4, .long 0), (0, .ref (ad 0)), (1, .int (nI ea)), (2, .long sm)]) hx hb dC_pairsOf_4 hl (by decide) rfl (fun ls hl => ?_)
  refine lp_C_pairsOf X ea he sm pp hn hpr hpp (n ea) 0 _ _ ls (by omega) V (lv_sub hl [0, 1, 2, 3, 4] rfl) (fun H locs ls V hl => ?_)
  refine lv_lload hx hb dC_pairsOf_61 (lv_at hl 1 rfl) ?_
  exact cj_retl () X hr V rfl dC_pairsOf_63
set_option maxRecDepth 100000 in
set_option maxHeartbeats 4000000 in
theorem lp_C_placeOf {p : Program} {l : Launch} {e : Env} {s : State} {m : MethodId} {args : Array Value} {below : List Frame} {meth : Method} {c : Code} {Q : State → Prop} {D : va_G} {kd : Nat → ClassId} {A : Nat → Prop} {H0 : Heap} {ad : Nat → Nat} {E : Nat} {n : Nat → Nat} {cl : Nat → Bool} {con : Nat → Nat → Int32} {ow : Nat → Nat → Int64} {rn : Nat} {ed : Nat → Nat} {co : Nat → Nat} {hz : Nat → Int64} {mp : Nat → Nat → Nat} {pr : Nat → Int32} {cn : Nat} {hs : Nat → Int64} {wg : Nat → Int64} {rs : Nat → Int64} {ch : Int32} (X : cj_X p s m args c meth cC_placeOf 5 RC D kd) (x : Int32) (ea : Nat) (he : ea < 8) (hn : ∀ i, n i ≤ 40) : ∀ (d i : Nat) (H : Heap) (locs : List Loc) (ls : Array Slot), i + d = n ea → (∀ (q : Nat) (H : Heap) (locs : List Loc) (ls : Array Slot), cj_fd (con ea) x d i = some q → cj_V D A H0 (wC kd ad E n cl con ow rn ed co hz mp pr cn hs wg rs ch) H locs → lv_has ls 5 [(4, .int (nI q)), (0, .ref (ad 0)), (1, .int x), (2, .int (nI ea))] → W p l e (cj_rm 0) s m args below meth c H locs 0 0 Q (F0 m 27 ls [])) → cj_V D A H0 (wC kd ad E n cl con ow rn ed co hz mp pr cn hs wg rs ch) H locs → lv_has ls 5 [(4, .int (nI i)), (0, .ref (ad 0)), (1, .int x), (2, .int (nI ea))] → (∀ (H : Heap) (locs : List Loc) (ls : Array Slot), cj_fd (con ea) x d i = none → cj_V D A H0 (wC kd ad E n cl con ow rn ed co hz mp pr cn hs wg rs ch) H locs → lv_has ls 5 [(4, .int (nI (n ea))), (0, .ref (ad 0)), (1, .int x), (2, .int (nI ea))] → W p l e (cj_rm 0) s m args below meth c H locs 0 0 Q (F0 m 36 ls [])) → W p l e (cj_rm 0) s m args below meth c H locs 0 0 Q (F0 m 3 ls []) := by
  obtain ⟨⟨hx, hb, hml, hown, hts⟩, hK, hlk⟩ := id X
  intro d
  induction d with
  | zero =>
    intro i H locs ls hi kq V hl kont
    refine lv_iload hx hb dC_placeOf_3 (lv_at hl 0 rfl) ?_
    refine lv_aload_n hx hb dC_placeOf_5 rfl (lv_at hl 1 rfl) ?_
    refine gC 1 X V fl_C_13 (by decide) rfl dC_placeOf_6 ?_
    refine lv_iload_n hx hb dC_placeOf_9 rfl (lv_at hl 3 rfl) ?_
    refine rC_n X V (by omega) dC_placeOf_10 ?_
    have f_e_1 := hn ea
    refine cj_n_ge (tgt := 36) hx hb dC_placeOf_11 (by decide) (by omega) (by omega) (fun c_2 => ?_) (fun c_2 => ?_)
    ·
      obtain rfl : i = n ea := by omega
      exact kont _ _ _ rfl V (lv_sub hl [0, 1, 2, 3] rfl)
    ·
      exact absurd c_2 (by omega)
  | succ d ih =>
    intro i H locs ls hi kq V hl kont
    refine lv_iload hx hb dC_placeOf_3 (lv_at hl 0 rfl) ?_
    refine lv_aload_n hx hb dC_placeOf_5 rfl (lv_at hl 1 rfl) ?_
    refine gC 1 X V fl_C_13 (by decide) rfl dC_placeOf_6 ?_
    refine lv_iload_n hx hb dC_placeOf_9 rfl (lv_at hl 3 rfl) ?_
    refine rC_n X V (by omega) dC_placeOf_10 ?_
    have f_e_1 := hn ea
    refine cj_n_ge (tgt := 36) hx hb dC_placeOf_11 (by decide) (by omega) (by omega) (fun c_2 => ?_) (fun c_2 => ?_)
    ·
      exact absurd c_2 (by omega)
    ·
      refine lv_aload_n hx hb dC_placeOf_14 rfl (lv_at hl 1 rfl) ?_
      refine gC 3 X V fl_C_23 (by decide) rfl dC_placeOf_15 ?_
      refine lv_iload_n hx hb dC_placeOf_18 rfl (lv_at hl 3 rfl) ?_
      refine rC_conO X V (by omega) dC_placeOf_19 ?_
      refine lv_iload hx hb dC_placeOf_20 (lv_at hl 0 rfl) ?_
      refine rC_conR X V (by omega) (by omega) dC_placeOf_22 ?_
      refine lv_iload_n hx hb dC_placeOf_23 rfl (lv_at hl 2 rfl) ?_
      refine lv_icmp_ne (tgt := 30) hx hb dC_placeOf_24 (by decide) (fun c_3 => ?_) (fun c_3 => ?_)
      ·
        refine lv_iinc (v := nI (i + 1)) (lv' := [(4, .int (nI (i + 1))), (0, .ref (ad 0)), (1, .int x), (2, .int (nI ea))]) hx hb dC_placeOf_30 hl (k := 0) rfl (cj_inc _) (by decide) rfl (fun ls hl => ?_)
        refine lv_goto (tgt := 3) hx hb dC_placeOf_33 (by decide) ?_
        exact ih (i + 1) _ _ ls (by omega) (fun q H locs ls h => kq q H locs ls (by rw [cj_fd_f c_3]; exact h)) V (lv_sub hl [0, 1, 2, 3] rfl) (fun H locs ls h => kont H locs ls (by rw [cj_fd_f c_3]; exact h))
      ·
        exact kq i _ _ ls (cj_fd_t c_3) V (lv_sub hl [0, 1, 2, 3] rfl)
set_option maxRecDepth 100000 in
set_option maxHeartbeats 4000000 in
theorem c_C_placeOf (l : Launch) (D : va_G) (kd : Nat → ClassId) (ad : Nat → Nat) {E : Nat} {n : Nat → Nat} {cl : Nat → Bool} {con : Nat → Nat → Int32} {ow : Nat → Nat → Int64} {rn : Nat} {ed : Nat → Nat} {co : Nat → Nat} {hz : Nat → Int64} {mp : Nat → Nat → Nat} {pr : Nat → Int32} {cn : Nat} {hs : Nat → Int64} {wg : Nat → Int64} {rs : Nat → Int64} {ch : Int32} (x : Int32) (ea : Nat) (he : ea < 8) (hn : ∀ i, n i ≤ 40) (f : Nat) (hf : f ≤ n ea) : cj_Mi (S := Unit) l yC_placeOf cC_placeOf 5 (some .int) 0 D kd [.ref (ad 0), .int x, .int (nI ea), .int (nI f)] (wC kd ad E n cl con ow rn ed co hz mp pr cn hs wg rs ch) (fun r _ => r = oI (cj_fd (con ea) x (n ea - f) f)) (fun _ => wC kd ad E n cl con ow rn ed co hz mp pr cn hs wg rs ch) := by
  refine cj_ofi (by decide) (Nat.le_of_ble_eq_true rfl) ?_
  intro p e s m below meth c A ls X hr V hl
  obtain ⟨⟨hx, hb, hml, hown, hts⟩, hK, hlk⟩ := id X
  have hl : lv_has ls 5 [(0, .ref (ad 0)), (1, .int x), (2, .int (nI ea)), (3, .int (nI f))] := hl
  refine lv_iload_n hx hb dC_placeOf_0 rfl (lv_at hl 3 rfl) ?_
  refine lv_istore (lv' := [(4, .int (nI f)), (0, .ref (ad 0)), (1, .int x), (2, .int (nI ea)), (3, .int (nI f))]) hx hb dC_placeOf_1 hl (by decide) rfl (fun ls hl => ?_)
  have hni := hn ea
  refine lp_C_placeOf X x ea he hn (n ea - f) f _ _ ls (by omega) (fun q H locs ls hq V hl => ?_) V (lv_sub hl [0, 1, 2, 3] rfl) (fun H locs ls hq V hl => ?_)
  ·
    refine lv_iload hx hb dC_placeOf_27 (lv_at hl 0 rfl) ?_
    exact cj_reti () X hr V (by rw [hq]; rfl) dC_placeOf_29
  ·
    refine lv_iconst (v := (-1)) hx hb dC_placeOf_36 (by decide) ?_
    exact cj_reti () X hr V (by rw [hq]; rfl) dC_placeOf_37
set_option maxRecDepth 100000 in
set_option maxHeartbeats 4000000 in
theorem lp_C_dead {p : Program} {l : Launch} {e : Env} {s : State} {m : MethodId} {args : Array Value} {below : List Frame} {meth : Method} {c : Code} {Q : State → Prop} {D : va_G} {kd : Nat → ClassId} {A : Nat → Prop} {H0 : Heap} {ad : Nat → Nat} {E : Nat} {n : Nat → Nat} {cl : Nat → Bool} {con : Nat → Nat → Int32} {ow : Nat → Nat → Int64} {rn : Nat} {ed : Nat → Nat} {co : Nat → Nat} {hz : Nat → Int64} {mp : Nat → Nat → Nat} {pr : Nat → Int32} {cn : Nat} {hs : Nat → Int64} {wg : Nat → Int64} {rs : Nat → Int64} {ch : Int32} (X : cj_X p s m args c meth cC_dead 6 RC D kd) (hR : rn ≤ 14) (ea : Nat) (he : ea < 8) (hed : ∀ r, r < rn → ed r < 8) : ∀ (d i : Nat) (H : Heap) (locs : List Loc) (ls : Array Slot), i + d = rn → cj_V D A H0 (wC kd ad E n cl con ow rn ed co hz mp pr cn hs wg rs ch) H locs → lv_has ls 6 [(5, .int (nI i)), (4, .int (cj_dd ed hz ea i)), (2, .long (cj_sn ed hz ea i)), (0, .ref (ad 0)), (1, .int (nI ea))] → (∀ (H : Heap) (locs : List Loc) (ls : Array Slot), cj_V D A H0 (wC kd ad E n cl con ow rn ed co hz mp pr cn hs wg rs ch) H locs → lv_has ls 6 [(5, .int (nI rn)), (4, .int (cj_dd ed hz ea rn)), (2, .long (cj_sn ed hz ea rn)), (0, .ref (ad 0)), (1, .int (nI ea))] → W p l e (cj_rm 1) s m args below meth c H locs 0 0 Q (F0 m 81 ls [])) → W p l e (cj_rm 1) s m args below meth c H locs 0 0 Q (F0 m 18 ls []) := by
  obtain ⟨⟨hx, hb, hml, hown, hts⟩, hK, hlk⟩ := id X
  intro d
  induction d with
  | zero =>
    intro i H locs ls hi V hl kont
    refine lv_iload hx hb dC_dead_18 (lv_at hl 0 rfl) ?_
    refine lv_aload_n hx hb dC_dead_20 rfl (lv_at hl 3 rfl) ?_
    refine gC 5 X V fl_C_31 (by decide) rfl dC_dead_21 ?_
    refine cj_n_ge (tgt := 81) hx hb dC_dead_24 (by decide) (by omega) (by omega) (fun c_1 => ?_) (fun c_1 => ?_)
    ·
      obtain rfl : i = rn := by omega
      exact kont _ _ _ V (lv_sub hl [0, 1, 2, 3, 4] rfl)
    ·
      exact absurd c_1 (by omega)
  | succ d ih =>
    intro i H locs ls hi V hl kont
    refine lv_iload hx hb dC_dead_18 (lv_at hl 0 rfl) ?_
    refine lv_aload_n hx hb dC_dead_20 rfl (lv_at hl 3 rfl) ?_
    refine gC 5 X V fl_C_31 (by decide) rfl dC_dead_21 ?_
    refine cj_n_ge (tgt := 81) hx hb dC_dead_24 (by decide) (by omega) (by omega) (fun c_1 => ?_) (fun c_1 => ?_)
    ·
      exact absurd c_1 (by omega)
    ·
      refine lv_aload_n hx hb dC_dead_27 rfl (lv_at hl 3 rfl) ?_
      refine gC 6 X V fl_C_34 (by decide) rfl dC_dead_28 ?_
      refine lv_iload hx hb dC_dead_31 (lv_at hl 0 rfl) ?_
      refine rC_ed X V (by omega) dC_dead_33 ?_
      have f_e_2 := hed i (by omega)
      refine lv_iload_n hx hb dC_dead_34 rfl (lv_at hl 4 rfl) ?_
      refine cj_n_ne (tgt := 75) hx hb dC_dead_35 (by decide) (by omega) (by omega) (fun c_3 => ?_) (fun c_3 => ?_)
      ·
        refine lv_iinc (v := nI (i + 1)) (lv' := [(5, .int (nI (i + 1))), (4, .int (cj_dd ed hz ea i)), (2, .long (cj_sn ed hz ea i)), (0, .ref (ad 0)), (1, .int (nI ea))]) hx hb dC_dead_75 hl (k := 0) rfl (cj_inc _) (by decide) rfl (fun ls hl => ?_)
        refine lv_goto (tgt := 18) hx hb dC_dead_78 (by decide) ?_
        exact ih (i + 1) _ _ ls (by omega) V (lv_sub hl [0, 1, 2, 3, 4] (by rw [cj_dd_f c_3, cj_sn_f c_3]; rfl)) kont
      ·
        refine lv_aload_n hx hb dC_dead_38 rfl (lv_at hl 3 rfl) ?_
        refine gC 8 X V fl_C_40 (by decide) rfl dC_dead_39 ?_
        refine lv_iload hx hb dC_dead_42 (lv_at hl 0 rfl) ?_
        refine rC_hi X V (by omega) dC_dead_44 ?_
        refine lv_lload_n hx hb dC_dead_45 rfl (lv_at hl 2 rfl) ?_
        refine lv_ldc2 hx hb hown (hts _ kl_C_112) dC_dead_46 ?_
        refine lv_lxor hx hb dC_dead_49 ?_
        refine lv_land hx hb dC_dead_50 ?_
        refine lv_lconst (v := 0) hx hb dC_dead_51 (by decide) ?_
        refine cj_l_ne (tgt := 65) hx hb dC_dead_52 dC_dead_53 (by decide) (fun c_4 => ?_) (fun c_4 => ?_)
        ·
          refine lv_lload_n hx hb dC_dead_65 rfl (lv_at hl 2 rfl) ?_
          refine lv_aload_n hx hb dC_dead_66 rfl (lv_at hl 3 rfl) ?_
          refine gC 8 X V fl_C_40 (by decide) rfl dC_dead_67 ?_
          refine lv_iload hx hb dC_dead_70 (lv_at hl 0 rfl) ?_
          refine rC_hi X V (by omega) dC_dead_72 ?_
          refine lv_lor hx hb dC_dead_73 ?_
          refine lv_lstore_n (lv' := [(2, .long ((cj_sn ed hz ea i) ||| (hz i))), (5, .int (nI i)), (4, .int (cj_dd ed hz ea i)), (0, .ref (ad 0)), (1, .int (nI ea))]) hx hb dC_dead_74 rfl hl (by decide) rfl (fun ls hl => ?_)
          refine lv_iinc (v := nI (i + 1)) (lv' := [(5, .int (nI (i + 1))), (2, .long ((cj_sn ed hz ea i) ||| (hz i))), (4, .int (cj_dd ed hz ea i)), (0, .ref (ad 0)), (1, .int (nI ea))]) hx hb dC_dead_75 hl (k := 1) rfl (cj_inc _) (by decide) rfl (fun ls hl => ?_)
          refine lv_goto (tgt := 18) hx hb dC_dead_78 (by decide) ?_
          exact ih (i + 1) _ _ ls (by omega) V (lv_sub hl [0, 2, 1, 3, 4] (by rw [cj_dd_1 c_3 c_4, cj_sn_t c_3]; rfl)) kont
        ·
          refine lv_iload hx hb dC_dead_56 (lv_at hl 1 rfl) ?_
          refine lv_iconst (v := nI 1) hx hb dC_dead_58 (by decide) ?_
          refine lv_iload hx hb dC_dead_59 (lv_at hl 0 rfl) ?_
          refine lv_ishl hx hb dC_dead_61 ?_
          refine lv_ior hx hb dC_dead_62 ?_
          refine lv_istore (lv' := [(4, .int ((cj_dd ed hz ea i) ||| ((nI 1) <<< ((nI i) &&& 31)))), (5, .int (nI i)), (2, .long (cj_sn ed hz ea i)), (0, .ref (ad 0)), (1, .int (nI ea))]) hx hb dC_dead_63 hl (by decide) rfl (fun ls hl => ?_)
          refine lv_lload_n hx hb dC_dead_65 rfl (lv_at hl 2 rfl) ?_
          refine lv_aload_n hx hb dC_dead_66 rfl (lv_at hl 3 rfl) ?_
          refine gC 8 X V fl_C_40 (by decide) rfl dC_dead_67 ?_
          refine lv_iload hx hb dC_dead_70 (lv_at hl 1 rfl) ?_
          refine rC_hi X V (by omega) dC_dead_72 ?_
          refine lv_lor hx hb dC_dead_73 ?_
          refine lv_lstore_n (lv' := [(2, .long ((cj_sn ed hz ea i) ||| (hz i))), (4, .int ((cj_dd ed hz ea i) ||| ((nI 1) <<< ((nI i) &&& 31)))), (5, .int (nI i)), (0, .ref (ad 0)), (1, .int (nI ea))]) hx hb dC_dead_74 rfl hl (by decide) rfl (fun ls hl => ?_)
          refine lv_iinc (v := nI (i + 1)) (lv' := [(5, .int (nI (i + 1))), (2, .long ((cj_sn ed hz ea i) ||| (hz i))), (4, .int ((cj_dd ed hz ea i) ||| ((nI 1) <<< ((nI i) &&& 31)))), (0, .ref (ad 0)), (1, .int (nI ea))]) hx hb dC_dead_75 hl (k := 2) rfl (cj_inc _) (by decide) rfl (fun ls hl => ?_)
          refine lv_goto (tgt := 18) hx hb dC_dead_78 (by decide) ?_
          exact ih (i + 1) _ _ ls (by omega) V (lv_sub hl [0, 2, 1, 3, 4] (by rw [cj_dd_0 c_3 c_4, cj_sn_t c_3]; rfl)) kont
set_option maxRecDepth 100000 in
set_option maxHeartbeats 4000000 in
theorem c_C_dead (l : Launch) (D : va_G) (kd : Nat → ClassId) (ad : Nat → Nat) {E : Nat} {n : Nat → Nat} {cl : Nat → Bool} {con : Nat → Nat → Int32} {ow : Nat → Nat → Int64} {rn : Nat} {ed : Nat → Nat} {co : Nat → Nat} {hz : Nat → Int64} {mp : Nat → Nat → Nat} {pr : Nat → Int32} {cn : Nat} {hs : Nat → Int64} {wg : Nat → Int64} {rs : Nat → Int64} {ch : Int32} (hE : E ≤ 8) (hn : ∀ i, n i ≤ 40) (hR : rn ≤ 14) (hed : ∀ r, r < rn → ed r < E) (hco : ∀ r, co r ≤ 100000) (x : Int32) : cj_Mi (S := Unit) l yC_dead cC_dead 6 (some .int) 1 D kd [.ref (ad 0), .int x] (wC kd ad E n cl con ow rn ed co hz mp pr cn hs wg rs ch) (fun r _ => r = f_dead E rn ed hz x) (fun _ => wC kd ad E n cl con ow rn ed co hz mp pr cn hs wg rs ch) := by
  refine cj_ofi (by decide) (Nat.le_of_ble_eq_true rfl) ?_
  intro p e s m below meth c A ls X hr V hl
  obtain ⟨⟨hx, hb, hml, hown, hts⟩, hK, hlk⟩ := id X
  have hl : lv_has ls 6 [(0, .ref (ad 0)), (1, .int x)] := hl
  refine lv_aload_n hx hb dC_dead_0 rfl (lv_at hl 0 rfl) ?_
  refine lv_iload_n hx hb dC_dead_1 rfl (lv_at hl 1 rfl) ?_
  refine cj_cvi X V (c_C_isEdition l D kd ad hE x) 0 1 rfl rfl rfl ml_C_60 im_C_isEdition se_C_isEdition in_C cd_C_isEdition hd_C_isEdition ⟨by decide, by decide⟩ ⟨Nat.le_refl _, Nat.le_refl _⟩ hl.1 rfl (Nat.le_of_ble_eq_true rfl) dC_dead_2 (fun r_9 u_9 H locs hw V => ?_)
  rcases hw with ⟨rfl, j_1, hj_1, rfl⟩ | ⟨rfl, hj_1⟩
  ·
    have ij_1 := cj_ix_t hj_1 (show E < 2 ^ 31 by omega)
    refine lv_if_ne (tgt := 10) hx hb dC_dead_5 (by decide) (fun _ => ?_) (fun h => absurd h (by decide))
    refine lv_lconst (v := 0) hx hb dC_dead_10 (by decide) ?_
    refine lv_lstore_n (lv' := [(2, .long 0), (0, .ref (ad 0)), (1, .int (nI j_1))]) hx hb dC_dead_11 rfl hl (by decide) rfl (fun ls hl => ?_)
    refine lv_iconst (v := nI 0) hx hb dC_dead_12 (by decide) ?_
    refine lv_istore (lv' := [(4, .int (nI 0)), (2, .long 0), (0, .ref (ad 0)), (1, .int (nI j_1))]) hx hb dC_dead_13 hl (by decide) rfl (fun ls hl => ?_)
    refine lv_iconst (v := nI 0) hx hb dC_dead_15 (by decide) ?_
    refine lv_istore (lv' := [(5, .int (nI 0)), (4, .int (nI 0)), (2, .long 0), (0, .ref (ad 0)), (1, .int (nI j_1))]) hx hb dC_dead_16 hl (by decide) rfl (fun ls hl => ?_)
    refine lp_C_dead X hR j_1 (by omega) (fun r h => by have := hed r h; omega) rn 0 _ _ ls (by omega) V (lv_sub hl [0, 1, 2, 3, 4] rfl) (fun H locs ls V hl => ?_)
    refine lv_iload hx hb dC_dead_81 (lv_at hl 1 rfl) ?_
    exact cj_reti () X hr V (by simp only [f_dead, ij_1]) dC_dead_83
  ·
    have ij_1 := cj_ix_f hj_1
    refine lv_if_ne (tgt := 10) hx hb dC_dead_5 (by decide) (fun h => absurd (by decide) h) (fun _ => ?_)
    refine lv_iconst (v := nI 0) hx hb dC_dead_8 (by decide) ?_
    exact cj_reti () X hr V (by simp only [f_dead, ij_1]) dC_dead_9
