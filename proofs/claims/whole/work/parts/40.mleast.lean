set_option maxRecDepth 100000 in
set_option maxHeartbeats 4000000 in
theorem lp_M_ones {p : Program} {l : Launch} {e : Env} {s : State} {m : MethodId} {args : Array Value} {below : List Frame} {meth : Method} {c : Code} {Q : State → Prop} {D : va_G} {kd : Nat → ClassId} {A : Nat → Prop} {H0 : Heap} {ad : Nat → Nat} {E : Nat} {rn : Nat} {ch : Int32} {n : Nat → Nat} {con : Nat → Int32} {ow : Nat → Nat} {ge : Nat → Bool} {cl : Nat → Bool} {ed : Nat → Nat} {co : Nat → Nat} {hz : Nat → Int64} {lo : Nat → Nat} {pr : Nat → Int32} (X : cj_X p s m args c meth cM_ones 3 RM D kd) (sv : Nat) (hsv : sv < 2 ^ 31) : ∀ (d i : Nat) (H : Heap) (locs : List Loc) (ls : Array Slot), i + d = 14 → cj_V D A H0 (wM kd ad E rn ch n con ow ge cl ed co hz lo pr) H locs → lv_has ls 3 [(2, .int (nI i)), (1, .int (nI (cj_cnt sv.testBit i))), (0, .int (nI sv))] → (∀ (H : Heap) (locs : List Loc) (ls : Array Slot), cj_V D A H0 (wM kd ad E rn ch n con ow ge cl ed co hz lo pr) H locs → lv_has ls 3 [(2, .int (nI 14)), (1, .int (nI (cj_cnt sv.testBit 14))), (0, .int (nI sv))] → W p l e (cj_rm 0) s m args below meth c H locs 0 0 Q (F0 m 24 ls [])) → W p l e (cj_rm 0) s m args below meth c H locs 0 0 Q (F0 m 4 ls []) := by
  obtain ⟨⟨hx, hb, hml, hown, hts⟩, hK, hlk⟩ := id X
  intro d
  induction d with
  | zero =>
    intro i H locs ls hi V hl kont
    refine lv_iload_n hx hb dM_ones_4 rfl (lv_at hl 0 rfl) ?_
    refine lv_bipush (v := nI 14) hx hb dM_ones_5 (by decide) ?_
    refine cj_n_ge (tgt := 24) hx hb dM_ones_7 (by decide) (by omega) (by omega) (fun c_1 => ?_) (fun c_1 => ?_)
    ·
      obtain rfl : i = 14 := by omega
      exact kont _ _ _ V (lv_sub hl [0, 1, 2] rfl)
    ·
      exact absurd c_1 (by omega)
  | succ d ih =>
    intro i H locs ls hi V hl kont
    refine lv_iload_n hx hb dM_ones_4 rfl (lv_at hl 0 rfl) ?_
    refine lv_bipush (v := nI 14) hx hb dM_ones_5 (by decide) ?_
    refine cj_n_ge (tgt := 24) hx hb dM_ones_7 (by decide) (by omega) (by omega) (fun c_1 => ?_) (fun c_1 => ?_)
    ·
      exact absurd c_1 (by omega)
    ·
      refine lv_iload_n hx hb dM_ones_10 rfl (lv_at hl 1 rfl) ?_
      refine lv_iload_n hx hb dM_ones_11 rfl (lv_at hl 2 rfl) ?_
      refine lv_iload_n hx hb dM_ones_12 rfl (lv_at hl 0 rfl) ?_
      refine lv_ishr hx hb dM_ones_13 ?_
      refine lv_iconst (v := nI 1) hx hb dM_ones_14 (by decide) ?_
      refine lv_iand hx hb dM_ones_15 ?_
      refine cj_ti (cj_bit1 (by omega) (by omega)) ?_
      have f_tn := cj_tnle (sv.testBit i)
      refine cj_iaddN hx hb dM_ones_16 ?_
      refine lv_istore_n (lv' := [(1, .int (nI ((cj_cnt sv.testBit i) + ((sv.testBit i).toNat)))), (2, .int (nI i)), (0, .int (nI sv))]) hx hb dM_ones_17 rfl hl (by decide) rfl (fun ls hl => ?_)
      refine lv_iinc (v := nI (i + 1)) (lv' := [(2, .int (nI (i + 1))), (1, .int (nI ((cj_cnt sv.testBit i) + ((sv.testBit i).toNat)))), (0, .int (nI sv))]) hx hb dM_ones_18 hl (k := 1) rfl (cj_inc _) (by decide) rfl (fun ls hl => ?_)
      refine lv_goto (tgt := 4) hx hb dM_ones_21 (by decide) ?_
      exact ih (i + 1) _ _ ls (by omega) V (lv_sub hl [0, 1, 2] rfl) kont
set_option maxRecDepth 100000 in
set_option maxHeartbeats 4000000 in
theorem c_M_ones (l : Launch) (D : va_G) (kd : Nat → ClassId) (ad : Nat → Nat) {E : Nat} {rn : Nat} {ch : Int32} {n : Nat → Nat} {con : Nat → Int32} {ow : Nat → Nat} {ge : Nat → Bool} {cl : Nat → Bool} {ed : Nat → Nat} {co : Nat → Nat} {hz : Nat → Int64} {lo : Nat → Nat} {pr : Nat → Int32} (sv : Nat) (hsv : sv < 2 ^ 31) : cj_Mi (S := Unit) l yM_ones cM_ones 3 (some .int) 0 D kd [.int (nI sv)] (wM kd ad E rn ch n con ow ge cl ed co hz lo pr) (fun r _ => r = nI (cj_on sv)) (fun _ => wM kd ad E rn ch n con ow ge cl ed co hz lo pr) := by
  refine cj_ofi (by decide) (Nat.le_of_ble_eq_true rfl) ?_
  intro p e s m below meth c A ls X hr V hl
  obtain ⟨⟨hx, hb, hml, hown, hts⟩, hK, hlk⟩ := id X
  have hl : lv_has ls 3 [(0, .int (nI sv))] := hl
  refine lv_iconst (v := nI 0) hx hb dM_ones_0 (by decide) ?_
  refine lv_istore_n (lv' := [(1, .int (nI 0)), (0, .int (nI sv))]) hx hb dM_ones_1 rfl hl (by decide) rfl (fun ls hl => ?_)
  refine lv_iconst (v := nI 0) hx hb dM_ones_2 (by decide) ?_
  refine lv_istore_n (lv' := [(2, .int (nI 0)), (1, .int (nI 0)), (0, .int (nI sv))]) hx hb dM_ones_3 rfl hl (by decide) rfl (fun ls hl => ?_)
  refine lp_M_ones X sv hsv 14 0 _ _ ls (by omega) V (lv_sub hl [0, 1, 2] rfl) (fun H locs ls V hl => ?_)
  refine lv_iload_n hx hb dM_ones_24 rfl (lv_at hl 1 rfl) ?_
  exact cj_reti () X hr V rfl dM_ones_25
set_option maxRecDepth 100000 in
set_option maxHeartbeats 4000000 in
theorem lp_M_lsA {p : Program} {l : Launch} {e : Env} {s : State} {m : MethodId} {args : Array Value} {below : List Frame} {meth : Method} {c : Code} {Q : State → Prop} {D : va_G} {kd : Nat → ClassId} {A : Nat → Prop} {H0 : Heap} {ad : Nat → Nat} {E : Nat} {rn : Nat} {ch : Int32} {n : Nat → Nat} {con : Nat → Int32} {ow : Nat → Nat} {ge : Nat → Bool} {cl : Nat → Bool} {ed : Nat → Nat} {co : Nat → Nat} {hz : Nat → Int64} {lo : Nat → Nat} {pr : Nat → Int32} (X : cj_X p s m args c meth cM_least 12 RM D kd) (hR : rn ≤ 14) (hco : ∀ r, co r ≤ 100000) (hed : ∀ r, r < rn → ed r < 8) (ea : Nat) (he : ea < 8) : ∀ (d i : Nat) (H : Heap) (locs : List Loc) (ls : Array Slot), i + d = rn → cj_V D A H0 (wM kd ad E rn ch n con ow ge cl ed co hz lo pr) H locs → lv_has ls 12 [(5, .int (nI i)), (2, .int (nI (cj_om ed ea i))), (3, .long (cj_sn ed hz ea i)), (0, .ref (ad 0)), (1, .int (nI ea))] → (∀ (H : Heap) (locs : List Loc) (ls : Array Slot), cj_V D A H0 (wM kd ad E rn ch n con ow ge cl ed co hz lo pr) H locs → lv_has ls 12 [(5, .int (nI rn)), (2, .int (nI (cj_om ed ea rn))), (3, .long (cj_sn ed hz ea rn)), (0, .ref (ad 0)), (1, .int (nI ea))] → W p l e (cj_rm 1) s m args below meth c H locs 0 0 Q (F0 m 63 ls [])) → W p l e (cj_rm 1) s m args below meth c H locs 0 0 Q (F0 m 20 ls []) := by
  obtain ⟨⟨hx, hb, hml, hown, hts⟩, hK, hlk⟩ := id X
  intro d
  induction d with
  | zero =>
    intro i H locs ls hi V hl kont
    refine lv_iload hx hb dM_least_20 (lv_at hl 0 rfl) ?_
    refine lv_aload_n hx hb dM_least_22 rfl (lv_at hl 3 rfl) ?_
    refine gM 1 X V fl_M_50 (by decide) rfl dM_least_23 ?_
    refine cj_n_ge (tgt := 63) hx hb dM_least_26 (by decide) (by omega) (by omega) (fun c_1 => ?_) (fun c_1 => ?_)
    ·
      obtain rfl : i = rn := by omega
      exact kont _ _ _ V (lv_sub hl [0, 1, 2, 3, 4] rfl)
    ·
      exact absurd c_1 (by omega)
  | succ d ih =>
    intro i H locs ls hi V hl kont
    refine lv_iload hx hb dM_least_20 (lv_at hl 0 rfl) ?_
    refine lv_aload_n hx hb dM_least_22 rfl (lv_at hl 3 rfl) ?_
    refine gM 1 X V fl_M_50 (by decide) rfl dM_least_23 ?_
    refine cj_n_ge (tgt := 63) hx hb dM_least_26 (by decide) (by omega) (by omega) (fun c_1 => ?_) (fun c_1 => ?_)
    ·
      exact absurd c_1 (by omega)
    ·
      refine lv_aload_n hx hb dM_least_29 rfl (lv_at hl 3 rfl) ?_
      refine gM 8 X V fl_M_26 (by decide) rfl dM_least_30 ?_
      refine lv_iload hx hb dM_least_33 (lv_at hl 0 rfl) ?_
      refine rM_ed X V (by omega) dM_least_35 ?_
      have f_e_2 := hed i (by omega)
      refine lv_iload_n hx hb dM_least_36 rfl (lv_at hl 4 rfl) ?_
      refine cj_n_ne (tgt := 57) hx hb dM_least_37 (by decide) (by omega) (by omega) (fun c_3 => ?_) (fun c_3 => ?_)
      ·
        refine lv_iinc (v := nI (i + 1)) (lv' := [(5, .int (nI (i + 1))), (2, .int (nI (cj_om ed ea i))), (3, .long (cj_sn ed hz ea i)), (0, .ref (ad 0)), (1, .int (nI ea))]) hx hb dM_least_57 hl (k := 0) rfl (cj_inc _) (by decide) rfl (fun ls hl => ?_)
        refine lv_goto (tgt := 20) hx hb dM_least_60 (by decide) ?_
        exact ih (i + 1) _ _ ls (by omega) V (lv_sub hl [0, 1, 2, 3, 4] (by rw [cj_om_f c_3, cj_sn_f c_3]; rfl)) kont
      ·
        refine lv_iload_n hx hb dM_least_40 rfl (lv_at hl 1 rfl) ?_
        refine lv_iconst (v := nI 1) hx hb dM_least_41 (by decide) ?_
        refine lv_iload hx hb dM_least_42 (lv_at hl 0 rfl) ?_
        refine lv_ishl hx hb dM_least_44 ?_
        refine lv_ior hx hb dM_least_45 ?_
        refine lv_istore_n (lv' := [(2, .int ((nI (cj_om ed ea i)) ||| ((nI 1) <<< ((nI i) &&& 31)))), (5, .int (nI i)), (3, .long (cj_sn ed hz ea i)), (0, .ref (ad 0)), (1, .int (nI ea))]) hx hb dM_least_46 rfl hl (by decide) rfl (fun ls hl => ?_)
        refine lv_lload_n hx hb dM_least_47 rfl (lv_at hl 2 rfl) ?_
        refine lv_aload_n hx hb dM_least_48 rfl (lv_at hl 3 rfl) ?_
        refine gM 10 X V fl_M_32 (by decide) rfl dM_least_49 ?_
        refine lv_iload hx hb dM_least_52 (lv_at hl 1 rfl) ?_
        refine rM_hi X V (by omega) dM_least_54 ?_
        refine lv_lor hx hb dM_least_55 ?_
        refine lv_lstore_n (lv' := [(3, .long ((cj_sn ed hz ea i) ||| (hz i))), (2, .int ((nI (cj_om ed ea i)) ||| ((nI 1) <<< ((nI i) &&& 31)))), (5, .int (nI i)), (0, .ref (ad 0)), (1, .int (nI ea))]) hx hb dM_least_56 rfl hl (by decide) rfl (fun ls hl => ?_)
        refine lv_iinc (v := nI (i + 1)) (lv' := [(5, .int (nI (i + 1))), (3, .long ((cj_sn ed hz ea i) ||| (hz i))), (2, .int ((nI (cj_om ed ea i)) ||| ((nI 1) <<< ((nI i) &&& 31)))), (0, .ref (ad 0)), (1, .int (nI ea))]) hx hb dM_least_57 hl (k := 2) rfl (cj_inc _) (by decide) rfl (fun ls hl => ?_)
        refine lv_goto (tgt := 20) hx hb dM_least_60 (by decide) ?_
        exact ih (i + 1) _ _ ls (by omega) V (lv_sub hl [0, 2, 1, 3, 4] (by rw [cj_om_or (by omega) c_3, cj_sn_t c_3]; rfl)) kont
set_option maxRecDepth 100000 in
set_option maxHeartbeats 4000000 in
theorem lp_M_lsB {p : Program} {l : Launch} {e : Env} {s : State} {m : MethodId} {args : Array Value} {below : List Frame} {meth : Method} {c : Code} {Q : State → Prop} {D : va_G} {kd : Nat → ClassId} {A : Nat → Prop} {H0 : Heap} {ad : Nat → Nat} {E : Nat} {rn : Nat} {ch : Int32} {n : Nat → Nat} {con : Nat → Int32} {ow : Nat → Nat} {ge : Nat → Bool} {cl : Nat → Bool} {ed : Nat → Nat} {co : Nat → Nat} {hz : Nat → Int64} {lo : Nat → Nat} {pr : Nat → Int32} (X : cj_X p s m args c meth cM_least 12 RM D kd) (hR : rn ≤ 14) (hco : ∀ r, co r ≤ 100000) (sv : Nat) (hsv : sv < 2 ^ 31) (v6 v5 v2 : Int32) (v3 : Int64) (ea : Nat) : ∀ (d i : Nat) (H : Heap) (locs : List Loc) (ls : Array Slot), i + d = rn → cj_V D A H0 (wM kd ad E rn ch n con ow ge cl ed co hz lo pr) H locs → lv_has ls 12 [(11, .int (nI i)), (10, .int (nI (cj_su co sv i))), (8, .long (cj_hs hz sv i)), (7, .int (nI sv)), (6, .int v6), (5, .int v5), (3, .long v3), (2, .int v2), (0, .ref (ad 0)), (1, .int (nI ea))] → (∀ (H : Heap) (locs : List Loc) (ls : Array Slot), cj_V D A H0 (wM kd ad E rn ch n con ow ge cl ed co hz lo pr) H locs → lv_has ls 12 [(10, .int (nI (cj_su co sv rn))), (8, .long (cj_hs hz sv rn)), (7, .int (nI sv)), (6, .int v6), (5, .int v5), (3, .long v3), (2, .int v2), (0, .ref (ad 0)), (1, .int (nI ea))] → W p l e (cj_rm 1) s m args below meth c H locs 0 0 Q (F0 m 151 ls [])) → W p l e (cj_rm 1) s m args below meth c H locs 0 0 Q (F0 m 101 ls []) := by
  obtain ⟨⟨hx, hb, hml, hown, hts⟩, hK, hlk⟩ := id X
  intro d
  induction d with
  | zero =>
    intro i H locs ls hi V hl kont
    refine lv_iload hx hb dM_least_101 (lv_at hl 0 rfl) ?_
    refine lv_aload_n hx hb dM_least_103 rfl (lv_at hl 8 rfl) ?_
    refine gM 1 X V fl_M_50 (by decide) rfl dM_least_104 ?_
    refine cj_n_ge (tgt := 151) hx hb dM_least_107 (by decide) (by omega) (by omega) (fun c_1 => ?_) (fun c_1 => ?_)
    ·
      obtain rfl : i = rn := by omega
      exact kont _ _ _ V (lv_sub hl [1, 2, 3, 4, 5, 6, 7, 8, 9] rfl)
    ·
      exact absurd c_1 (by omega)
  | succ d ih =>
    intro i H locs ls hi V hl kont
    refine lv_iload hx hb dM_least_101 (lv_at hl 0 rfl) ?_
    refine lv_aload_n hx hb dM_least_103 rfl (lv_at hl 8 rfl) ?_
    refine gM 1 X V fl_M_50 (by decide) rfl dM_least_104 ?_
    refine cj_n_ge (tgt := 151) hx hb dM_least_107 (by decide) (by omega) (by omega) (fun c_1 => ?_) (fun c_1 => ?_)
    ·
      exact absurd c_1 (by omega)
    ·
      refine lv_iload hx hb dM_least_110 (lv_at hl 3 rfl) ?_
      refine lv_iload hx hb dM_least_112 (lv_at hl 0 rfl) ?_
      refine lv_ishr hx hb dM_least_114 ?_
      refine lv_iconst (v := nI 1) hx hb dM_least_115 (by decide) ?_
      refine lv_iand hx hb dM_least_116 ?_
      refine cj_ti (cj_bit1 (by omega) (by omega)) ?_
      have f_tn := cj_tnle (sv.testBit i)
      refine lv_iconst (v := nI 1) hx hb dM_least_117 (by decide) ?_
      refine cj_n_ne (tgt := 145) hx hb dM_least_118 (by decide) (by omega) (by omega) (fun c_2 => ?_) (fun c_2 => ?_)
      ·
        refine lv_iinc (v := nI (i + 1)) (lv' := [(11, .int (nI (i + 1))), (10, .int (nI (cj_su co sv i))), (8, .long (cj_hs hz sv i)), (7, .int (nI sv)), (6, .int v6), (5, .int v5), (3, .long v3), (2, .int v2), (0, .ref (ad 0)), (1, .int (nI ea))]) hx hb dM_least_145 hl (k := 0) rfl (cj_inc _) (by decide) rfl (fun ls hl => ?_)
        refine lv_goto (tgt := 101) hx hb dM_least_148 (by decide) ?_
        exact ih (i + 1) _ _ ls (by omega) V (lv_sub hl [0, 1, 2, 3, 4, 5, 6, 7, 8, 9] (by rw [cj_su_f (cj_tn0 c_2), cj_hs_f (cj_tn0 c_2)]; rfl)) kont
      ·
        refine lv_lload hx hb dM_least_121 (lv_at hl 2 rfl) ?_
        refine lv_aload_n hx hb dM_least_123 rfl (lv_at hl 8 rfl) ?_
        refine gM 10 X V fl_M_32 (by decide) rfl dM_least_124 ?_
        refine lv_iload hx hb dM_least_127 (lv_at hl 0 rfl) ?_
        refine rM_hi X V (by omega) dM_least_129 ?_
        refine lv_lor hx hb dM_least_130 ?_
        refine lv_lstore (lv' := [(8, .long ((cj_hs hz sv i) ||| (hz i))), (11, .int (nI i)), (10, .int (nI (cj_su co sv i))), (7, .int (nI sv)), (6, .int v6), (5, .int v5), (3, .long v3), (2, .int v2), (0, .ref (ad 0)), (1, .int (nI ea))]) hx hb dM_least_131 hl (by decide) rfl (fun ls hl => ?_)
        refine lv_iload hx hb dM_least_133 (lv_at hl 2 rfl) ?_
        refine lv_aload_n hx hb dM_least_135 rfl (lv_at hl 8 rfl) ?_
        refine gM 9 X V fl_M_29 (by decide) rfl dM_least_136 ?_
        refine lv_iload hx hb dM_least_139 (lv_at hl 1 rfl) ?_
        refine rM_co X V (by omega) dM_least_141 ?_
        refine cj_iaddN hx hb dM_least_142 ?_
        refine lv_istore (lv' := [(10, .int (nI ((cj_su co sv i) + (co i)))), (8, .long ((cj_hs hz sv i) ||| (hz i))), (11, .int (nI i)), (7, .int (nI sv)), (6, .int v6), (5, .int v5), (3, .long v3), (2, .int v2), (0, .ref (ad 0)), (1, .int (nI ea))]) hx hb dM_least_143 hl (by decide) rfl (fun ls hl => ?_)
        refine lv_iinc (v := nI (i + 1)) (lv' := [(11, .int (nI (i + 1))), (10, .int (nI ((cj_su co sv i) + (co i)))), (8, .long ((cj_hs hz sv i) ||| (hz i))), (7, .int (nI sv)), (6, .int v6), (5, .int v5), (3, .long v3), (2, .int v2), (0, .ref (ad 0)), (1, .int (nI ea))]) hx hb dM_least_145 hl (k := 2) rfl (cj_inc _) (by decide) rfl (fun ls hl => ?_)
        refine lv_goto (tgt := 101) hx hb dM_least_148 (by decide) ?_
        exact ih (i + 1) _ _ ls (by omega) V (lv_sub hl [0, 1, 2, 3, 4, 5, 6, 7, 8, 9] (by rw [cj_su_t (cj_tn1 c_2), cj_hs_t (cj_tn1 c_2)]; rfl)) kont
set_option maxRecDepth 100000 in
set_option maxHeartbeats 4000000 in
theorem lp_M_lsC {p : Program} {l : Launch} {e : Env} {s : State} {m : MethodId} {args : Array Value} {below : List Frame} {meth : Method} {c : Code} {Q : State → Prop} {D : va_G} {kd : Nat → ClassId} {A : Nat → Prop} {H0 : Heap} {ad : Nat → Nat} {E : Nat} {rn : Nat} {ch : Int32} {n : Nat → Nat} {con : Nat → Int32} {ow : Nat → Nat} {ge : Nat → Bool} {cl : Nat → Bool} {ed : Nat → Nat} {co : Nat → Nat} {hz : Nat → Int64} {lo : Nat → Nat} {pr : Nat → Int32} (X : cj_X p s m args c meth cM_least 12 RM D kd) (hR : rn ≤ 14) (hco : ∀ r, co r ≤ 100000) (hed : ∀ r, r < rn → ed r < 8) (ea : Nat) (he : ea < 8) : ∀ (d i : Nat) (H : Heap) (locs : List Loc) (ls : Array Slot), i + d = 2 ^ rn → cj_V D A H0 (wM kd ad E rn ch n con ow ge cl ed co hz lo pr) H locs → lv_has ls 12 [(7, .int (nI i)), (6, .int (nI (cj_bc co rn (cj_bs co hz rn (cj_om ed ea rn) (cj_sn ed hz ea rn) i)))), (5, .int (oI (cj_bs co hz rn (cj_om ed ea rn) (cj_sn ed hz ea rn) i))), (3, .long (cj_sn ed hz ea rn)), (2, .int (nI (cj_om ed ea rn))), (0, .ref (ad 0)), (1, .int (nI ea))] → (∀ (H : Heap) (locs : List Loc) (ls : Array Slot), cj_V D A H0 (wM kd ad E rn ch n con ow ge cl ed co hz lo pr) H locs → lv_has ls 12 [(6, .int (nI (cj_bc co rn (cj_bs co hz rn (cj_om ed ea rn) (cj_sn ed hz ea rn) (2 ^ rn))))), (5, .int (oI (cj_bs co hz rn (cj_om ed ea rn) (cj_sn ed hz ea rn) (2 ^ rn)))), (3, .long (cj_sn ed hz ea rn)), (2, .int (nI (cj_om ed ea rn))), (0, .ref (ad 0)), (1, .int (nI ea))] → W p l e (cj_rm 1) s m args below meth c H locs 0 0 Q (F0 m 217 ls [])) → W p l e (cj_rm 1) s m args below meth c H locs 0 0 Q (F0 m 72 ls []) := by
  obtain ⟨⟨hx, hb, hml, hown, hts⟩, hK, hlk⟩ := id X
  intro d
  induction d with
  | zero =>
    intro i H locs ls hi V hl kont
    have hp2 := cj_p2 hR
    refine lv_iload hx hb dM_least_72 (lv_at hl 0 rfl) ?_
    refine lv_iconst (v := nI 1) hx hb dM_least_74 (by decide) ?_
    refine lv_aload_n hx hb dM_least_75 rfl (lv_at hl 5 rfl) ?_
    refine gM 1 X V fl_M_50 (by decide) rfl dM_least_76 ?_
    refine lv_ishl hx hb dM_least_79 ?_
    refine cj_ti (cj_pow1 (by omega)) ?_
    refine cj_n_ge (tgt := 217) hx hb dM_least_80 (by decide) (by omega) (by omega) (fun c_1 => ?_) (fun c_1 => ?_)
    ·
      obtain rfl : i = 2 ^ rn := by omega
      exact kont _ _ _ V (lv_sub hl [1, 2, 3, 4, 5, 6] rfl)
    ·
      exact absurd c_1 (by omega)
  | succ d ih =>
    intro i H locs ls hi V hl kont
    have hp2 := cj_p2 hR
    refine lv_iload hx hb dM_least_72 (lv_at hl 0 rfl) ?_
    refine lv_iconst (v := nI 1) hx hb dM_least_74 (by decide) ?_
    refine lv_aload_n hx hb dM_least_75 rfl (lv_at hl 5 rfl) ?_
    refine gM 1 X V fl_M_50 (by decide) rfl dM_least_76 ?_
    refine lv_ishl hx hb dM_least_79 ?_
    refine cj_ti (cj_pow1 (by omega)) ?_
    refine cj_n_ge (tgt := 217) hx hb dM_least_80 (by decide) (by omega) (by omega) (fun c_1 => ?_) (fun c_1 => ?_)
    ·
      exact absurd c_1 (by omega)
    ·
      refine lv_iload hx hb dM_least_83 (lv_at hl 0 rfl) ?_
      refine lv_iload_n hx hb dM_least_85 rfl (lv_at hl 4 rfl) ?_
      refine lv_iconst (v := (-1)) hx hb dM_least_86 (by decide) ?_
      refine lv_ixor hx hb dM_least_87 ?_
      refine lv_iand hx hb dM_least_88 ?_
      refine lv_if_ne (tgt := 211) hx hb dM_least_89 (by decide) (fun c_2 => ?_) (fun c_2 => ?_)
      ·
        refine lv_iinc (v := nI (i + 1)) (lv' := [(7, .int (nI (i + 1))), (6, .int (nI (cj_bc co rn (cj_bs co hz rn (cj_om ed ea rn) (cj_sn ed hz ea rn) i)))), (5, .int (oI (cj_bs co hz rn (cj_om ed ea rn) (cj_sn ed hz ea rn) i))), (3, .long (cj_sn ed hz ea rn)), (2, .int (nI (cj_om ed ea rn))), (0, .ref (ad 0)), (1, .int (nI ea))]) hx hb dM_least_211 hl (k := 0) rfl (cj_inc _) (by decide) rfl (fun ls hl => ?_)
        refine lv_goto (tgt := 72) hx hb dM_least_214 (by decide) ?_
        exact ih (i + 1) _ _ ls (by omega) V (lv_sub hl [0, 1, 2, 3, 4, 5, 6] (by rw [cj_bs_1 c_2]; rfl)) kont
      ·
        rcases hB : cj_bs co hz rn (cj_om ed ea rn) (cj_sn ed hz ea rn) i with _ | t
        ·
          have hl : lv_has ls 12 [(7, .int (nI i)), (6, .int (nI 0)), (5, .int (-1)), (3, .long (cj_sn ed hz ea rn)), (2, .int (nI (cj_om ed ea rn))), (0, .ref (ad 0)), (1, .int (nI ea))] := by rw [hB] at hl; exact hl
          have f_si := cj_su_le (s := i) hco rn
          refine lv_lconst (v := 0) hx hb dM_least_92 (by decide) ?_
          refine lv_lstore (lv' := [(8, .long 0), (7, .int (nI i)), (6, .int (nI 0)), (5, .int (-1)), (3, .long (cj_sn ed hz ea rn)), (2, .int (nI (cj_om ed ea rn))), (0, .ref (ad 0)), (1, .int (nI ea))]) hx hb dM_least_93 hl (by decide) rfl (fun ls hl => ?_)
          refine lv_iconst (v := nI 0) hx hb dM_least_95 (by decide) ?_
          refine lv_istore (lv' := [(10, .int (nI 0)), (8, .long 0), (7, .int (nI i)), (6, .int (nI 0)), (5, .int (-1)), (3, .long (cj_sn ed hz ea rn)), (2, .int (nI (cj_om ed ea rn))), (0, .ref (ad 0)), (1, .int (nI ea))]) hx hb dM_least_96 hl (by decide) rfl (fun ls hl => ?_)
          refine lv_iconst (v := nI 0) hx hb dM_least_98 (by decide) ?_
          refine lv_istore (lv' := [(11, .int (nI 0)), (10, .int (nI 0)), (8, .long 0), (7, .int (nI i)), (6, .int (nI 0)), (5, .int (-1)), (3, .long (cj_sn ed hz ea rn)), (2, .int (nI (cj_om ed ea rn))), (0, .ref (ad 0)), (1, .int (nI ea))]) hx hb dM_least_99 hl (by decide) rfl (fun ls hl => ?_)
          refine lp_M_lsB X hR hco i (by omega) (nI 0) (-1) (nI (cj_om ed ea rn)) (cj_sn ed hz ea rn) ea rn 0 _ _ ls (by omega) V (lv_sub hl [0, 1, 2, 3, 4, 5, 6, 7, 8, 9] rfl) (fun H locs ls V hl => ?_)
          refine lv_iload hx hb dM_least_151 (lv_at hl 4 rfl) ?_
          refine lv_iconst (v := (-1)) hx hb dM_least_153 (by decide) ?_
          refine lv_icmp_eq (tgt := 184) hx hb dM_least_154 (by decide) (fun _ => ?_) (fun h => absurd rfl h)
          refine lv_iconst (v := nI 1) hx hb dM_least_184 (by decide) ?_
          refine lv_goto (tgt := 189) hx hb dM_least_185 (by decide) ?_
          refine lv_istore (lv' := [(11, .int (nI 1)), (10, .int (nI (cj_su co i rn))), (8, .long (cj_hs hz i rn)), (7, .int (nI i)), (6, .int (nI 0)), (5, .int (-1)), (3, .long (cj_sn ed hz ea rn)), (2, .int (nI (cj_om ed ea rn))), (0, .ref (ad 0)), (1, .int (nI ea))]) hx hb dM_least_189 hl (by decide) rfl (fun ls hl => ?_)
          refine lv_lload hx hb dM_least_191 (lv_at hl 2 rfl) ?_
          refine lv_lload_n hx hb dM_least_193 rfl (lv_at hl 6 rfl) ?_
          refine cj_l_ne (tgt := 211) hx hb dM_least_194 dM_least_195 (by decide) (fun c_4 => ?_) (fun c_4 => ?_)
          ·
            refine lv_iinc (v := nI (i + 1)) (lv' := [(7, .int (nI (i + 1))), (11, .int (nI 1)), (10, .int (nI (cj_su co i rn))), (8, .long (cj_hs hz i rn)), (6, .int (nI 0)), (5, .int (-1)), (3, .long (cj_sn ed hz ea rn)), (2, .int (nI (cj_om ed ea rn))), (0, .ref (ad 0)), (1, .int (nI ea))]) hx hb dM_least_211 hl (k := 3) rfl (cj_inc _) (by decide) rfl (fun ls hl => ?_)
            refine lv_goto (tgt := 72) hx hb dM_least_214 (by decide) ?_
            exact ih (i + 1) _ _ ls (by omega) V (lv_sub hl [0, 4, 5, 6, 7, 8, 9] (by rw [cj_bs_2 c_4, hB]; rfl)) kont
          ·
            refine lv_iload hx hb dM_least_198 (lv_at hl 0 rfl) ?_
            refine lv_if_eq (tgt := 211) hx hb dM_least_200 (by decide) (fun h => absurd h (by decide)) (fun _ => ?_)
            refine lv_iload hx hb dM_least_203 (lv_at hl 3 rfl) ?_
            refine lv_istore (lv' := [(5, .int (nI i)), (11, .int (nI 1)), (10, .int (nI (cj_su co i rn))), (8, .long (cj_hs hz i rn)), (7, .int (nI i)), (6, .int (nI 0)), (3, .long (cj_sn ed hz ea rn)), (2, .int (nI (cj_om ed ea rn))), (0, .ref (ad 0)), (1, .int (nI ea))]) hx hb dM_least_205 hl (by decide) rfl (fun ls hl => ?_)
            refine lv_iload hx hb dM_least_207 (lv_at hl 2 rfl) ?_
            refine lv_istore (lv' := [(6, .int (nI (cj_su co i rn))), (5, .int (nI i)), (11, .int (nI 1)), (10, .int (nI (cj_su co i rn))), (8, .long (cj_hs hz i rn)), (7, .int (nI i)), (3, .long (cj_sn ed hz ea rn)), (2, .int (nI (cj_om ed ea rn))), (0, .ref (ad 0)), (1, .int (nI ea))]) hx hb dM_least_209 hl (by decide) rfl (fun ls hl => ?_)
            refine lv_iinc (v := nI (i + 1)) (lv' := [(7, .int (nI (i + 1))), (6, .int (nI (cj_su co i rn))), (5, .int (nI i)), (11, .int (nI 1)), (10, .int (nI (cj_su co i rn))), (8, .long (cj_hs hz i rn)), (3, .long (cj_sn ed hz ea rn)), (2, .int (nI (cj_om ed ea rn))), (0, .ref (ad 0)), (1, .int (nI ea))]) hx hb dM_least_211 hl (k := 5) rfl (cj_inc _) (by decide) rfl (fun ls hl => ?_)
            refine lv_goto (tgt := 72) hx hb dM_least_214 (by decide) ?_
            have hbt : cj_bt co rn (cj_bs co hz rn (cj_om ed ea rn) (cj_sn ed hz ea rn) i) i = true := by rw [hB]; rfl
            exact ih (i + 1) _ _ ls (by omega) V (lv_sub hl [0, 1, 2, 6, 7, 8, 9] (by rw [cj_bs_t c_2 c_4 hbt]; rfl)) kont
        ·
          have hl : lv_has ls 12 [(7, .int (nI i)), (6, .int (nI (cj_su co t rn))), (5, .int (nI t)), (3, .long (cj_sn ed hz ea rn)), (2, .int (nI (cj_om ed ea rn))), (0, .ref (ad 0)), (1, .int (nI ea))] := by rw [hB] at hl; exact hl
          have htlt := cj_bs_lt hB
          have f_st := cj_su_le (s := t) hco rn
          have f_si := cj_su_le (s := i) hco rn
          refine lv_lconst (v := 0) hx hb dM_least_92 (by decide) ?_
          refine lv_lstore (lv' := [(8, .long 0), (7, .int (nI i)), (6, .int (nI (cj_su co t rn))), (5, .int (nI t)), (3, .long (cj_sn ed hz ea rn)), (2, .int (nI (cj_om ed ea rn))), (0, .ref (ad 0)), (1, .int (nI ea))]) hx hb dM_least_93 hl (by decide) rfl (fun ls hl => ?_)
          refine lv_iconst (v := nI 0) hx hb dM_least_95 (by decide) ?_
          refine lv_istore (lv' := [(10, .int (nI 0)), (8, .long 0), (7, .int (nI i)), (6, .int (nI (cj_su co t rn))), (5, .int (nI t)), (3, .long (cj_sn ed hz ea rn)), (2, .int (nI (cj_om ed ea rn))), (0, .ref (ad 0)), (1, .int (nI ea))]) hx hb dM_least_96 hl (by decide) rfl (fun ls hl => ?_)
          refine lv_iconst (v := nI 0) hx hb dM_least_98 (by decide) ?_
          refine lv_istore (lv' := [(11, .int (nI 0)), (10, .int (nI 0)), (8, .long 0), (7, .int (nI i)), (6, .int (nI (cj_su co t rn))), (5, .int (nI t)), (3, .long (cj_sn ed hz ea rn)), (2, .int (nI (cj_om ed ea rn))), (0, .ref (ad 0)), (1, .int (nI ea))]) hx hb dM_least_99 hl (by decide) rfl (fun ls hl => ?_)
          refine lp_M_lsB X hR hco i (by omega) (nI (cj_su co t rn)) (nI t) (nI (cj_om ed ea rn)) (cj_sn ed hz ea rn) ea rn 0 _ _ ls (by omega) V (lv_sub hl [0, 1, 2, 3, 4, 5, 6, 7, 8, 9] rfl) (fun H locs ls V hl => ?_)
          refine lv_iload hx hb dM_least_151 (lv_at hl 4 rfl) ?_
          refine lv_iconst (v := (-1)) hx hb dM_least_153 (by decide) ?_
          refine lv_icmp_eq (tgt := 184) hx hb dM_least_154 (by decide) (fun h => absurd h (cj_nm1 (by omega))) (fun _ => ?_)
          refine lv_iload hx hb dM_least_157 (lv_at hl 0 rfl) ?_
          refine lv_iload hx hb dM_least_159 (lv_at hl 3 rfl) ?_
          refine cj_n_lt (tgt := 184) hx hb dM_least_161 (by decide) (by omega) (by omega) (fun c_7 => ?_) (fun c_7 => ?_)
          ·
            refine lv_iconst (v := nI 1) hx hb dM_least_184 (by decide) ?_
            refine lv_goto (tgt := 189) hx hb dM_least_185 (by decide) ?_
            refine lv_istore (lv' := [(11, .int (nI 1)), (10, .int (nI (cj_su co i rn))), (8, .long (cj_hs hz i rn)), (7, .int (nI i)), (6, .int (nI (cj_su co t rn))), (5, .int (nI t)), (3, .long (cj_sn ed hz ea rn)), (2, .int (nI (cj_om ed ea rn))), (0, .ref (ad 0)), (1, .int (nI ea))]) hx hb dM_least_189 hl (by decide) rfl (fun ls hl => ?_)
            refine lv_lload hx hb dM_least_191 (lv_at hl 2 rfl) ?_
            refine lv_lload_n hx hb dM_least_193 rfl (lv_at hl 6 rfl) ?_
            refine cj_l_ne (tgt := 211) hx hb dM_least_194 dM_least_195 (by decide) (fun c_8 => ?_) (fun c_8 => ?_)
            ·
              refine lv_iinc (v := nI (i + 1)) (lv' := [(7, .int (nI (i + 1))), (11, .int (nI 1)), (10, .int (nI (cj_su co i rn))), (8, .long (cj_hs hz i rn)), (6, .int (nI (cj_su co t rn))), (5, .int (nI t)), (3, .long (cj_sn ed hz ea rn)), (2, .int (nI (cj_om ed ea rn))), (0, .ref (ad 0)), (1, .int (nI ea))]) hx hb dM_least_211 hl (k := 3) rfl (cj_inc _) (by decide) rfl (fun ls hl => ?_)
              refine lv_goto (tgt := 72) hx hb dM_least_214 (by decide) ?_
              exact ih (i + 1) _ _ ls (by omega) V (lv_sub hl [0, 4, 5, 6, 7, 8, 9] (by rw [cj_bs_2 c_8, hB]; rfl)) kont
            ·
              refine lv_iload hx hb dM_least_198 (lv_at hl 0 rfl) ?_
              refine lv_if_eq (tgt := 211) hx hb dM_least_200 (by decide) (fun h => absurd h (by decide)) (fun _ => ?_)
              refine lv_iload hx hb dM_least_203 (lv_at hl 3 rfl) ?_
              refine lv_istore (lv' := [(5, .int (nI i)), (11, .int (nI 1)), (10, .int (nI (cj_su co i rn))), (8, .long (cj_hs hz i rn)), (7, .int (nI i)), (6, .int (nI (cj_su co t rn))), (3, .long (cj_sn ed hz ea rn)), (2, .int (nI (cj_om ed ea rn))), (0, .ref (ad 0)), (1, .int (nI ea))]) hx hb dM_least_205 hl (by decide) rfl (fun ls hl => ?_)
              refine lv_iload hx hb dM_least_207 (lv_at hl 2 rfl) ?_
              refine lv_istore (lv' := [(6, .int (nI (cj_su co i rn))), (5, .int (nI i)), (11, .int (nI 1)), (10, .int (nI (cj_su co i rn))), (8, .long (cj_hs hz i rn)), (7, .int (nI i)), (3, .long (cj_sn ed hz ea rn)), (2, .int (nI (cj_om ed ea rn))), (0, .ref (ad 0)), (1, .int (nI ea))]) hx hb dM_least_209 hl (by decide) rfl (fun ls hl => ?_)
              refine lv_iinc (v := nI (i + 1)) (lv' := [(7, .int (nI (i + 1))), (6, .int (nI (cj_su co i rn))), (5, .int (nI i)), (11, .int (nI 1)), (10, .int (nI (cj_su co i rn))), (8, .long (cj_hs hz i rn)), (3, .long (cj_sn ed hz ea rn)), (2, .int (nI (cj_om ed ea rn))), (0, .ref (ad 0)), (1, .int (nI ea))]) hx hb dM_least_211 hl (k := 5) rfl (cj_inc _) (by decide) rfl (fun ls hl => ?_)
              refine lv_goto (tgt := 72) hx hb dM_least_214 (by decide) ?_
              have hbt : cj_bt co rn (cj_bs co hz rn (cj_om ed ea rn) (cj_sn ed hz ea rn) i) i = true := by rw [hB]; simp only [cj_bt, Bool.or_eq_true, Bool.and_eq_true, decide_eq_true_eq]; omega
              exact ih (i + 1) _ _ ls (by omega) V (lv_sub hl [0, 1, 2, 6, 7, 8, 9] (by rw [cj_bs_t c_2 c_8 hbt]; rfl)) kont
          ·
            refine lv_iload hx hb dM_least_164 (lv_at hl 0 rfl) ?_
            refine lv_iload hx hb dM_least_166 (lv_at hl 3 rfl) ?_
            refine cj_n_ne (tgt := 188) hx hb dM_least_168 (by decide) (by omega) (by omega) (fun c_10 => ?_) (fun c_10 => ?_)
            ·
              refine lv_iconst (v := nI 0) hx hb dM_least_188 (by decide) ?_
              refine lv_istore (lv' := [(11, .int (nI 0)), (10, .int (nI (cj_su co i rn))), (8, .long (cj_hs hz i rn)), (7, .int (nI i)), (6, .int (nI (cj_su co t rn))), (5, .int (nI t)), (3, .long (cj_sn ed hz ea rn)), (2, .int (nI (cj_om ed ea rn))), (0, .ref (ad 0)), (1, .int (nI ea))]) hx hb dM_least_189 hl (by decide) rfl (fun ls hl => ?_)
              refine lv_lload hx hb dM_least_191 (lv_at hl 2 rfl) ?_
              refine lv_lload_n hx hb dM_least_193 rfl (lv_at hl 6 rfl) ?_
              refine cj_l_ne (tgt := 211) hx hb dM_least_194 dM_least_195 (by decide) (fun c_11 => ?_) (fun c_11 => ?_)
              ·
                refine lv_iinc (v := nI (i + 1)) (lv' := [(7, .int (nI (i + 1))), (11, .int (nI 0)), (10, .int (nI (cj_su co i rn))), (8, .long (cj_hs hz i rn)), (6, .int (nI (cj_su co t rn))), (5, .int (nI t)), (3, .long (cj_sn ed hz ea rn)), (2, .int (nI (cj_om ed ea rn))), (0, .ref (ad 0)), (1, .int (nI ea))]) hx hb dM_least_211 hl (k := 3) rfl (cj_inc _) (by decide) rfl (fun ls hl => ?_)
                refine lv_goto (tgt := 72) hx hb dM_least_214 (by decide) ?_
                exact ih (i + 1) _ _ ls (by omega) V (lv_sub hl [0, 4, 5, 6, 7, 8, 9] (by rw [cj_bs_2 c_11, hB]; rfl)) kont
              ·
                refine lv_iload hx hb dM_least_198 (lv_at hl 0 rfl) ?_
                refine lv_if_eq (tgt := 211) hx hb dM_least_200 (by decide) (fun _ => ?_) (fun h => absurd (by decide) h)
                refine lv_iinc (v := nI (i + 1)) (lv' := [(7, .int (nI (i + 1))), (11, .int (nI 0)), (10, .int (nI (cj_su co i rn))), (8, .long (cj_hs hz i rn)), (6, .int (nI (cj_su co t rn))), (5, .int (nI t)), (3, .long (cj_sn ed hz ea rn)), (2, .int (nI (cj_om ed ea rn))), (0, .ref (ad 0)), (1, .int (nI ea))]) hx hb dM_least_211 hl (k := 3) rfl (cj_inc _) (by decide) rfl (fun ls hl => ?_)
                refine lv_goto (tgt := 72) hx hb dM_least_214 (by decide) ?_
                have hbt : cj_bt co rn (cj_bs co hz rn (cj_om ed ea rn) (cj_sn ed hz ea rn) i) i = false := by rw [hB]; simp only [cj_bt, Bool.or_eq_false_iff, Bool.and_eq_false_iff, decide_eq_false_iff_not]; omega
                exact ih (i + 1) _ _ ls (by omega) V (lv_sub hl [0, 4, 5, 6, 7, 8, 9] (by rw [cj_bs_3 hbt, hB]; rfl)) kont
            ·
              refine lv_iload hx hb dM_least_171 (lv_at hl 2 rfl) ?_
              refine cj_csi X V (c_M_ones l D kd ad i (by omega)) ml_M_78 st_M_ones in_M cd_M_ones hd_M_ones ⟨by decide, by decide⟩ ⟨Nat.le_refl _, Nat.le_refl _⟩ hl.1 rfl (Nat.le_of_ble_eq_true rfl) dM_least_173 (fun r_9 u_9 H locs hw V => ?_)
              obtain rfl := hw
              have f_o_13 := cj_on_le i
              refine lv_iload hx hb dM_least_176 (lv_at hl 4 rfl) ?_
              refine cj_csi X V (c_M_ones l D kd ad t (by omega)) ml_M_78 st_M_ones in_M cd_M_ones hd_M_ones ⟨by decide, by decide⟩ ⟨Nat.le_refl _, Nat.le_refl _⟩ hl.1 rfl (Nat.le_of_ble_eq_true rfl) dM_least_178 (fun r_9 u_9 H locs hw V => ?_)
              obtain rfl := hw
              have f_o_14 := cj_on_le t
              refine cj_n_ge (tgt := 188) hx hb dM_least_181 (by decide) (by omega) (by omega) (fun c_15 => ?_) (fun c_15 => ?_)
              ·
                refine lv_iconst (v := nI 0) hx hb dM_least_188 (by decide) ?_
                refine lv_istore (lv' := [(11, .int (nI 0)), (10, .int (nI (cj_su co i rn))), (8, .long (cj_hs hz i rn)), (7, .int (nI i)), (6, .int (nI (cj_su co t rn))), (5, .int (nI t)), (3, .long (cj_sn ed hz ea rn)), (2, .int (nI (cj_om ed ea rn))), (0, .ref (ad 0)), (1, .int (nI ea))]) hx hb dM_least_189 hl (by decide) rfl (fun ls hl => ?_)
                refine lv_lload hx hb dM_least_191 (lv_at hl 2 rfl) ?_
                refine lv_lload_n hx hb dM_least_193 rfl (lv_at hl 6 rfl) ?_
                refine cj_l_ne (tgt := 211) hx hb dM_least_194 dM_least_195 (by decide) (fun c_16 => ?_) (fun c_16 => ?_)
                ·
                  refine lv_iinc (v := nI (i + 1)) (lv' := [(7, .int (nI (i + 1))), (11, .int (nI 0)), (10, .int (nI (cj_su co i rn))), (8, .long (cj_hs hz i rn)), (6, .int (nI (cj_su co t rn))), (5, .int (nI t)), (3, .long (cj_sn ed hz ea rn)), (2, .int (nI (cj_om ed ea rn))), (0, .ref (ad 0)), (1, .int (nI ea))]) hx hb dM_least_211 hl (k := 3) rfl (cj_inc _) (by decide) rfl (fun ls hl => ?_)
                  refine lv_goto (tgt := 72) hx hb dM_least_214 (by decide) ?_
                  exact ih (i + 1) _ _ ls (by omega) V (lv_sub hl [0, 4, 5, 6, 7, 8, 9] (by rw [cj_bs_2 c_16, hB]; rfl)) kont
                ·
                  refine lv_iload hx hb dM_least_198 (lv_at hl 0 rfl) ?_
                  refine lv_if_eq (tgt := 211) hx hb dM_least_200 (by decide) (fun _ => ?_) (fun h => absurd (by decide) h)
                  refine lv_iinc (v := nI (i + 1)) (lv' := [(7, .int (nI (i + 1))), (11, .int (nI 0)), (10, .int (nI (cj_su co i rn))), (8, .long (cj_hs hz i rn)), (6, .int (nI (cj_su co t rn))), (5, .int (nI t)), (3, .long (cj_sn ed hz ea rn)), (2, .int (nI (cj_om ed ea rn))), (0, .ref (ad 0)), (1, .int (nI ea))]) hx hb dM_least_211 hl (k := 3) rfl (cj_inc _) (by decide) rfl (fun ls hl => ?_)
                  refine lv_goto (tgt := 72) hx hb dM_least_214 (by decide) ?_
                  have hbt : cj_bt co rn (cj_bs co hz rn (cj_om ed ea rn) (cj_sn ed hz ea rn) i) i = false := by rw [hB]; simp only [cj_bt, Bool.or_eq_false_iff, Bool.and_eq_false_iff, decide_eq_false_iff_not]; omega
                  exact ih (i + 1) _ _ ls (by omega) V (lv_sub hl [0, 4, 5, 6, 7, 8, 9] (by rw [cj_bs_3 hbt, hB]; rfl)) kont
              ·
                refine lv_iconst (v := nI 1) hx hb dM_least_184 (by decide) ?_
                refine lv_goto (tgt := 189) hx hb dM_least_185 (by decide) ?_
                refine lv_istore (lv' := [(11, .int (nI 1)), (10, .int (nI (cj_su co i rn))), (8, .long (cj_hs hz i rn)), (7, .int (nI i)), (6, .int (nI (cj_su co t rn))), (5, .int (nI t)), (3, .long (cj_sn ed hz ea rn)), (2, .int (nI (cj_om ed ea rn))), (0, .ref (ad 0)), (1, .int (nI ea))]) hx hb dM_least_189 hl (by decide) rfl (fun ls hl => ?_)
                refine lv_lload hx hb dM_least_191 (lv_at hl 2 rfl) ?_
                refine lv_lload_n hx hb dM_least_193 rfl (lv_at hl 6 rfl) ?_
                refine cj_l_ne (tgt := 211) hx hb dM_least_194 dM_least_195 (by decide) (fun c_18 => ?_) (fun c_18 => ?_)
                ·
                  refine lv_iinc (v := nI (i + 1)) (lv' := [(7, .int (nI (i + 1))), (11, .int (nI 1)), (10, .int (nI (cj_su co i rn))), (8, .long (cj_hs hz i rn)), (6, .int (nI (cj_su co t rn))), (5, .int (nI t)), (3, .long (cj_sn ed hz ea rn)), (2, .int (nI (cj_om ed ea rn))), (0, .ref (ad 0)), (1, .int (nI ea))]) hx hb dM_least_211 hl (k := 3) rfl (cj_inc _) (by decide) rfl (fun ls hl => ?_)
                  refine lv_goto (tgt := 72) hx hb dM_least_214 (by decide) ?_
                  exact ih (i + 1) _ _ ls (by omega) V (lv_sub hl [0, 4, 5, 6, 7, 8, 9] (by rw [cj_bs_2 c_18, hB]; rfl)) kont
                ·
                  refine lv_iload hx hb dM_least_198 (lv_at hl 0 rfl) ?_
                  refine lv_if_eq (tgt := 211) hx hb dM_least_200 (by decide) (fun h => absurd h (by decide)) (fun _ => ?_)
                  refine lv_iload hx hb dM_least_203 (lv_at hl 3 rfl) ?_
                  refine lv_istore (lv' := [(5, .int (nI i)), (11, .int (nI 1)), (10, .int (nI (cj_su co i rn))), (8, .long (cj_hs hz i rn)), (7, .int (nI i)), (6, .int (nI (cj_su co t rn))), (3, .long (cj_sn ed hz ea rn)), (2, .int (nI (cj_om ed ea rn))), (0, .ref (ad 0)), (1, .int (nI ea))]) hx hb dM_least_205 hl (by decide) rfl (fun ls hl => ?_)
                  refine lv_iload hx hb dM_least_207 (lv_at hl 2 rfl) ?_
                  refine lv_istore (lv' := [(6, .int (nI (cj_su co i rn))), (5, .int (nI i)), (11, .int (nI 1)), (10, .int (nI (cj_su co i rn))), (8, .long (cj_hs hz i rn)), (7, .int (nI i)), (3, .long (cj_sn ed hz ea rn)), (2, .int (nI (cj_om ed ea rn))), (0, .ref (ad 0)), (1, .int (nI ea))]) hx hb dM_least_209 hl (by decide) rfl (fun ls hl => ?_)
                  refine lv_iinc (v := nI (i + 1)) (lv' := [(7, .int (nI (i + 1))), (6, .int (nI (cj_su co i rn))), (5, .int (nI i)), (11, .int (nI 1)), (10, .int (nI (cj_su co i rn))), (8, .long (cj_hs hz i rn)), (3, .long (cj_sn ed hz ea rn)), (2, .int (nI (cj_om ed ea rn))), (0, .ref (ad 0)), (1, .int (nI ea))]) hx hb dM_least_211 hl (k := 5) rfl (cj_inc _) (by decide) rfl (fun ls hl => ?_)
                  refine lv_goto (tgt := 72) hx hb dM_least_214 (by decide) ?_
                  have hbt : cj_bt co rn (cj_bs co hz rn (cj_om ed ea rn) (cj_sn ed hz ea rn) i) i = true := by rw [hB]; simp only [cj_bt, Bool.or_eq_true, Bool.and_eq_true, decide_eq_true_eq]; omega
                  exact ih (i + 1) _ _ ls (by omega) V (lv_sub hl [0, 1, 2, 6, 7, 8, 9] (by rw [cj_bs_t c_2 c_18 hbt]; rfl)) kont
set_option maxRecDepth 100000 in
set_option maxHeartbeats 4000000 in
theorem c_M_least (l : Launch) (D : va_G) (kd : Nat → ClassId) (ad : Nat → Nat) {E : Nat} {rn : Nat} {ch : Int32} {n : Nat → Nat} {con : Nat → Int32} {ow : Nat → Nat} {ge : Nat → Bool} {cl : Nat → Bool} {ed : Nat → Nat} {co : Nat → Nat} {hz : Nat → Int64} {lo : Nat → Nat} {pr : Nat → Int32} (hE : E ≤ 8) (hn : ∀ i, n i ≤ 40) (hR : rn ≤ 14) (hed : ∀ r, r < rn → ed r < E) (hco : ∀ r, co r ≤ 100000) (x : Int32) : cj_Mi (S := Int32) l yM_least cM_least 12 (some .int) 1 D kd [.ref (ad 0), .int x] (wM kd ad E rn ch n con ow ge cl ed co hz lo pr) (fun r u => r = f_leastM E rn ed co hz x ∧ u = c_leastM E rn ed co hz ch x) (fun u => wM kd ad E rn u n con ow ge cl ed co hz lo pr) := by
  refine cj_ofi (by decide) (Nat.le_of_ble_eq_true rfl) ?_
  intro p e s m below meth c A ls X hr V hl
  obtain ⟨⟨hx, hb, hml, hown, hts⟩, hK, hlk⟩ := id X
  have hl : lv_has ls 12 [(0, .ref (ad 0)), (1, .int x)] := hl
  refine lv_iload_n hx hb dM_least_0 rfl (lv_at hl 1 rfl) ?_
  refine lv_aload_n hx hb dM_least_1 rfl (lv_at hl 0 rfl) ?_
  refine gM 0 X V fl_M_42 (by decide) rfl dM_least_2 ?_
  refine cj_csi X V (c_M_in l D kd ad x E (by omega)) ml_M_46 st_M_in in_M cd_M_in hd_M_in ⟨by decide, by decide⟩ ⟨Nat.le_refl _, Nat.le_refl _⟩ hl.1 rfl (Nat.le_of_ble_eq_true rfl) dM_least_5 (fun r_9 u_9 H locs hw V => ?_)
  rcases hw with ⟨rfl, j_1, hj_1, rfl⟩ | ⟨rfl, hj_1⟩
  ·
    have ij_1 := cj_ix_t hj_1 (show E < 2 ^ 31 by omega)
    refine lv_if_ne (tgt := 13) hx hb dM_least_8 (by decide) (fun _ => ?_) (fun h => absurd h (by decide))
    refine lv_iconst (v := nI 0) hx hb dM_least_13 (by decide) ?_
    refine lv_istore_n (lv' := [(2, .int (nI 0)), (0, .ref (ad 0)), (1, .int (nI j_1))]) hx hb dM_least_14 rfl hl (by decide) rfl (fun ls hl => ?_)
    refine lv_lconst (v := 0) hx hb dM_least_15 (by decide) ?_
    refine lv_lstore_n (lv' := [(3, .long 0), (2, .int (nI 0)), (0, .ref (ad 0)), (1, .int (nI j_1))]) hx hb dM_least_16 rfl hl (by decide) rfl (fun ls hl => ?_)
    refine lv_iconst (v := nI 0) hx hb dM_least_17 (by decide) ?_
    refine lv_istore (lv' := [(5, .int (nI 0)), (3, .long 0), (2, .int (nI 0)), (0, .ref (ad 0)), (1, .int (nI j_1))]) hx hb dM_least_18 hl (by decide) rfl (fun ls hl => ?_)
    refine lp_M_lsA X hR hco (fun r h => by have := hed r h; omega) j_1 (by omega) rn 0 _ _ ls (by omega) V (lv_sub hl [0, 2, 1, 3, 4] rfl) (fun H locs ls V hl => ?_)
    refine lv_iconst (v := (-1)) hx hb dM_least_63 (by decide) ?_
    refine lv_istore (lv' := [(5, .int (-1)), (2, .int (nI (cj_om ed j_1 rn))), (3, .long (cj_sn ed hz j_1 rn)), (0, .ref (ad 0)), (1, .int (nI j_1))]) hx hb dM_least_64 hl (by decide) rfl (fun ls hl => ?_)
    refine lv_iconst (v := nI 0) hx hb dM_least_66 (by decide) ?_
    refine lv_istore (lv' := [(6, .int (nI 0)), (5, .int (-1)), (2, .int (nI (cj_om ed j_1 rn))), (3, .long (cj_sn ed hz j_1 rn)), (0, .ref (ad 0)), (1, .int (nI j_1))]) hx hb dM_least_67 hl (by decide) rfl (fun ls hl => ?_)
    refine lv_iconst (v := nI 0) hx hb dM_least_69 (by decide) ?_
    refine lv_istore (lv' := [(7, .int (nI 0)), (6, .int (nI 0)), (5, .int (-1)), (2, .int (nI (cj_om ed j_1 rn))), (3, .long (cj_sn ed hz j_1 rn)), (0, .ref (ad 0)), (1, .int (nI j_1))]) hx hb dM_least_70 hl (by decide) rfl (fun ls hl => ?_)
    refine lp_M_lsC X hR hco (fun r h => by have := hed r h; omega) j_1 (by omega) (2 ^ rn) 0 _ _ ls (by omega) V (lv_sub hl [0, 1, 2, 4, 3, 5, 6] rfl) (fun H locs ls V hl => ?_)
    refine lv_aload_n hx hb dM_least_217 rfl (lv_at hl 4 rfl) ?_
    refine lv_iload hx hb dM_least_218 (lv_at hl 1 rfl) ?_
    refine pM_ch X V fl_M_82 dM_least_220 (fun H locs V => ?_)
    refine lv_iload hx hb dM_least_223 (lv_at hl 0 rfl) ?_
    exact cj_reti (oI (cj_bs co hz rn (cj_om ed j_1 rn) (cj_sn ed hz j_1 rn) (2 ^ rn))) X hr V (by refine ⟨?_, ?_⟩; · { simp only [f_leastM, ij_1] }; · { simp only [c_leastM, ij_1] }) dM_least_225
  ·
    have ij_1 := cj_ix_f hj_1
    refine lv_if_ne (tgt := 13) hx hb dM_least_8 (by decide) (fun h => absurd (by decide) h) (fun _ => ?_)
    refine lv_iconst (v := (-1)) hx hb dM_least_11 (by decide) ?_
    exact cj_reti ch X hr V (by refine ⟨?_, ?_⟩; · { simp only [f_leastM, ij_1] }; · { simp only [c_leastM, ij_1] }) dM_least_12
