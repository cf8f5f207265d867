set_option maxRecDepth 100000 in
set_option maxHeartbeats 4000000 in
theorem c_C_weightOf (l : Launch) (D : va_G) (kd : Nat → ClassId) (ad : Nat → Nat) {E : Nat} {n : Nat → Nat} {cl : Nat → Bool} {con : Nat → Nat → Int32} {ow : Nat → Nat → Int64} {rn : Nat} {ed : Nat → Nat} {co : Nat → Nat} {hz : Nat → Int64} {mp : Nat → Nat → Nat} {pr : Nat → Int32} {cn : Nat} {hs : Nat → Int64} {wg : Nat → Int64} {rs : Nat → Int64} {ch : Int32} (j : Nat) (hj : j < 14) (hc : co j ≤ 100000) : cj_Ml (S := Unit) l yC_weightOf cC_weightOf 2 (some .long) 0 D kd [.ref (ad 0), .int (nI j)] (wC kd ad E n cl con ow rn ed co hz mp pr cn hs wg rs ch) (fun r _ => r = lN (cj_wt co j)) (fun _ => wC kd ad E n cl con ow rn ed co hz mp pr cn hs wg rs ch) := by
  refine cj_ofl (by decide) (Nat.le_of_ble_eq_true rfl) ?_
  intro p e s m below meth c A ls X hr V hl
  obtain ⟨⟨hx, hb, hml, hown, hts⟩, hK, hlk⟩ := id X
  have hl : lv_has ls 2 [(0, .ref (ad 0)), (1, .int (nI j))] := hl
  refine lv_aload_n hx hb dC_weightOf_0 rfl (lv_at hl 0 rfl) ?_
  refine gC 7 X V fl_C_37 (by decide) rfl dC_weightOf_1 ?_
  refine lv_iload_n hx hb dC_weightOf_4 rfl (lv_at hl 1 rfl) ?_
  refine rC_co X V (by omega) dC_weightOf_5 ?_
  refine lv_i2l hx hb dC_weightOf_6 rfl ?_
  refine lv_bipush (v := nI 18) hx hb dC_weightOf_7 (by decide) ?_
  refine lv_lshl hx hb dC_weightOf_9 rfl ?_
  refine lv_ldc2 hx hb hown (hts _ kl_C_160) dC_weightOf_10 ?_
  refine lv_lor hx hb dC_weightOf_13 ?_
  refine lv_lconst (v := lN 1) hx hb dC_weightOf_14 (by decide) ?_
  refine lv_iload_n hx hb dC_weightOf_15 rfl (lv_at hl 1 rfl) ?_
  refine lv_lshl hx hb dC_weightOf_16 (cj_shl1 (by omega)) ?_
  refine lv_lor hx hb dC_weightOf_17 ?_
  exact cj_retl () X hr V (cj_wt_ok hc hj) dC_weightOf_18
set_option maxRecDepth 100000 in
set_option maxHeartbeats 4000000 in
theorem lp_C_gath1 {p : Program} {l : Launch} {e : Env} {s : State} {m : MethodId} {args : Array Value} {below : List Frame} {meth : Method} {c : Code} {Q : State → Prop} {D : va_G} {kd : Nat → ClassId} {A : Nat → Prop} {H0 : Heap} {ad : Nat → Nat} {E : Nat} {n : Nat → Nat} {cl : Nat → Bool} {con : Nat → Nat → Int32} {ow : Nat → Nat → Int64} {rn : Nat} {ed : Nat → Nat} {co : Nat → Nat} {hz : Nat → Int64} {mp : Nat → Nat → Nat} {pr : Nat → Int32} {cn : Nat} {rs : Nat → Int64} {ch : Int32} (X : cj_X p s m args c meth cC_gatherCandidates 4 RC D kd) (hR : rn ≤ 14) (hco : ∀ r, co r ≤ 100000) (hed : ∀ r, r < rn → ed r < 8) (ea : Nat) (he : ea < 8) : ∀ (d i : Nat) (hs wg : Nat → Int64) (H : Heap) (locs : List Loc) (ls : Array Slot), i + d = rn → cj_G (cj_cd ed ea i) co hz hs wg → cj_V D A H0 (wC kd ad E n cl con ow rn ed co hz mp pr cn hs wg rs ch) H locs → lv_has ls 4 [(3, .int (nI i)), (2, .int (nI ((cj_cd ed ea i).length))), (0, .ref (ad 0)), (1, .int (nI ea))] → (∀ (hs wg : Nat → Int64) (H : Heap) (locs : List Loc) (ls : Array Slot), cj_G (cj_cd ed ea rn) co hz hs wg → cj_V D A H0 (wC kd ad E n cl con ow rn ed co hz mp pr cn hs wg rs ch) H locs → lv_has ls 4 [(2, .int (nI ((cj_cd ed ea rn).length))), (0, .ref (ad 0)), (1, .int (nI ea))] → W p l e (cj_rm 1) s m args below meth c H locs 0 0 Q (F0 m 60 ls [])) → W p l e (cj_rm 1) s m args below meth c H locs 0 0 Q (F0 m 4 ls []) := by
  obtain ⟨⟨hx, hb, hml, hown, hts⟩, hK, hlk⟩ := id X
  intro d
  induction d with
  | zero =>
    intro i hs wg H locs ls hi hG V hl kont
    have hcl := cj_cd_len (ed := ed) (ea := ea) i
    refine lv_iload_n hx hb dC_gatherCandidates_4 rfl (lv_at hl 0 rfl) ?_
    refine lv_aload_n hx hb dC_gatherCandidates_5 rfl (lv_at hl 2 rfl) ?_
    refine gC 5 X V fl_C_31 (by decide) rfl dC_gatherCandidates_6 ?_
    refine cj_n_ge (tgt := 60) hx hb dC_gatherCandidates_9 (by decide) (by omega) (by omega) (fun c_1 => ?_) (fun c_1 => ?_)
    ·
      obtain rfl : i = rn := by omega
      exact kont _ _ _ _ _ hG V (lv_sub hl [1, 2, 3] rfl)
    ·
      exact absurd c_1 (by omega)
  | succ d ih =>
    intro i hs wg H locs ls hi hG V hl kont
    have hcl := cj_cd_len (ed := ed) (ea := ea) i
    refine lv_iload_n hx hb dC_gatherCandidates_4 rfl (lv_at hl 0 rfl) ?_
    refine lv_aload_n hx hb dC_gatherCandidates_5 rfl (lv_at hl 2 rfl) ?_
    refine gC 5 X V fl_C_31 (by decide) rfl dC_gatherCandidates_6 ?_
    refine cj_n_ge (tgt := 60) hx hb dC_gatherCandidates_9 (by decide) (by omega) (by omega) (fun c_1 => ?_) (fun c_1 => ?_)
    ·
      exact absurd c_1 (by omega)
    ·
      refine lv_aload_n hx hb dC_gatherCandidates_12 rfl (lv_at hl 2 rfl) ?_
      refine gC 6 X V fl_C_34 (by decide) rfl dC_gatherCandidates_13 ?_
      refine lv_iload_n hx hb dC_gatherCandidates_16 rfl (lv_at hl 0 rfl) ?_
      refine rC_ed X V (by omega) dC_gatherCandidates_17 ?_
      have f_e_2 := hed i (by omega)
      refine lv_iload_n hx hb dC_gatherCandidates_18 rfl (lv_at hl 3 rfl) ?_
      refine cj_n_ne (tgt := 54) hx hb dC_gatherCandidates_19 (by decide) (by omega) (by omega) (fun c_3 => ?_) (fun c_3 => ?_)
      ·
        refine lv_iinc (v := nI (i + 1)) (lv' := [(3, .int (nI (i + 1))), (2, .int (nI ((cj_cd ed ea i).length))), (0, .ref (ad 0)), (1, .int (nI ea))]) hx hb dC_gatherCandidates_54 hl (k := 0) rfl (cj_inc _) (by decide) rfl (fun ls hl => ?_)
        refine lv_goto (tgt := 4) hx hb dC_gatherCandidates_57 (by decide) ?_
        exact ih (i + 1) _ _ _ _ ls (by omega) (cj_G_f c_3 hG) V (lv_sub hl [0, 1, 2, 3] (by rw [cj_cl_f c_3]; rfl)) kont
      ·
        refine lv_aload_n hx hb dC_gatherCandidates_22 rfl (lv_at hl 2 rfl) ?_
        refine gC 11 X V fl_C_53 (by decide) rfl dC_gatherCandidates_23 ?_
        refine gD 1 X V fl_C_148 (by decide) rfl dC_gatherCandidates_26 ?_
        refine lv_iload_n hx hb dC_gatherCandidates_29 rfl (lv_at hl 1 rfl) ?_
        refine lv_aload_n hx hb dC_gatherCandidates_30 rfl (lv_at hl 2 rfl) ?_
        refine gC 8 X V fl_C_40 (by decide) rfl dC_gatherCandidates_31 ?_
        refine lv_iload_n hx hb dC_gatherCandidates_34 rfl (lv_at hl 0 rfl) ?_
        refine rC_hi X V (by omega) dC_gatherCandidates_35 ?_
        refine sC_hs X V (by omega) dC_gatherCandidates_36 (fun H locs V => ?_)
        refine lv_aload_n hx hb dC_gatherCandidates_37 rfl (lv_at hl 2 rfl) ?_
        refine gC 11 X V fl_C_53 (by decide) rfl dC_gatherCandidates_38 ?_
        refine gD 2 X V fl_C_151 (by decide) rfl dC_gatherCandidates_41 ?_
        refine lv_iload_n hx hb dC_gatherCandidates_44 rfl (lv_at hl 1 rfl) ?_
        refine lv_aload_n hx hb dC_gatherCandidates_45 rfl (lv_at hl 2 rfl) ?_
        refine lv_iload_n hx hb dC_gatherCandidates_46 rfl (lv_at hl 0 rfl) ?_
        refine cj_cvl X V (c_C_weightOf l D kd ad i (by omega) (hco _)) 0 1 rfl rfl rfl ml_C_154 im_C_weightOf se_C_weightOf in_C cd_C_weightOf hd_C_weightOf ⟨by decide, by decide⟩ ⟨Nat.le_refl _, Nat.le_refl _⟩ hl.1 rfl (Nat.le_of_ble_eq_true rfl) dC_gatherCandidates_47 (fun r_9 u_9 H locs hw V => ?_)
        obtain rfl := hw
        refine sC_wg X V (by omega) dC_gatherCandidates_50 (fun H locs V => ?_)
        refine lv_iinc (v := nI ((cj_cd ed ea i).length + 1)) (lv' := [(2, .int (nI ((cj_cd ed ea i).length + 1))), (3, .int (nI i)), (0, .ref (ad 0)), (1, .int (nI ea))]) hx hb dC_gatherCandidates_51 hl (k := 1) rfl (cj_inc _) (by decide) rfl (fun ls hl => ?_)
        refine lv_iinc (v := nI (i + 1)) (lv' := [(3, .int (nI (i + 1))), (2, .int (nI ((cj_cd ed ea i).length + 1))), (0, .ref (ad 0)), (1, .int (nI ea))]) hx hb dC_gatherCandidates_54 hl (k := 1) rfl (cj_inc _) (by decide) rfl (fun ls hl => ?_)
        refine lv_goto (tgt := 4) hx hb dC_gatherCandidates_57 (by decide) ?_
        exact ih (i + 1) _ _ _ _ ls (by omega) (cj_G_t c_3 hG) V (lv_sub hl [0, 1, 2, 3] (by rw [cj_cl_t c_3]; rfl)) kont
set_option maxRecDepth 100000 in
set_option maxHeartbeats 4000000 in
theorem lp_C_gath2 {p : Program} {l : Launch} {e : Env} {s : State} {m : MethodId} {args : Array Value} {below : List Frame} {meth : Method} {c : Code} {Q : State → Prop} {D : va_G} {kd : Nat → ClassId} {A : Nat → Prop} {H0 : Heap} {ad : Nat → Nat} {E : Nat} {n : Nat → Nat} {cl : Nat → Bool} {con : Nat → Nat → Int32} {ow : Nat → Nat → Int64} {rn : Nat} {ed : Nat → Nat} {co : Nat → Nat} {hz : Nat → Int64} {mp : Nat → Nat → Nat} {pr : Nat → Int32} {cn : Nat} {hs : Nat → Int64} {wg : Nat → Int64} {ch : Int32} (X : cj_X p s m args c meth cC_gatherCandidates 4 RC D kd) (hR : rn ≤ 14) (hco : ∀ r, co r ≤ 100000) (hed : ∀ r, r < rn → ed r < 8) (ea : Nat) (he : ea < 8) (hG : cj_G (cj_cd ed ea rn) co hz hs wg) : ∀ (a : Nat) (rs : Nat → Int64) (H : Heap) (locs : List Loc) (ls : Array Slot), a ≤ (cj_cd ed ea rn).length → cj_Rr (cj_cd ed ea rn) hz rs a → cj_V D A H0 (wC kd ad E n cl con ow rn ed co hz mp pr cn hs wg rs ch) H locs → lv_has ls 4 [(3, .int (cj_p a)), (2, .int (nI ((cj_cd ed ea rn).length))), (0, .ref (ad 0)), (1, .int (nI ea))] → (∀ (rs : Nat → Int64) (H : Heap) (locs : List Loc) (ls : Array Slot), cj_Rr (cj_cd ed ea rn) hz rs 0 → cj_V D A H0 (wC kd ad E n cl con ow rn ed co hz mp pr cn hs wg rs ch) H locs → lv_has ls 4 [(2, .int (nI ((cj_cd ed ea rn).length))), (0, .ref (ad 0)), (1, .int (nI ea))] → W p l e (cj_rm 1) s m args below meth c H locs 0 0 Q (F0 m 122 ls [])) → W p l e (cj_rm 1) s m args below meth c H locs 0 0 Q (F0 m 82 ls []) := by
  obtain ⟨⟨hx, hb, hml, hown, hts⟩, hK, hlk⟩ := id X
  intro a
  induction a with
  | zero =>
    intro rs H locs ls hal hA V hl kont
    rw [cj_p0] at hl
    have hcl := cj_cd_len (ed := ed) (ea := ea) rn
    refine lv_iload_n hx hb dC_gatherCandidates_82 rfl (lv_at hl 0 rfl) ?_
    refine lv_if_lt (tgt := 122) hx hb dC_gatherCandidates_83 (by decide) (fun _ => ?_) (fun h => absurd (by decide) h)
    exact kont _ _ _ _ hA V (lv_sub hl [1, 2, 3] rfl)
  | succ a ih =>
    intro rs H locs ls hal hA V hl kont
    rw [cj_ps] at hl
    have hcl := cj_cd_len (ed := ed) (ea := ea) rn
    refine lv_iload_n hx hb dC_gatherCandidates_82 rfl (lv_at hl 0 rfl) ?_
    refine cj_z_lt (tgt := 122) hx hb dC_gatherCandidates_83 (by omega) (by decide) ?_
    refine lv_aload_n hx hb dC_gatherCandidates_86 rfl (lv_at hl 2 rfl) ?_
    refine gC 11 X V fl_C_53 (by decide) rfl dC_gatherCandidates_87 ?_
    refine gD 3 X V fl_C_124 (by decide) rfl dC_gatherCandidates_90 ?_
    refine lv_iload_n hx hb dC_gatherCandidates_93 rfl (lv_at hl 0 rfl) ?_
    refine lv_aload_n hx hb dC_gatherCandidates_94 rfl (lv_at hl 2 rfl) ?_
    refine gC 11 X V fl_C_53 (by decide) rfl dC_gatherCandidates_95 ?_
    refine gD 3 X V fl_C_124 (by decide) rfl dC_gatherCandidates_98 ?_
    refine lv_iload_n hx hb dC_gatherCandidates_101 rfl (lv_at hl 0 rfl) ?_
    refine lv_iconst (v := nI 1) hx hb dC_gatherCandidates_102 (by decide) ?_
    refine cj_iaddN hx hb dC_gatherCandidates_103 ?_
    refine rC_rs X V (by omega) dC_gatherCandidates_104 ?_
    refine lv_aload_n hx hb dC_gatherCandidates_105 rfl (lv_at hl 2 rfl) ?_
    refine gC 11 X V fl_C_53 (by decide) rfl dC_gatherCandidates_106 ?_
    refine gD 1 X V fl_C_148 (by decide) rfl dC_gatherCandidates_109 ?_
    refine lv_iload_n hx hb dC_gatherCandidates_112 rfl (lv_at hl 0 rfl) ?_
    refine rC_hs X V (by omega) dC_gatherCandidates_113 ?_
    refine lv_lor hx hb dC_gatherCandidates_114 ?_
    refine sC_rs X V (by omega) dC_gatherCandidates_115 (fun H locs V => ?_)
    refine lv_iinc (v := cj_p a) (lv' := [(3, .int (cj_p a)), (2, .int (nI ((cj_cd ed ea rn).length))), (0, .ref (ad 0)), (1, .int (nI ea))]) hx hb dC_gatherCandidates_116 hl (k := 0) rfl (cj_dp _) (by decide) rfl (fun ls hl => ?_)
    refine lv_goto (tgt := 82) hx hb dC_gatherCandidates_119 (by decide) ?_
    exact ih _ _ _ ls (by omega) (cj_Rr_s (by omega) hG hA) V (lv_sub hl [0, 1, 2, 3] rfl) kont
set_option maxRecDepth 100000 in
set_option maxHeartbeats 4000000 in
theorem c_C_gather (l : Launch) (D : va_G) (kd : Nat → ClassId) (ad : Nat → Nat) {E : Nat} {n : Nat → Nat} {cl : Nat → Bool} {con : Nat → Nat → Int32} {ow : Nat → Nat → Int64} {rn : Nat} {ed : Nat → Nat} {co : Nat → Nat} {hz : Nat → Int64} {mp : Nat → Nat → Nat} {pr : Nat → Int32} {cn : Nat} {hs : Nat → Int64} {wg : Nat → Int64} {rs : Nat → Int64} {ch : Int32} (hR : rn ≤ 14) (hco : ∀ r, co r ≤ 100000) (hed : ∀ r, r < rn → ed r < 8) (ea : Nat) (he : ea < 8) : cj_Mv (S := Nat × (Nat → Int64) × (Nat → Int64) × (Nat → Int64)) l yC_gatherCandidates cC_gatherCandidates 4 none 1 D kd [.ref (ad 0), .int (nI ea)] (wC kd ad E n cl con ow rn ed co hz mp pr cn hs wg rs ch) (fun u => u.1 = (cj_cd ed ea rn).length ∧ cj_G (cj_cd ed ea rn) co hz u.2.1 u.2.2.1 ∧ cj_Rr (cj_cd ed ea rn) hz u.2.2.2 0) (fun u => wC kd ad E n cl con ow rn ed co hz mp pr u.1 u.2.1 u.2.2.1 u.2.2.2 ch) := by
  refine cj_ofv (by decide) (Nat.le_of_ble_eq_true rfl) ?_
  intro p e s m below meth c A ls X hr V hl
  obtain ⟨⟨hx, hb, hml, hown, hts⟩, hK, hlk⟩ := id X
  have hl : lv_has ls 4 [(0, .ref (ad 0)), (1, .int (nI ea))] := hl
  refine lv_iconst (v := nI 0) hx hb dC_gatherCandidates_0 (by decide) ?_
  refine lv_istore_n (lv' := [(2, .int (nI 0)), (0, .ref (ad 0)), (1, .int (nI ea))]) hx hb dC_gatherCandidates_1 rfl hl (by decide) rfl (fun ls hl => ?_)
  refine lv_iconst (v := nI 0) hx hb dC_gatherCandidates_2 (by decide) ?_
  refine lv_istore_n (lv' := [(3, .int (nI 0)), (2, .int (nI 0)), (0, .ref (ad 0)), (1, .int (nI ea))]) hx hb dC_gatherCandidates_3 rfl hl (by decide) rfl (fun ls hl => ?_)
  have hcl := cj_cd_len (ed := ed) (ea := ea) rn
  refine lp_C_gath1 X hR hco hed ea he rn 0 _ _ _ _ ls (by omega) (fun k r h => by cases h) V (lv_sub hl [0, 1, 2, 3] rfl) (fun hs wg H locs ls hG V hl => ?_)
  refine lv_aload_n hx hb dC_gatherCandidates_60 rfl (lv_at hl 1 rfl) ?_
  refine gC 11 X V fl_C_53 (by decide) rfl dC_gatherCandidates_61 ?_
  refine lv_iload_n hx hb dC_gatherCandidates_64 rfl (lv_at hl 0 rfl) ?_
  refine pD_cn X V fl_C_157 dC_gatherCandidates_65 (fun H locs V => ?_)
  refine lv_aload_n hx hb dC_gatherCandidates_68 rfl (lv_at hl 1 rfl) ?_
  refine gC 11 X V fl_C_53 (by decide) rfl dC_gatherCandidates_69 ?_
  refine gD 3 X V fl_C_124 (by decide) rfl dC_gatherCandidates_72 ?_
  refine lv_iload_n hx hb dC_gatherCandidates_75 rfl (lv_at hl 0 rfl) ?_
  refine lv_lconst (v := 0) hx hb dC_gatherCandidates_76 (by decide) ?_
  refine sC_rs X V (by omega) dC_gatherCandidates_77 (fun H locs V => ?_)
  refine lv_iload_n hx hb dC_gatherCandidates_78 rfl (lv_at hl 0 rfl) ?_
  refine lv_iconst (v := nI 1) hx hb dC_gatherCandidates_79 (by decide) ?_
  refine lv_isub hx hb dC_gatherCandidates_80 ?_
  refine cj_ti (cj_subp ((cj_cd ed ea rn).length)) ?_
  refine lv_istore_n (lv' := [(3, .int (cj_p ((cj_cd ed ea rn).length))), (2, .int (nI ((cj_cd ed ea rn).length))), (0, .ref (ad 0)), (1, .int (nI ea))]) hx hb dC_gatherCandidates_81 rfl hl (by decide) rfl (fun ls hl => ?_)
  refine lp_C_gath2 X hR hco hed ea he hG (cj_cd ed ea rn).length _ _ _ ls (Nat.le_refl _) cj_Rr_0 V (lv_sub hl [0, 1, 2, 3] rfl) (fun rs H locs ls hA V hl => ?_)
  exact cj_retv ((cj_cd ed ea rn).length, hs, wg, rs) X hr V ⟨rfl, hG, hA⟩ dC_gatherCandidates_122
