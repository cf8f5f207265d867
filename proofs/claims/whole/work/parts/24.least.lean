def cj_best (ed co : Nat → Nat) (hz : Nat → Int64) (rn ea : Nat) : Int64 := cj_ll co hz (cj_cd ed ea rn) (cj_or hz (cj_cd ed ea rn)) 0 9223372036854775807
def f_leastC (E rn : Nat) (ed co : Nat → Nat) (hz : Nat → Int64) (x : Int32) : Int32 := match cj_ix x E with
  | none => -1
  | some ea => (cj_best ed co hz rn ea >>> ((nI 18).toInt64 &&& 63)).toInt32
def c_leastC (E rn : Nat) (ed co : Nat → Nat) (hz : Nat → Int64) (ch x : Int32) : Int32 := match cj_ix x E with
  | none => ch
  | some ea => (cj_best ed co hz rn ea &&& 16383).toInt32
set_option maxRecDepth 100000 in
set_option maxHeartbeats 4000000 in
theorem c_C_lightest (l : Launch) (D : va_G) (kd : Nat → ClassId) (ad : Nat → Nat) {E : Nat} {n : Nat → Nat} {cl : Nat → Bool} {con : Nat → Nat → Int32} {ow : Nat → Nat → Int64} {rn : Nat} {ed : Nat → Nat} {co : Nat → Nat} {hz : Nat → Int64} {mp : Nat → Nat → Nat} {pr : Nat → Int32} {cn : Nat} {hs : Nat → Int64} {wg : Nat → Int64} {rs : Nat → Int64} {ch : Int32} (L : List Nat) (hL : L.length ≤ 14) (hcn : cn = L.length) (hG : cj_G L co hz hs wg) (hA : cj_Rr L hz rs 0) : ∀ (M : List Nat) (nx : Nat) (ms wt bs : Int64), nx ≤ L.length → L.drop nx = M → cj_Ml (S := Unit) l yC_lightest cC_lightest 10 (some .long) M.length D kd [.ref (ad 10), .int (nI nx), .long ms, .long wt, .long bs] (wC kd ad E n cl con ow rn ed co hz mp pr cn hs wg rs ch) (fun r _ => r = cj_ll co hz M ms wt bs) (fun _ => wC kd ad E n cl con ow rn ed co hz mp pr cn hs wg rs ch) := by
  intro M
  induction M with
  | nil =>
    intro nx ms wt bs hnx hdr
    have hlen : L.length ≤ nx := List.drop_eq_nil_iff.mp hdr
    refine cj_ofl (by decide) (Nat.le_of_ble_eq_true rfl) ?_
    intro p e s m below meth c A ls X hr V hl
    obtain ⟨⟨hx, hb, hml, hown, hts⟩, hK, hlk⟩ := id X
    have hl : lv_has ls 10 [(0, .ref (ad 10)), (1, .int (nI nx)), (2, .long ms), (4, .long wt), (6, .long bs)] := hl
    refine lv_lload hx hb dC_lightest_0 (lv_at hl 3 rfl) ?_
    refine lv_lload hx hb dC_lightest_2 (lv_at hl 4 rfl) ?_
    refine cj_l_lt (tgt := 11) hx hb dC_lightest_4 dC_lightest_5 (by decide) (fun c_1 => ?_) (fun c_1 => ?_)
    ·
      refine lv_lload_n hx hb dC_lightest_11 rfl (lv_at hl 2 rfl) ?_
      refine lv_lconst (v := 0) hx hb dC_lightest_12 (by decide) ?_
      refine cj_l_ne (tgt := 20) hx hb dC_lightest_13 dC_lightest_14 (by decide) (fun c_2 => ?_) (fun c_2 => ?_)
      ·
        refine lv_iload_n hx hb dC_lightest_20 rfl (lv_at hl 1 rfl) ?_
        refine lv_aload_n hx hb dC_lightest_21 rfl (lv_at hl 0 rfl) ?_
        refine gD 0 X V fl_C_157 (by decide) rfl dC_lightest_22 ?_
        refine cj_n_ge (tgt := 45) hx hb dC_lightest_25 (by decide) (by omega) (by omega) (fun c_3 => ?_) (fun c_3 => ?_)
        ·
          refine lv_lload hx hb dC_lightest_45 (lv_at hl 4 rfl) ?_
          exact cj_retl () X hr V (by rw [cj_ll_nil, if_pos c_1, if_neg c_2]) dC_lightest_47
        ·
          exact absurd c_3 (by omega)
      ·
        refine lv_lload hx hb dC_lightest_17 (lv_at hl 3 rfl) ?_
        exact cj_retl () X hr V (by rw [cj_ll_nil, if_pos c_1, if_pos c_2]) dC_lightest_19
    ·
      refine lv_lload hx hb dC_lightest_8 (lv_at hl 4 rfl) ?_
      exact cj_retl () X hr V (by rw [cj_ll_nil, if_neg c_1]) dC_lightest_10
  | cons r M ih =>
    intro nx ms wt bs hnx hdr
    have hlt : nx < L.length := by
      rcases Nat.lt_or_ge nx L.length with h | h
      · exact h
      · rw [List.drop_eq_nil_iff.mpr h] at hdr
        cases hdr
    have hdc := List.drop_eq_getElem_cons hlt
    rw [hdr] at hdc
    injection hdc with hr0 hdr1
    have hdr2 : L.drop (nx + 1) = M := hdr1.symm
    have hgr := hG nx r (by rw [hr0]; exact List.getElem?_eq_getElem hlt)
    have hrs : rs nx = cj_or hz (r :: M) := by rw [hA nx (Nat.zero_le _) hnx, hdr]
    refine cj_ofl (by decide) (Nat.le_of_ble_eq_true rfl) ?_
    intro p e s m below meth c A ls X hr V hl
    obtain ⟨⟨hx, hb, hml, hown, hts⟩, hK, hlk⟩ := id X
    have hl : lv_has ls 10 [(0, .ref (ad 10)), (1, .int (nI nx)), (2, .long ms), (4, .long wt), (6, .long bs)] := hl
    refine lv_lload hx hb dC_lightest_0 (lv_at hl 3 rfl) ?_
    refine lv_lload hx hb dC_lightest_2 (lv_at hl 4 rfl) ?_
    refine cj_l_lt (tgt := 11) hx hb dC_lightest_4 dC_lightest_5 (by decide) (fun c_1 => ?_) (fun c_1 => ?_)
    ·
      refine lv_lload_n hx hb dC_lightest_11 rfl (lv_at hl 2 rfl) ?_
      refine lv_lconst (v := 0) hx hb dC_lightest_12 (by decide) ?_
      refine cj_l_ne (tgt := 20) hx hb dC_lightest_13 dC_lightest_14 (by decide) (fun c_2 => ?_) (fun c_2 => ?_)
      ·
        refine lv_iload_n hx hb dC_lightest_20 rfl (lv_at hl 1 rfl) ?_
        refine lv_aload_n hx hb dC_lightest_21 rfl (lv_at hl 0 rfl) ?_
        refine gD 0 X V fl_C_157 (by decide) rfl dC_lightest_22 ?_
        refine cj_n_ge (tgt := 45) hx hb dC_lightest_25 (by decide) (by omega) (by omega) (fun c_3 => ?_) (fun c_3 => ?_)
        ·
          exact absurd c_3 (by omega)
        ·
          refine lv_lload_n hx hb dC_lightest_28 rfl (lv_at hl 2 rfl) ?_
          refine lv_aload_n hx hb dC_lightest_29 rfl (lv_at hl 0 rfl) ?_
          refine gD 3 X V fl_C_124 (by decide) rfl dC_lightest_30 ?_
          refine lv_iload_n hx hb dC_lightest_33 rfl (lv_at hl 1 rfl) ?_
          refine rC_rs X V (by omega) dC_lightest_34 ?_
          refine cj_tl hrs ?_
          refine lv_ldc2 hx hb hown (hts _ kl_C_112) dC_lightest_35 ?_
          refine lv_lxor hx hb dC_lightest_38 ?_
          refine lv_land hx hb dC_lightest_39 ?_
          refine lv_lconst (v := 0) hx hb dC_lightest_40 (by decide) ?_
          refine cj_l_eq (tgt := 48) hx hb dC_lightest_41 dC_lightest_42 (by decide) (fun c_4 => ?_) (fun c_4 => ?_)
          ·
            refine lv_lload hx hb dC_lightest_48 (lv_at hl 4 rfl) ?_
            refine lv_lstore (lv' := [(8, .long bs), (0, .ref (ad 10)), (1, .int (nI nx)), (2, .long ms), (4, .long wt), (6, .long bs)]) hx hb dC_lightest_50 hl (by decide) rfl (fun ls hl => ?_)
            refine lv_lload_n hx hb dC_lightest_52 rfl (lv_at hl 3 rfl) ?_
            refine lv_aload_n hx hb dC_lightest_53 rfl (lv_at hl 1 rfl) ?_
            refine gD 1 X V fl_C_148 (by decide) rfl dC_lightest_54 ?_
            refine lv_iload_n hx hb dC_lightest_57 rfl (lv_at hl 2 rfl) ?_
            refine rC_hs X V (by omega) dC_lightest_58 ?_
            refine cj_tl hgr.1 ?_
            refine lv_land hx hb dC_lightest_59 ?_
            refine lv_lconst (v := 0) hx hb dC_lightest_60 (by decide) ?_
            refine cj_l_eq (tgt := 97) hx hb dC_lightest_61 dC_lightest_62 (by decide) (fun c_5 => ?_) (fun c_5 => ?_)
            ·
              refine lv_aload_n hx hb dC_lightest_97 rfl (lv_at hl 1 rfl) ?_
              refine lv_iload_n hx hb dC_lightest_98 rfl (lv_at hl 2 rfl) ?_
              refine lv_iconst (v := nI 1) hx hb dC_lightest_99 (by decide) ?_
              refine cj_iaddN hx hb dC_lightest_100 ?_
              refine lv_lload_n hx hb dC_lightest_101 rfl (lv_at hl 3 rfl) ?_
              refine lv_lload hx hb dC_lightest_102 (lv_at hl 4 rfl) ?_
              refine lv_lload hx hb dC_lightest_104 (lv_at hl 0 rfl) ?_
              refine cj_csl X V (ih (nx + 1) ms wt bs (by omega) hdr2) ml_C_129 st_C_lightest in_C cd_C_lightest hd_C_lightest ⟨Nat.le_refl _, by show 8 + (10 + 11) + 40 * M.length ≤ 40 * (M.length + 1); omega⟩ ⟨Nat.le_refl _, Nat.le_refl _⟩ hl.1 rfl (Nat.le_of_ble_eq_true rfl) dC_lightest_106 (fun r_9 u_9 H locs hw V => ?_)
              obtain rfl := hw
              exact cj_retl () X hr V (by rw [cj_ll_cons, if_pos c_1, if_neg c_2, if_pos c_4, if_pos c_5]) dC_lightest_109
            ·
              refine lv_aload_n hx hb dC_lightest_65 rfl (lv_at hl 1 rfl) ?_
              refine lv_iload_n hx hb dC_lightest_66 rfl (lv_at hl 2 rfl) ?_
              refine lv_iconst (v := nI 1) hx hb dC_lightest_67 (by decide) ?_
              refine cj_iaddN hx hb dC_lightest_68 ?_
              refine lv_lload_n hx hb dC_lightest_69 rfl (lv_at hl 3 rfl) ?_
              refine lv_aload_n hx hb dC_lightest_70 rfl (lv_at hl 1 rfl) ?_
              refine gD 1 X V fl_C_148 (by decide) rfl dC_lightest_71 ?_
              refine lv_iload_n hx hb dC_lightest_74 rfl (lv_at hl 2 rfl) ?_
              refine rC_hs X V (by omega) dC_lightest_75 ?_
              refine cj_tl hgr.1 ?_
              refine lv_ldc2 hx hb hown (hts _ kl_C_112) dC_lightest_76 ?_
              refine lv_lxor hx hb dC_lightest_79 ?_
              refine lv_land hx hb dC_lightest_80 ?_
              refine lv_lload hx hb dC_lightest_81 (lv_at hl 4 rfl) ?_
              refine lv_aload_n hx hb dC_lightest_83 rfl (lv_at hl 1 rfl) ?_
              refine gD 2 X V fl_C_151 (by decide) rfl dC_lightest_84 ?_
              refine lv_iload_n hx hb dC_lightest_87 rfl (lv_at hl 2 rfl) ?_
              refine rC_wg X V (by omega) dC_lightest_88 ?_
              refine cj_tl hgr.2 ?_
              refine lv_ladd hx hb dC_lightest_89 ?_
              refine lv_lload hx hb dC_lightest_90 (lv_at hl 0 rfl) ?_
              refine cj_csl X V (ih (nx + 1) (ms &&& ((hz r) ^^^ (-1))) (wt + (lN (cj_wt co r))) bs (by omega) hdr2) ml_C_129 st_C_lightest in_C cd_C_lightest hd_C_lightest ⟨Nat.le_refl _, by show 8 + (10 + 11) + 40 * M.length ≤ 40 * (M.length + 1); omega⟩ ⟨Nat.le_refl _, Nat.le_refl _⟩ hl.1 rfl (Nat.le_of_ble_eq_true rfl) dC_lightest_92 (fun r_9 u_9 H locs hw V => ?_)
              obtain rfl := hw
              refine lv_lstore (lv' := [(8, .long (cj_ll co hz M (ms &&& ((hz r) ^^^ (-1))) (wt + (lN (cj_wt co r))) bs)), (0, .ref (ad 10)), (1, .int (nI nx)), (2, .long ms), (4, .long wt), (6, .long bs)]) hx hb dC_lightest_95 hl (by decide) rfl (fun ls hl => ?_)
              refine lv_aload_n hx hb dC_lightest_97 rfl (lv_at hl 1 rfl) ?_
              refine lv_iload_n hx hb dC_lightest_98 rfl (lv_at hl 2 rfl) ?_
              refine lv_iconst (v := nI 1) hx hb dC_lightest_99 (by decide) ?_
              refine cj_iaddN hx hb dC_lightest_100 ?_
              refine lv_lload_n hx hb dC_lightest_101 rfl (lv_at hl 3 rfl) ?_
              refine lv_lload hx hb dC_lightest_102 (lv_at hl 4 rfl) ?_
              refine lv_lload hx hb dC_lightest_104 (lv_at hl 0 rfl) ?_
              refine cj_csl X V (ih (nx + 1) ms wt (cj_ll co hz M (ms &&& ((hz r) ^^^ (-1))) (wt + (lN (cj_wt co r))) bs) (by omega) hdr2) ml_C_129 st_C_lightest in_C cd_C_lightest hd_C_lightest ⟨Nat.le_refl _, by show 8 + (10 + 11) + 40 * M.length ≤ 40 * (M.length + 1); omega⟩ ⟨Nat.le_refl _, Nat.le_refl _⟩ hl.1 rfl (Nat.le_of_ble_eq_true rfl) dC_lightest_106 (fun r_9 u_9 H locs hw V => ?_)
              obtain rfl := hw
              exact cj_retl () X hr V (by rw [cj_ll_cons, if_pos c_1, if_neg c_2, if_pos c_4, if_neg c_5]) dC_lightest_109
          ·
            refine lv_lload hx hb dC_lightest_45 (lv_at hl 4 rfl) ?_
            exact cj_retl () X hr V (by rw [cj_ll_cons, if_pos c_1, if_neg c_2, if_neg c_4]) dC_lightest_47
      ·
        refine lv_lload hx hb dC_lightest_17 (lv_at hl 3 rfl) ?_
        exact cj_retl () X hr V (by rw [cj_ll_cons, if_pos c_1, if_pos c_2]) dC_lightest_19
    ·
      refine lv_lload hx hb dC_lightest_8 (lv_at hl 4 rfl) ?_
      exact cj_retl () X hr V (by rw [cj_ll_cons, if_neg c_1]) dC_lightest_10
set_option maxRecDepth 100000 in
set_option maxHeartbeats 4000000 in
theorem c_C_least (l : Launch) (D : va_G) (kd : Nat → ClassId) (ad : Nat → Nat) {E : Nat} {n : Nat → Nat} {cl : Nat → Bool} {con : Nat → Nat → Int32} {ow : Nat → Nat → Int64} {rn : Nat} {ed : Nat → Nat} {co : Nat → Nat} {hz : Nat → Int64} {mp : Nat → Nat → Nat} {pr : Nat → Int32} {cn : Nat} {hs : Nat → Int64} {wg : Nat → Int64} {rs : Nat → Int64} {ch : Int32} (hE : E ≤ 8) (hn : ∀ i, n i ≤ 40) (hR : rn ≤ 14) (hed : ∀ r, r < rn → ed r < E) (hco : ∀ r, co r ≤ 100000) (x : Int32) : cj_Mi (S := Int32 × Nat × (Nat → Int64) × (Nat → Int64) × (Nat → Int64)) l yC_least cC_least 4 (some .int) 20 D kd [.ref (ad 0), .int x] (wC kd ad E n cl con ow rn ed co hz mp pr cn hs wg rs ch) (fun r u => r = f_leastC E rn ed co hz x ∧ u.1 = c_leastC E rn ed co hz ch x) (fun u => wC kd ad E n cl con ow rn ed co hz mp pr u.2.1 u.2.2.1 u.2.2.2.1 u.2.2.2.2 u.1) := by
  refine cj_ofi (by decide) (Nat.le_of_ble_eq_true rfl) ?_
  intro p e s m below meth c A ls X hr V hl
  obtain ⟨⟨hx, hb, hml, hown, hts⟩, hK, hlk⟩ := id X
  have hl : lv_has ls 4 [(0, .ref (ad 0)), (1, .int x)] := hl
  refine lv_aload_n hx hb dC_least_0 rfl (lv_at hl 0 rfl) ?_
  refine lv_iload_n hx hb dC_least_1 rfl (lv_at hl 1 rfl) ?_
  refine cj_cvi X V (c_C_isEdition l D kd ad hE x) 0 1 rfl rfl rfl ml_C_60 im_C_isEdition se_C_isEdition in_C cd_C_isEdition hd_C_isEdition ⟨by decide, by decide⟩ ⟨Nat.le_refl _, Nat.le_refl _⟩ hl.1 rfl (Nat.le_of_ble_eq_true rfl) dC_least_2 (fun r_9 u_9 H locs hw V => ?_)
  rcases hw with ⟨rfl, j_1, hj_1, rfl⟩ | ⟨rfl, hj_1⟩
  ·
    have ij_1 := cj_ix_t hj_1 (show E < 2 ^ 31 by omega)
    refine lv_if_ne (tgt := 10) hx hb dC_least_5 (by decide) (fun _ => ?_) (fun h => absurd h (by decide))
    refine lv_aload_n hx hb dC_least_10 rfl (lv_at hl 0 rfl) ?_
    refine lv_iload_n hx hb dC_least_11 rfl (lv_at hl 1 rfl) ?_
    refine cj_cvv X V (c_C_gather l D kd ad hR hco (fun r h => by have := hed r h; omega) j_1 (by omega)) 0 1 rfl rfl rfl ml_C_120 im_C_gatherCandidates se_C_gatherCandidates in_C cd_C_gatherCandidates hd_C_gatherCandidates ⟨by decide, by decide⟩ ⟨Nat.le_refl _, Nat.le_refl _⟩ hl.1 rfl (Nat.le_of_ble_eq_true rfl) dC_least_12 (fun ug H locs hw V => ?_)
    obtain ⟨hc1, hg1, ha1⟩ := hw
    have hcl := cj_cd_len (ed := ed) (ea := j_1) rn
    refine lv_aload_n hx hb dC_least_15 rfl (lv_at hl 0 rfl) ?_
    refine gC 11 X V fl_C_53 (by decide) rfl dC_least_16 ?_
    refine lv_iconst (v := nI 0) hx hb dC_least_19 (by decide) ?_
    refine lv_aload_n hx hb dC_least_20 rfl (lv_at hl 0 rfl) ?_
    refine gC 11 X V fl_C_53 (by decide) rfl dC_least_21 ?_
    refine gD 3 X V fl_C_124 (by decide) rfl dC_least_24 ?_
    refine lv_iconst (v := nI 0) hx hb dC_least_27 (by decide) ?_
    refine rC_rs X V (by omega) dC_least_28 ?_
    refine cj_tl (ha1 0 (Nat.le_refl _) (Nat.zero_le _)) ?_
    rw [List.drop_zero]
    refine lv_lconst (v := 0) hx hb dC_least_29 (by decide) ?_
    refine lv_ldc2 hx hb hown (hts _ kl_C_127) dC_least_30 ?_
    refine cj_csl X V (c_C_lightest l D kd ad (cj_cd ed j_1 rn) (by omega) hc1 hg1 ha1 (cj_cd ed j_1 rn) 0 (cj_or hz (cj_cd ed j_1 rn)) 0 (9223372036854775807) (Nat.zero_le _) rfl) ml_C_129 st_C_lightest in_C cd_C_lightest hd_C_lightest ⟨by show (cj_cd ed j_1 rn).length + 1 ≤ 20; omega, by show 8 + (10 + 11) + 40 * (cj_cd ed j_1 rn).length ≤ 40 * 20; omega⟩ ⟨Nat.le_refl _, Nat.le_refl _⟩ hl.1 rfl (Nat.le_of_ble_eq_true rfl) dC_least_33 (fun r_9 u_9 H locs hw V => ?_)
    obtain rfl := hw
    refine lv_lstore_n (lv' := [(2, .long (cj_best ed co hz rn j_1)), (0, .ref (ad 0)), (1, .int (nI j_1))]) hx hb dC_least_36 rfl hl (by decide) rfl (fun ls hl => ?_)
    refine lv_aload_n hx hb dC_least_37 rfl (lv_at hl 1 rfl) ?_
    refine lv_lload_n hx hb dC_least_38 rfl (lv_at hl 0 rfl) ?_
    refine lv_ldc2 hx hb hown (hts _ kl_C_133) dC_least_39 ?_
    refine lv_land hx hb dC_least_42 ?_
    refine lv_l2i hx hb dC_least_43 rfl ?_
    refine pC_ch X V fl_C_57 dC_least_44 (fun H locs V => ?_)
    refine lv_lload_n hx hb dC_least_47 rfl (lv_at hl 0 rfl) ?_
    refine lv_bipush (v := nI 18) hx hb dC_least_48 (by decide) ?_
    refine lv_lshr hx hb dC_least_50 rfl ?_
    refine lv_l2i hx hb dC_least_51 rfl ?_
    exact cj_reti (((cj_best ed co hz rn j_1) &&& (16383)).toInt32, ug.1, ug.2.1, ug.2.2.1, ug.2.2.2) X hr V (by refine ⟨?_, ?_⟩; · { simp only [f_leastC, ij_1] }; · { simp only [c_leastC, ij_1] }) dC_least_52
  ·
    have ij_1 := cj_ix_f hj_1
    refine lv_if_ne (tgt := 10) hx hb dC_least_5 (by decide) (fun h => absurd (by decide) h) (fun _ => ?_)
    refine lv_iconst (v := (-1)) hx hb dC_least_8 (by decide) ?_
    exact cj_reti (ch, cn, hs, wg, rs) X hr V (by refine ⟨?_, ?_⟩; · { simp only [f_leastC, ij_1] }; · { simp only [c_leastC, ij_1] }) dC_least_9
