set_option maxRecDepth 100000 in
set_option maxHeartbeats 4000000 in
theorem c_C_run (l : Launch) (D : va_G) (kd : Nat → ClassId) (ad : Nat → Nat) {E : Nat} {n : Nat → Nat} {cl : Nat → Bool} {con : Nat → Nat → Int32} {ow : Nat → Nat → Int64} {rn : Nat} {ed : Nat → Nat} {co : Nat → Nat} {hz : Nat → Int64} {mp : Nat → Nat → Nat} {pr : Nat → Int32} {cn : Nat} {hs : Nat → Int64} {wg : Nat → Int64} {rs : Nat → Int64} {ch : Int32} (hE : E ≤ 8) (hn : ∀ i, n i ≤ 40) (hR : rn ≤ 14) (hed : ∀ r, r < rn → ed r < E) (hco : ∀ r, co r ≤ 100000) (x y : Int32) : cj_Mi (S := Nat × (Nat → Nat) × (Nat → Nat) × (Nat → Int64) × (Nat → Bool)) l yC_run cC_run 3 (some .int) 1 D kd [.ref (ad 0), .int x, .int y] (wC kd ad E n cl con ow rn ed co hz mp pr cn hs wg rs ch) (fun r u => r = f_add rn (o_run E rn x y) ∧ u = (a_rn rn (o_run E rn x y), a_ed rn ed (o_run E rn x y), a_co rn co (o_run E rn x y), a_hz rn hz (o_run E rn x y), a_cl cl (o_run E rn x y))) (fun u => wC kd ad E n u.2.2.2.2 con ow u.1 u.2.1 u.2.2.1 u.2.2.2.1 mp pr cn hs wg rs ch) := by
  refine cj_ofi (by decide) (Nat.le_of_ble_eq_true rfl) ?_
  intro p e s m below meth c A ls X hr V hl
  obtain ⟨⟨hx, hb, hml, hown, hts⟩, hK, hlk⟩ := id X
  have hl : lv_has ls 3 [(0, .ref (ad 0)), (1, .int x), (2, .int y)] := hl
  refine lv_aload_n hx hb dC_run_0 rfl (lv_at hl 0 rfl) ?_
  refine lv_iload_n hx hb dC_run_1 rfl (lv_at hl 1 rfl) ?_
  refine cj_cvi X V (c_C_isEdition l D kd ad hE x) 0 1 rfl rfl rfl ml_C_60 im_C_isEdition se_C_isEdition in_C cd_C_isEdition hd_C_isEdition ⟨by decide, by decide⟩ ⟨Nat.le_refl _, Nat.le_refl _⟩ hl.1 rfl (Nat.le_of_ble_eq_true rfl) dC_run_2 (fun r_9 u_9 H locs hw V => ?_)
  rcases hw with ⟨rfl, j_1, hj_1, rfl⟩ | ⟨rfl, hj_1⟩
  ·
    have ij_1 := cj_ix_t hj_1 (show E < 2 ^ 31 by omega)
    refine lv_if_eq (tgt := 18) hx hb dC_run_5 (by decide) (fun h => absurd h (by decide)) (fun _ => ?_)
    refine lv_iload_n hx hb dC_run_8 rfl (lv_at hl 2 rfl) ?_
    refine lv_if_lt (tgt := 18) hx hb dC_run_9 (by decide) (fun c_3 => ?_) (fun c_3 => ?_)
    ·
      have iy := cj_ix_f (cj_ixf0 (k := 100001) c_3 (by decide))
      refine lv_iconst (v := (-1)) hx hb dC_run_18 (by decide) ?_
      exact cj_reti (rn, ed, co, hz, cl) X hr V (by refine ⟨?_, ?_⟩ <;> first | (simp only [o_run, ij_1, c_3, iy]; done) | (simp only [o_run, ij_1, c_3, iy]; rfl)) dC_run_19
    ·
      refine lv_iload_n hx hb dC_run_12 rfl (lv_at hl 2 rfl) ?_
      refine lv_ldc hx hb hown (hts _ ko_C_71) dC_run_13 ?_
      refine cj_ti (z := nI 100000) (by decide) ?_
      refine lv_icmp_le (tgt := 20) hx hb dC_run_15 (by decide) (fun c_4 => ?_) (fun c_4 => ?_)
      ·
        obtain ⟨cy, hcy, rfl⟩ := cj_cost_t ‹¬ y < 0› c_4
        have iy := cj_ix_t hcy (by decide)
        refine lv_aload_n hx hb dC_run_20 rfl (lv_at hl 0 rfl) ?_
        refine lv_iload_n hx hb dC_run_21 rfl (lv_at hl 1 rfl) ?_
        refine lv_iload_n hx hb dC_run_22 rfl (lv_at hl 2 rfl) ?_
        refine lv_lconst (v := 0) hx hb dC_run_23 (by decide) ?_
        refine cj_cvi X V (c_C_addRun l D kd ad j_1 cy 0 hR (by omega)) 0 1 rfl rfl rfl ml_C_72 im_C_addRun se_C_addRun in_C cd_C_addRun hd_C_addRun ⟨by decide, by decide⟩ ⟨Nat.le_refl _, Nat.le_refl _⟩ hl.1 rfl (Nat.le_of_ble_eq_true rfl) dC_run_24 (fun r_9 u_9 H locs hw V => ?_)
        obtain ⟨rfl, rfl⟩ := hw
        exact cj_reti _ X hr V (by refine ⟨?_, ?_⟩ <;> first | (simp only [o_run, ij_1, iy]; done) | (simp only [o_run, ij_1, iy]; rfl)) dC_run_27
      ·
        have iy := cj_ix_f (cj_cost_f c_4)
        refine lv_iconst (v := (-1)) hx hb dC_run_18 (by decide) ?_
        exact cj_reti (rn, ed, co, hz, cl) X hr V (by refine ⟨?_, ?_⟩ <;> first | (simp only [o_run, ij_1, c_3, c_4, iy]; done) | (simp only [o_run, ij_1, c_3, c_4, iy]; rfl)) dC_run_19
  ·
    have ij_1 := cj_ix_f hj_1
    refine lv_if_eq (tgt := 18) hx hb dC_run_5 (by decide) (fun _ => ?_) (fun h => absurd (by decide) h)
    refine lv_iconst (v := (-1)) hx hb dC_run_18 (by decide) ?_
    exact cj_reti (rn, ed, co, hz, cl) X hr V (by refine ⟨?_, ?_⟩ <;> first | (simp only [o_run, ij_1]; done) | (simp only [o_run, ij_1]; rfl)) dC_run_19
set_option maxRecDepth 100000 in
set_option maxHeartbeats 4000000 in
theorem c_C_hit (l : Launch) (D : va_G) (kd : Nat → ClassId) (ad : Nat → Nat) {E : Nat} {n : Nat → Nat} {cl : Nat → Bool} {con : Nat → Nat → Int32} {ow : Nat → Nat → Int64} {rn : Nat} {ed : Nat → Nat} {co : Nat → Nat} {hz : Nat → Int64} {mp : Nat → Nat → Nat} {pr : Nat → Int32} {cn : Nat} {hs : Nat → Int64} {wg : Nat → Int64} {rs : Nat → Int64} {ch : Int32} (hE : E ≤ 8) (hn : ∀ i, n i ≤ 40) (hR : rn ≤ 14) (hed : ∀ r, r < rn → ed r < E) (hco : ∀ r, co r ≤ 100000) (x y : Int32) : cj_Mi (S := Nat → Int64) l yC_hit cC_hit 3 (some .boolean) 2 D kd [.ref (ad 0), .int x, .int y] (wC kd ad E n cl con ow rn ed co hz mp pr cn hs wg rs ch) (fun r u => r = f_hit (o_hit rn n ed hz x y) ∧ u = h_hit hz (o_hit rn n ed hz x y)) (fun u => wC kd ad E n cl con ow rn ed co u mp pr cn hs wg rs ch) := by
  refine cj_ofi (by decide) (Nat.le_of_ble_eq_true rfl) ?_
  intro p e s m below meth c A ls X hr V hl
  obtain ⟨⟨hx, hb, hml, hown, hts⟩, hK, hlk⟩ := id X
  have hl : lv_has ls 3 [(0, .ref (ad 0)), (1, .int x), (2, .int y)] := hl
  refine lv_aload_n hx hb dC_hit_0 rfl (lv_at hl 0 rfl) ?_
  refine lv_iload_n hx hb dC_hit_1 rfl (lv_at hl 1 rfl) ?_
  refine cj_cvi X V (c_C_isRun l D kd ad hR x) 0 1 rfl rfl rfl ml_C_76 im_C_isRun se_C_isRun in_C cd_C_isRun hd_C_isRun ⟨by decide, by decide⟩ ⟨Nat.le_refl _, Nat.le_refl _⟩ hl.1 rfl (Nat.le_of_ble_eq_true rfl) dC_hit_2 (fun r_9 u_9 H locs hw V => ?_)
  rcases hw with ⟨rfl, j_1, hj_1, rfl⟩ | ⟨rfl, hj_1⟩
  ·
    have ij_1 := cj_ix_t hj_1 (show rn < 2 ^ 31 by omega)
    refine lv_if_eq (tgt := 31) hx hb dC_hit_5 (by decide) (fun h => absurd h (by decide)) (fun _ => ?_)
    refine lv_aload_n hx hb dC_hit_8 rfl (lv_at hl 0 rfl) ?_
    refine lv_aload_n hx hb dC_hit_9 rfl (lv_at hl 0 rfl) ?_
    refine gC 6 X V fl_C_34 (by decide) rfl dC_hit_10 ?_
    refine lv_iload_n hx hb dC_hit_13 rfl (lv_at hl 1 rfl) ?_
    refine rC_ed X V (by omega) dC_hit_14 ?_
    have f_e_3 := hed j_1 (by omega)
    refine lv_iload_n hx hb dC_hit_15 rfl (lv_at hl 2 rfl) ?_
    refine cj_cvi X V (c_C_isLine l D kd ad (ed j_1) (by omega) (hn _) y) 0 1 rfl rfl rfl ml_C_79 im_C_isLine se_C_isLine in_C cd_C_isLine hd_C_isLine ⟨by decide, by decide⟩ ⟨Nat.le_refl _, Nat.le_refl _⟩ hl.1 rfl (Nat.le_of_ble_eq_true rfl) dC_hit_16 (fun r_9 u_9 H locs hw V => ?_)
    rcases hw with ⟨rfl, j_4, hj_4, rfl⟩ | ⟨rfl, hj_4⟩
    ·
      have fj_4 := hn (ed j_1)
      have ij_4 := cj_ix_t hj_4 (show n (ed j_1) < 2 ^ 31 by omega)
      refine lv_if_eq (tgt := 31) hx hb dC_hit_19 (by decide) (fun h => absurd h (by decide)) (fun _ => ?_)
      refine lv_aload_n hx hb dC_hit_22 rfl (lv_at hl 0 rfl) ?_
      refine lv_iload_n hx hb dC_hit_23 rfl (lv_at hl 1 rfl) ?_
      refine lv_iload_n hx hb dC_hit_24 rfl (lv_at hl 2 rfl) ?_
      refine cj_cvi X V (c_C_hitsLine l D kd ad j_1 j_4 (by omega) (by omega)) 0 1 rfl rfl rfl ml_C_83 im_C_hitsLine se_C_hitsLine in_C cd_C_hitsLine hd_C_hitsLine ⟨by decide, by decide⟩ ⟨Nat.le_refl _, Nat.le_refl _⟩ hl.1 rfl (Nat.le_of_ble_eq_true rfl) dC_hit_25 (fun r_9 u_9 H locs hw V => ?_)
      obtain rfl := hw
      refine cj_b_eq (tgt := 33) hx hb dC_hit_28 (by decide) (fun c_6 => ?_) (fun c_6 => ?_)
      ·
        refine lv_aload_n hx hb dC_hit_33 rfl (lv_at hl 0 rfl) ?_
        refine gC 8 X V fl_C_40 (by decide) rfl dC_hit_34 ?_
        refine lv_iload_n hx hb dC_hit_37 rfl (lv_at hl 1 rfl) ?_
        refine lv_dup2_11 hx hb dC_hit_38 rfl rfl ?_
        refine rC_hi X V (by omega) dC_hit_39 ?_
        refine lv_iload_n hx hb dC_hit_40 rfl (lv_at hl 2 rfl) ?_
        refine cj_csl X V (c_C_bitOf l D kd ad j_4 (by omega)) ml_C_67 st_C_bitOf in_C cd_C_bitOf hd_C_bitOf ⟨by decide, by decide⟩ ⟨Nat.le_refl _, Nat.le_refl _⟩ hl.1 rfl (Nat.le_of_ble_eq_true rfl) dC_hit_41 (fun r_9 u_9 H locs hw V => ?_)
        obtain rfl := hw
        refine lv_lor hx hb dC_hit_44 ?_
        refine sC_hi X V (by omega) dC_hit_45 (fun H locs V => ?_)
        refine lv_iconst (v := nI 1) hx hb dC_hit_46 (by decide) ?_
        exact cj_retz (va_up hz j_1 ((hz j_1) ||| (cj_bit j_4))) X hr V (by decide) (by refine ⟨?_, ?_⟩ <;> first | (simp only [o_hit, cond_true, cond_false, ij_1, ij_4, c_6]; done) | (simp only [o_hit, cond_true, cond_false, ij_1, ij_4, c_6]; rfl)) dC_hit_47
      ·
        refine lv_iconst (v := nI 0) hx hb dC_hit_31 (by decide) ?_
        exact cj_retz hz X hr V (by decide) (by refine ⟨?_, ?_⟩ <;> first | (simp only [o_hit, cond_true, cond_false, ij_1, ij_4, c_6]; done) | (simp only [o_hit, cond_true, cond_false, ij_1, ij_4, c_6]; rfl)) dC_hit_32
    ·
      have ij_4 := cj_ix_f hj_4
      refine lv_if_eq (tgt := 31) hx hb dC_hit_19 (by decide) (fun _ => ?_) (fun h => absurd (by decide) h)
      refine lv_iconst (v := nI 0) hx hb dC_hit_31 (by decide) ?_
      exact cj_retz hz X hr V (by decide) (by refine ⟨?_, ?_⟩ <;> first | (simp only [o_hit, cond_true, cond_false, ij_1, ij_4]; done) | (simp only [o_hit, cond_true, cond_false, ij_1, ij_4]; rfl)) dC_hit_32
  ·
    have ij_1 := cj_ix_f hj_1
    refine lv_if_eq (tgt := 31) hx hb dC_hit_5 (by decide) (fun _ => ?_) (fun h => absurd (by decide) h)
    refine lv_iconst (v := nI 0) hx hb dC_hit_31 (by decide) ?_
    exact cj_retz hz X hr V (by decide) (by refine ⟨?_, ?_⟩ <;> first | (simp only [o_hit, cond_true, cond_false, ij_1]; done) | (simp only [o_hit, cond_true, cond_false, ij_1]; rfl)) dC_hit_32
set_option maxRecDepth 100000 in
set_option maxHeartbeats 4000000 in
theorem c_C_join (l : Launch) (D : va_G) (kd : Nat → ClassId) (ad : Nat → Nat) {E : Nat} {n : Nat → Nat} {cl : Nat → Bool} {con : Nat → Nat → Int32} {ow : Nat → Nat → Int64} {rn : Nat} {ed : Nat → Nat} {co : Nat → Nat} {hz : Nat → Int64} {mp : Nat → Nat → Nat} {pr : Nat → Int32} {cn : Nat} {hs : Nat → Int64} {wg : Nat → Int64} {rs : Nat → Int64} {ch : Int32} (hE : E ≤ 8) (hn : ∀ i, n i ≤ 40) (hR : rn ≤ 14) (hed : ∀ r, r < rn → ed r < E) (hco : ∀ r, co r ≤ 100000) (x y : Int32) : cj_Mi (S := Nat × (Nat → Nat) × (Nat → Nat) × (Nat → Int64) × (Nat → Bool)) l yC_join cC_join 4 (some .int) 1 D kd [.ref (ad 0), .int x, .int y] (wC kd ad E n cl con ow rn ed co hz mp pr cn hs wg rs ch) (fun r u => r = f_add rn (o_join rn ed co hz x y) ∧ u = (a_rn rn (o_join rn ed co hz x y), a_ed rn ed (o_join rn ed co hz x y), a_co rn co (o_join rn ed co hz x y), a_hz rn hz (o_join rn ed co hz x y), a_cl cl (o_join rn ed co hz x y))) (fun u => wC kd ad E n u.2.2.2.2 con ow u.1 u.2.1 u.2.2.1 u.2.2.2.1 mp pr cn hs wg rs ch) := by
  refine cj_ofi (by decide) (Nat.le_of_ble_eq_true rfl) ?_
  intro p e s m below meth c A ls X hr V hl
  obtain ⟨⟨hx, hb, hml, hown, hts⟩, hK, hlk⟩ := id X
  have hl : lv_has ls 4 [(0, .ref (ad 0)), (1, .int x), (2, .int y)] := hl
  refine lv_aload_n hx hb dC_join_0 rfl (lv_at hl 0 rfl) ?_
  refine lv_iload_n hx hb dC_join_1 rfl (lv_at hl 1 rfl) ?_
  refine cj_cvi X V (c_C_isRun l D kd ad hR x) 0 1 rfl rfl rfl ml_C_76 im_C_isRun se_C_isRun in_C cd_C_isRun hd_C_isRun ⟨by decide, by decide⟩ ⟨Nat.le_refl _, Nat.le_refl _⟩ hl.1 rfl (Nat.le_of_ble_eq_true rfl) dC_join_2 (fun r_9 u_9 H locs hw V => ?_)
  rcases hw with ⟨rfl, j_1, hj_1, rfl⟩ | ⟨rfl, hj_1⟩
  ·
    have ij_1 := cj_ix_t hj_1 (show rn < 2 ^ 31 by omega)
    refine lv_if_eq (tgt := 31) hx hb dC_join_5 (by decide) (fun h => absurd h (by decide)) (fun _ => ?_)
    refine lv_aload_n hx hb dC_join_8 rfl (lv_at hl 0 rfl) ?_
    refine lv_iload_n hx hb dC_join_9 rfl (lv_at hl 2 rfl) ?_
    refine cj_cvi X V (c_C_isRun l D kd ad hR y) 0 1 rfl rfl rfl ml_C_76 im_C_isRun se_C_isRun in_C cd_C_isRun hd_C_isRun ⟨by decide, by decide⟩ ⟨Nat.le_refl _, Nat.le_refl _⟩ hl.1 rfl (Nat.le_of_ble_eq_true rfl) dC_join_10 (fun r_9 u_9 H locs hw V => ?_)
    rcases hw with ⟨rfl, j_3, hj_3, rfl⟩ | ⟨rfl, hj_3⟩
    ·
      have ij_3 := cj_ix_t hj_3 (show rn < 2 ^ 31 by omega)
      refine lv_if_eq (tgt := 31) hx hb dC_join_13 (by decide) (fun h => absurd h (by decide)) (fun _ => ?_)
      refine lv_aload_n hx hb dC_join_16 rfl (lv_at hl 0 rfl) ?_
      refine gC 6 X V fl_C_34 (by decide) rfl dC_join_17 ?_
      refine lv_iload_n hx hb dC_join_20 rfl (lv_at hl 1 rfl) ?_
      refine rC_ed X V (by omega) dC_join_21 ?_
      have f_e_5 := hed j_1 (by omega)
      refine lv_aload_n hx hb dC_join_22 rfl (lv_at hl 0 rfl) ?_
      refine gC 6 X V fl_C_34 (by decide) rfl dC_join_23 ?_
      refine lv_iload_n hx hb dC_join_26 rfl (lv_at hl 2 rfl) ?_
      refine rC_ed X V (by omega) dC_join_27 ?_
      have f_e_6 := hed j_3 (by omega)
      refine cj_n_eq (tgt := 33) hx hb dC_join_28 (by decide) (by omega) (by omega) (fun c_7 => ?_) (fun c_7 => ?_)
      ·
        refine lv_aload_n hx hb dC_join_33 rfl (lv_at hl 0 rfl) ?_
        refine gC 7 X V fl_C_37 (by decide) rfl dC_join_34 ?_
        refine lv_iload_n hx hb dC_join_37 rfl (lv_at hl 1 rfl) ?_
        refine rC_co X V (by omega) dC_join_38 ?_
        have f_e_8 := hco j_1
        refine lv_aload_n hx hb dC_join_39 rfl (lv_at hl 0 rfl) ?_
        refine gC 7 X V fl_C_37 (by decide) rfl dC_join_40 ?_
        refine lv_iload_n hx hb dC_join_43 rfl (lv_at hl 2 rfl) ?_
        refine rC_co X V (by omega) dC_join_44 ?_
        have f_e_9 := hco j_3
        refine cj_iaddN hx hb dC_join_45 ?_
        refine lv_ldc hx hb hown (hts _ ko_C_71) dC_join_46 ?_
        refine cj_ti (z := nI 100000) (by decide) ?_
        refine va_mmin hx hb (hml.trans hl.1.symm) hown (hts _ ml_C_94) (hts _ st_Q_min) (hts _ in_Q) (hts _ cd_Q_min) (by decide) (Nat.le_of_ble_eq_true rfl) (by decide) (by decide) dC_join_48 ?_
        refine cj_ti (cj_min (by omega) (by omega)) ?_
        refine lv_istore_n (lv' := [(3, .int (nI (min ((co j_1) + (co j_3)) 100000))), (0, .ref (ad 0)), (1, .int (nI j_1)), (2, .int (nI j_3))]) hx hb dC_join_51 rfl hl (by decide) rfl (fun ls hl => ?_)
        refine lv_aload_n hx hb dC_join_52 rfl (lv_at hl 1 rfl) ?_
        refine lv_aload_n hx hb dC_join_53 rfl (lv_at hl 1 rfl) ?_
        refine gC 6 X V fl_C_34 (by decide) rfl dC_join_54 ?_
        refine lv_iload_n hx hb dC_join_57 rfl (lv_at hl 2 rfl) ?_
        refine rC_ed X V (by omega) dC_join_58 ?_
        have f_e_10 := hed j_1 (by omega)
        refine lv_iload_n hx hb dC_join_59 rfl (lv_at hl 0 rfl) ?_
        refine lv_aload_n hx hb dC_join_60 rfl (lv_at hl 1 rfl) ?_
        refine gC 8 X V fl_C_40 (by decide) rfl dC_join_61 ?_
        refine lv_iload_n hx hb dC_join_64 rfl (lv_at hl 2 rfl) ?_
        refine rC_hi X V (by omega) dC_join_65 ?_
        refine lv_aload_n hx hb dC_join_66 rfl (lv_at hl 1 rfl) ?_
        refine gC 8 X V fl_C_40 (by decide) rfl dC_join_67 ?_
        refine lv_iload_n hx hb dC_join_70 rfl (lv_at hl 3 rfl) ?_
        refine rC_hi X V (by omega) dC_join_71 ?_
        refine lv_lor hx hb dC_join_72 ?_
        refine cj_cvi X V (c_C_addRun l D kd ad (ed j_1) (min ((co j_1) + (co j_3)) 100000) ((hz j_1) ||| (hz j_3)) hR (by omega)) 0 1 rfl rfl rfl ml_C_72 im_C_addRun se_C_addRun in_C cd_C_addRun hd_C_addRun ⟨by decide, by decide⟩ ⟨Nat.le_refl _, Nat.le_refl _⟩ hl.1 rfl (Nat.le_of_ble_eq_true rfl) dC_join_73 (fun r_9 u_9 H locs hw V => ?_)
        obtain ⟨rfl, rfl⟩ := hw
        exact cj_reti _ X hr V (by refine ⟨?_, ?_⟩ <;> first | (simp only [o_join, if_true, if_false, ne_eq, ij_1, ij_3, c_7]; done) | (simp only [o_join, if_true, if_false, ne_eq, ij_1, ij_3, c_7]; rfl)) dC_join_76
      ·
        refine lv_iconst (v := (-1)) hx hb dC_join_31 (by decide) ?_
        exact cj_reti (rn, ed, co, hz, cl) X hr V (by refine ⟨?_, ?_⟩ <;> first | (simp only [o_join, if_true, if_false, ne_eq, ij_1, ij_3, c_7]; done) | (simp only [o_join, if_true, if_false, ne_eq, ij_1, ij_3, c_7]; rfl)) dC_join_32
    ·
      have ij_3 := cj_ix_f hj_3
      refine lv_if_eq (tgt := 31) hx hb dC_join_13 (by decide) (fun _ => ?_) (fun h => absurd (by decide) h)
      refine lv_iconst (v := (-1)) hx hb dC_join_31 (by decide) ?_
      exact cj_reti (rn, ed, co, hz, cl) X hr V (by refine ⟨?_, ?_⟩ <;> first | (simp only [o_join, if_true, if_false, ne_eq, ij_1, ij_3]; done) | (simp only [o_join, if_true, if_false, ne_eq, ij_1, ij_3]; rfl)) dC_join_32
  ·
    have ij_1 := cj_ix_f hj_1
    refine lv_if_eq (tgt := 31) hx hb dC_join_5 (by decide) (fun _ => ?_) (fun h => absurd (by decide) h)
    refine lv_iconst (v := (-1)) hx hb dC_join_31 (by decide) ?_
    exact cj_reti (rn, ed, co, hz, cl) X hr V (by refine ⟨?_, ?_⟩ <;> first | (simp only [o_join, if_true, if_false, ne_eq, ij_1]; done) | (simp only [o_join, if_true, if_false, ne_eq, ij_1]; rfl)) dC_join_32
set_option maxRecDepth 100000 in
set_option maxHeartbeats 4000000 in
theorem c_C_about (l : Launch) (D : va_G) (kd : Nat → ClassId) (ad : Nat → Nat) {E : Nat} {n : Nat → Nat} {cl : Nat → Bool} {con : Nat → Nat → Int32} {ow : Nat → Nat → Int64} {rn : Nat} {ed : Nat → Nat} {co : Nat → Nat} {hz : Nat → Int64} {mp : Nat → Nat → Nat} {pr : Nat → Int32} {cn : Nat} {hs : Nat → Int64} {wg : Nat → Int64} {rs : Nat → Int64} {ch : Int32} (hE : E ≤ 8) (hn : ∀ i, n i ≤ 40) (hR : rn ≤ 14) (hed : ∀ r, r < rn → ed r < E) (hco : ∀ r, co r ≤ 100000) (x y : Int32) : cj_Mi (S := Unit) l yC_about cC_about 3 (some .int) 1 D kd [.ref (ad 0), .int x, .int y] (wC kd ad E n cl con ow rn ed co hz mp pr cn hs wg rs ch) (fun r _ => r = f_about rn ed co hz x y) (fun _ => wC kd ad E n cl con ow rn ed co hz mp pr cn hs wg rs ch) := by
  refine cj_ofi (by decide) (Nat.le_of_ble_eq_true rfl) ?_
  intro p e s m below meth c A ls X hr V hl
  obtain ⟨⟨hx, hb, hml, hown, hts⟩, hK, hlk⟩ := id X
  have hl : lv_has ls 3 [(0, .ref (ad 0)), (1, .int x), (2, .int y)] := hl
  refine lv_aload_n hx hb dC_about_0 rfl (lv_at hl 0 rfl) ?_
  refine lv_iload_n hx hb dC_about_1 rfl (lv_at hl 1 rfl) ?_
  refine cj_cvi X V (c_C_isRun l D kd ad hR x) 0 1 rfl rfl rfl ml_C_76 im_C_isRun se_C_isRun in_C cd_C_isRun hd_C_isRun ⟨by decide, by decide⟩ ⟨Nat.le_refl _, Nat.le_refl _⟩ hl.1 rfl (Nat.le_of_ble_eq_true rfl) dC_about_2 (fun r_9 u_9 H locs hw V => ?_)
  rcases hw with ⟨rfl, j_1, hj_1, rfl⟩ | ⟨rfl, hj_1⟩
  ·
    have ij_1 := cj_ix_t hj_1 (show rn < 2 ^ 31 by omega)
    refine lv_if_ne (tgt := 10) hx hb dC_about_5 (by decide) (fun _ => ?_) (fun h => absurd h (by decide))
    refine lv_iload_n hx hb dC_about_10 rfl (lv_at hl 2 rfl) ?_
    by_cases c_3 : y = nI 0
    ·
      subst c_3
      refine lv_tableIn (off := 25) (tgt := 36) hx hb dC_about_11 (by decide) (by decide) (by decide) (by decide) ?_
      refine lv_aload_n hx hb dC_about_36 rfl (lv_at hl 0 rfl) ?_
      refine gC 6 X V fl_C_34 (by decide) rfl dC_about_37 ?_
      refine lv_iload_n hx hb dC_about_40 rfl (lv_at hl 1 rfl) ?_
      refine rC_ed X V (by omega) dC_about_41 ?_
      have f_e_4 := hed j_1 (by omega)
      exact cj_reti () X hr V (by simp only [f_about, if_true, ij_1]; repeat (first | rfl | rw [if_neg (by decide)])) dC_about_42
    by_cases c_5 : y = nI 1
    ·
      subst c_5
      refine lv_tableIn (off := 32) (tgt := 43) hx hb dC_about_11 (by decide) (by decide) (by decide) (by decide) ?_
      refine lv_aload_n hx hb dC_about_43 rfl (lv_at hl 0 rfl) ?_
      refine gC 7 X V fl_C_37 (by decide) rfl dC_about_44 ?_
      refine lv_iload_n hx hb dC_about_47 rfl (lv_at hl 1 rfl) ?_
      refine rC_co X V (by omega) dC_about_48 ?_
      have f_e_6 := hco j_1
      exact cj_reti () X hr V (by simp only [f_about, if_true, ij_1]; repeat (first | rfl | rw [if_neg (by decide)])) dC_about_49
    by_cases c_7 : y = nI 2
    ·
      subst c_7
      refine lv_tableIn (off := 39) (tgt := 50) hx hb dC_about_11 (by decide) (by decide) (by decide) (by decide) ?_
      refine lv_aload_n hx hb dC_about_50 rfl (lv_at hl 0 rfl) ?_
      refine gC 8 X V fl_C_40 (by decide) rfl dC_about_51 ?_
      refine lv_iload_n hx hb dC_about_54 rfl (lv_at hl 1 rfl) ?_
      refine rC_hi X V (by omega) dC_about_55 ?_
      refine cj_csi X V (c_J_bitCount l D kd _ (hz j_1)) ml_C_114 st_J_bitCount in_J cd_J_bitCount hd_J_bitCount ⟨by decide, by decide⟩ ⟨Nat.le_refl _, Nat.le_refl _⟩ hl.1 rfl (Nat.le_of_ble_eq_true rfl) dC_about_56 (fun r_9 u_9 H locs hw V => ?_)
      obtain rfl := hw
      have f_q_8 := cj_pop_le (hz j_1)
      exact cj_reti () X hr V (by simp only [f_about, if_true, ij_1]; repeat (first | rfl | rw [if_neg (by decide)])) dC_about_59
    refine lv_tableOut (tgt := 60) hx hb dC_about_11 (cj_sw3 c_3 c_5 c_7) (by decide) ?_
    refine lv_iconst (v := (-1)) hx hb dC_about_60 (by decide) ?_
    exact cj_reti () X hr V (by simp only [f_about, if_true, ij_1]; rw [if_neg c_3, if_neg c_5, if_neg c_7]) dC_about_61
  ·
    have ij_1 := cj_ix_f hj_1
    refine lv_if_ne (tgt := 10) hx hb dC_about_5 (by decide) (fun h => absurd (by decide) h) (fun _ => ?_)
    refine lv_iconst (v := (-1)) hx hb dC_about_8 (by decide) ?_
    exact cj_reti () X hr V (by simp only [f_about, ij_1]) dC_about_9
set_option maxRecDepth 100000 in
set_option maxHeartbeats 4000000 in
theorem c_C_share (l : Launch) (D : va_G) (kd : Nat → ClassId) (ad : Nat → Nat) {E : Nat} {n : Nat → Nat} {cl : Nat → Bool} {con : Nat → Nat → Int32} {ow : Nat → Nat → Int64} {rn : Nat} {ed : Nat → Nat} {co : Nat → Nat} {hz : Nat → Int64} {mp : Nat → Nat → Nat} {pr : Nat → Int32} {cn : Nat} {hs : Nat → Int64} {wg : Nat → Int64} {rs : Nat → Int64} {ch : Int32} (hE : E ≤ 8) (hn : ∀ i, n i ≤ 40) (hR : rn ≤ 14) (hed : ∀ r, r < rn → ed r < E) (hco : ∀ r, co r ≤ 100000) (x z : Int32) (b : Bool) : cj_Mi (S := Unit) l yC_share cC_share 4 (some .int) 2 D kd [.ref (ad 0), .int x, .int z, .int (bI b)] (wC kd ad E n cl con ow rn ed co hz mp pr cn hs wg rs ch) (fun r _ => r = f_shareC rn ed ow hz x z b) (fun _ => wC kd ad E n cl con ow rn ed co hz mp pr cn hs wg rs ch) := by
  refine cj_ofi (by decide) (Nat.le_of_ble_eq_true rfl) ?_
  intro p e s m below meth c A ls X hr V hl
  obtain ⟨⟨hx, hb, hml, hown, hts⟩, hK, hlk⟩ := id X
  have hl : lv_has ls 4 [(0, .ref (ad 0)), (1, .int x), (2, .int z), (3, .int (bI b))] := hl
  refine lv_aload_n hx hb dC_share_0 rfl (lv_at hl 0 rfl) ?_
  refine lv_iload_n hx hb dC_share_1 rfl (lv_at hl 1 rfl) ?_
  refine cj_cvi X V (c_C_isRun l D kd ad hR x) 0 1 rfl rfl rfl ml_C_76 im_C_isRun se_C_isRun in_C cd_C_isRun hd_C_isRun ⟨by decide, by decide⟩ ⟨Nat.le_refl _, Nat.le_refl _⟩ hl.1 rfl (Nat.le_of_ble_eq_true rfl) dC_share_2 (fun r_9 u_9 H locs hw V => ?_)
  rcases hw with ⟨rfl, j_1, hj_1, rfl⟩ | ⟨rfl, hj_1⟩
  ·
    have ij_1 := cj_ix_t hj_1 (show rn < 2 ^ 31 by omega)
    refine lv_if_eq (tgt := 15) hx hb dC_share_5 (by decide) (fun h => absurd h (by decide)) (fun _ => ?_)
    refine lv_iload_n hx hb dC_share_8 rfl (lv_at hl 2 rfl) ?_
    refine cj_csi X V (c_C_isOwner l D kd ad  z) ml_C_64 st_C_isOwner in_C cd_C_isOwner hd_C_isOwner ⟨by decide, by decide⟩ ⟨Nat.le_refl _, Nat.le_refl _⟩ hl.1 rfl (Nat.le_of_ble_eq_true rfl) dC_share_9 (fun r_9 u_9 H locs hw V => ?_)
    rcases hw with ⟨rfl, j_3, hj_3, rfl⟩ | ⟨rfl, hj_3⟩
    ·
      have ij_3 := cj_ix_t hj_3 (show 4 < 2 ^ 31 by omega)
      refine lv_if_ne (tgt := 17) hx hb dC_share_12 (by decide) (fun _ => ?_) (fun h => absurd h (by decide))
      refine lv_iload_n hx hb dC_share_17 rfl (lv_at hl 3 rfl) ?_
      refine cj_b_eq (tgt := 30) hx hb dC_share_18 (by decide) (fun c_5 => ?_) (fun c_5 => ?_)
      ·
        refine lv_aload_n hx hb dC_share_30 rfl (lv_at hl 0 rfl) ?_
        refine lv_iload_n hx hb dC_share_31 rfl (lv_at hl 1 rfl) ?_
        refine lv_iload_n hx hb dC_share_32 rfl (lv_at hl 2 rfl) ?_
        refine cj_cvi X V (c_C_wholeShare l D kd ad j_1 j_3 (by omega) (by omega) (by have := hed j_1 (by omega); omega)) 0 1 rfl rfl rfl ml_C_103 im_C_wholeShare se_C_wholeShare in_C cd_C_wholeShare hd_C_wholeShare ⟨by decide, by decide⟩ ⟨Nat.le_refl _, Nat.le_refl _⟩ hl.1 rfl (Nat.le_of_ble_eq_true rfl) dC_share_33 (fun r_9 u_9 H locs hw V => ?_)
        obtain rfl := hw
        have f_q_6 := cj_pop_le (ow (ed j_1) j_3)
        exact cj_reti () X hr V (by simp only [f_shareC, ij_1, ij_3, c_5, cond_true, cond_false]) dC_share_36
      ·
        refine lv_aload_n hx hb dC_share_21 rfl (lv_at hl 0 rfl) ?_
        refine lv_iload_n hx hb dC_share_22 rfl (lv_at hl 1 rfl) ?_
        refine lv_iload_n hx hb dC_share_23 rfl (lv_at hl 2 rfl) ?_
        refine cj_cvi X V (c_C_hitShare l D kd ad j_1 j_3 (by omega) (by omega) (by have := hed j_1 (by omega); omega)) 0 1 rfl rfl rfl ml_C_100 im_C_hitShare se_C_hitShare in_C cd_C_hitShare hd_C_hitShare ⟨by decide, by decide⟩ ⟨Nat.le_refl _, Nat.le_refl _⟩ hl.1 rfl (Nat.le_of_ble_eq_true rfl) dC_share_24 (fun r_9 u_9 H locs hw V => ?_)
        obtain rfl := hw
        have f_q_7 := cj_pop_le (ow (ed j_1) j_3 &&& hz j_1)
        refine lv_goto (tgt := 36) hx hb dC_share_27 (by decide) ?_
        exact cj_reti () X hr V (by simp only [f_shareC, ij_1, ij_3, c_5, cond_true, cond_false]) dC_share_36
    ·
      have ij_3 := cj_ix_f hj_3
      refine lv_if_ne (tgt := 17) hx hb dC_share_12 (by decide) (fun h => absurd (by decide) h) (fun _ => ?_)
      refine lv_iconst (v := (-1)) hx hb dC_share_15 (by decide) ?_
      exact cj_reti () X hr V (by simp only [f_shareC, ij_1, ij_3, cond_true, cond_false]) dC_share_16
  ·
    have ij_1 := cj_ix_f hj_1
    refine lv_if_eq (tgt := 15) hx hb dC_share_5 (by decide) (fun _ => ?_) (fun h => absurd (by decide) h)
    refine lv_iconst (v := (-1)) hx hb dC_share_15 (by decide) ?_
    exact cj_reti () X hr V (by simp only [f_shareC, ij_1, cond_true, cond_false]) dC_share_16
set_option maxRecDepth 100000 in
set_option maxHeartbeats 4000000 in
theorem c_C_falls (l : Launch) (D : va_G) (kd : Nat → ClassId) (ad : Nat → Nat) {E : Nat} {n : Nat → Nat} {cl : Nat → Bool} {con : Nat → Nat → Int32} {ow : Nat → Nat → Int64} {rn : Nat} {ed : Nat → Nat} {co : Nat → Nat} {hz : Nat → Int64} {mp : Nat → Nat → Nat} {pr : Nat → Int32} {cn : Nat} {hs : Nat → Int64} {wg : Nat → Int64} {rs : Nat → Int64} {ch : Int32} (hE : E ≤ 8) (hn : ∀ i, n i ≤ 40) (hR : rn ≤ 14) (hed : ∀ r, r < rn → ed r < E) (hco : ∀ r, co r ≤ 100000) (x y z : Int32) : cj_Mi (S := Unit) l yC_falls cC_falls 6 (some .int) 2 D kd [.ref (ad 0), .int x, .int y, .int z] (wC kd ad E n cl con ow rn ed co hz mp pr cn hs wg rs ch) (fun r _ => r = f_fallsC rn ed ow hz x y z) (fun _ => wC kd ad E n cl con ow rn ed co hz mp pr cn hs wg rs ch) := by
  refine cj_ofi (by decide) (Nat.le_of_ble_eq_true rfl) ?_
  intro p e s m below meth c A ls X hr V hl
  obtain ⟨⟨hx, hb, hml, hown, hts⟩, hK, hlk⟩ := id X
  have hl : lv_has ls 6 [(0, .ref (ad 0)), (1, .int x), (2, .int y), (3, .int z)] := hl
  refine lv_aload_n hx hb dC_falls_0 rfl (lv_at hl 0 rfl) ?_
  refine lv_iload_n hx hb dC_falls_1 rfl (lv_at hl 1 rfl) ?_
  refine cj_cvi X V (c_C_isRun l D kd ad hR x) 0 1 rfl rfl rfl ml_C_76 im_C_isRun se_C_isRun in_C cd_C_isRun hd_C_isRun ⟨by decide, by decide⟩ ⟨Nat.le_refl _, Nat.le_refl _⟩ hl.1 rfl (Nat.le_of_ble_eq_true rfl) dC_falls_2 (fun r_9 u_9 H locs hw V => ?_)
  rcases hw with ⟨rfl, j_1, hj_1, rfl⟩ | ⟨rfl, hj_1⟩
  ·
    have ij_1 := cj_ix_t hj_1 (show rn < 2 ^ 31 by omega)
    refine lv_if_eq (tgt := 23) hx hb dC_falls_5 (by decide) (fun h => absurd h (by decide)) (fun _ => ?_)
    refine lv_aload_n hx hb dC_falls_8 rfl (lv_at hl 0 rfl) ?_
    refine lv_iload_n hx hb dC_falls_9 rfl (lv_at hl 2 rfl) ?_
    refine cj_cvi X V (c_C_isRun l D kd ad hR y) 0 1 rfl rfl rfl ml_C_76 im_C_isRun se_C_isRun in_C cd_C_isRun hd_C_isRun ⟨by decide, by decide⟩ ⟨Nat.le_refl _, Nat.le_refl _⟩ hl.1 rfl (Nat.le_of_ble_eq_true rfl) dC_falls_10 (fun r_9 u_9 H locs hw V => ?_)
    rcases hw with ⟨rfl, j_3, hj_3, rfl⟩ | ⟨rfl, hj_3⟩
    ·
      have ij_3 := cj_ix_t hj_3 (show rn < 2 ^ 31 by omega)
      refine lv_if_eq (tgt := 23) hx hb dC_falls_13 (by decide) (fun h => absurd h (by decide)) (fun _ => ?_)
      refine lv_iload_n hx hb dC_falls_16 rfl (lv_at hl 3 rfl) ?_
      refine cj_csi X V (c_C_isOwner l D kd ad  z) ml_C_64 st_C_isOwner in_C cd_C_isOwner hd_C_isOwner ⟨by decide, by decide⟩ ⟨Nat.le_refl _, Nat.le_refl _⟩ hl.1 rfl (Nat.le_of_ble_eq_true rfl) dC_falls_17 (fun r_9 u_9 H locs hw V => ?_)
      rcases hw with ⟨rfl, j_5, hj_5, rfl⟩ | ⟨rfl, hj_5⟩
      ·
        have ij_5 := cj_ix_t hj_5 (show 4 < 2 ^ 31 by omega)
        refine lv_if_ne (tgt := 26) hx hb dC_falls_20 (by decide) (fun _ => ?_) (fun h => absurd h (by decide))
        refine lv_aload_n hx hb dC_falls_26 rfl (lv_at hl 0 rfl) ?_
        refine lv_iload_n hx hb dC_falls_27 rfl (lv_at hl 1 rfl) ?_
        refine lv_iload_n hx hb dC_falls_28 rfl (lv_at hl 3 rfl) ?_
        refine cj_cvi X V (c_C_wholeShare l D kd ad j_1 j_5 (by omega) (by omega) (by have := hed j_1 (by omega); omega)) 0 1 rfl rfl rfl ml_C_103 im_C_wholeShare se_C_wholeShare in_C cd_C_wholeShare hd_C_wholeShare ⟨by decide, by decide⟩ ⟨Nat.le_refl _, Nat.le_refl _⟩ hl.1 rfl (Nat.le_of_ble_eq_true rfl) dC_falls_29 (fun r_9 u_9 H locs hw V => ?_)
        obtain rfl := hw
        have f_q_7 := cj_pop_le (ow (ed j_1) j_5)
        refine lv_istore (lv' := [(4, .int (nI (cj_pop (ow (ed j_1) j_5)))), (0, .ref (ad 0)), (1, .int (nI j_1)), (2, .int (nI j_3)), (3, .int (nI j_5))]) hx hb dC_falls_32 hl (by decide) rfl (fun ls hl => ?_)
        refine lv_aload_n hx hb dC_falls_34 rfl (lv_at hl 1 rfl) ?_
        refine lv_iload_n hx hb dC_falls_35 rfl (lv_at hl 3 rfl) ?_
        refine lv_iload_n hx hb dC_falls_36 rfl (lv_at hl 4 rfl) ?_
        refine cj_cvi X V (c_C_wholeShare l D kd ad j_3 j_5 (by omega) (by omega) (by have := hed j_3 (by omega); omega)) 0 1 rfl rfl rfl ml_C_103 im_C_wholeShare se_C_wholeShare in_C cd_C_wholeShare hd_C_wholeShare ⟨by decide, by decide⟩ ⟨Nat.le_refl _, Nat.le_refl _⟩ hl.1 rfl (Nat.le_of_ble_eq_true rfl) dC_falls_37 (fun r_9 u_9 H locs hw V => ?_)
        obtain rfl := hw
        have f_q_8 := cj_pop_le (ow (ed j_3) j_5)
        refine lv_istore (lv' := [(5, .int (nI (cj_pop (ow (ed j_3) j_5)))), (4, .int (nI (cj_pop (ow (ed j_1) j_5)))), (0, .ref (ad 0)), (1, .int (nI j_1)), (2, .int (nI j_3)), (3, .int (nI j_5))]) hx hb dC_falls_40 hl (by decide) rfl (fun ls hl => ?_)
        refine lv_iload hx hb dC_falls_42 (lv_at hl 1 rfl) ?_
        refine cj_z_eq (tgt := 52) hx hb dC_falls_44 (by decide) (by omega) (fun c_9 => ?_) (fun c_9 => ?_)
        ·
          refine lv_iconst (v := (-1)) hx hb dC_falls_52 (by decide) ?_
          exact cj_reti () X hr V (by simp only [f_fallsC, ij_1, ij_3, ij_5]; (first | rw [if_pos c_9] | rw [if_neg c_9] | rw [if_pos (by omega)] | rw [if_neg (by omega)])) dC_falls_53
        ·
          refine lv_iload hx hb dC_falls_47 (lv_at hl 0 rfl) ?_
          refine cj_z_ne (tgt := 54) hx hb dC_falls_49 (by decide) (by omega) (fun c_10 => ?_) (fun c_10 => ?_)
          ·
            refine lv_aload_n hx hb dC_falls_54 rfl (lv_at hl 2 rfl) ?_
            refine lv_iload_n hx hb dC_falls_55 rfl (lv_at hl 3 rfl) ?_
            refine lv_iload_n hx hb dC_falls_56 rfl (lv_at hl 5 rfl) ?_
            refine cj_cvi X V (c_C_hitShare l D kd ad j_1 j_5 (by omega) (by omega) (by have := hed j_1 (by omega); omega)) 0 1 rfl rfl rfl ml_C_100 im_C_hitShare se_C_hitShare in_C cd_C_hitShare hd_C_hitShare ⟨by decide, by decide⟩ ⟨Nat.le_refl _, Nat.le_refl _⟩ hl.1 rfl (Nat.le_of_ble_eq_true rfl) dC_falls_57 (fun r_9 u_9 H locs hw V => ?_)
            obtain rfl := hw
            have f_q_11 := cj_pop_le (ow (ed j_1) j_5 &&& hz j_1)
            refine lv_iload hx hb dC_falls_60 (lv_at hl 0 rfl) ?_
            refine cj_imulN hx hb dC_falls_62 ?_
            refine lv_aload_n hx hb dC_falls_63 rfl (lv_at hl 2 rfl) ?_
            refine lv_iload_n hx hb dC_falls_64 rfl (lv_at hl 4 rfl) ?_
            refine lv_iload_n hx hb dC_falls_65 rfl (lv_at hl 5 rfl) ?_
            refine cj_cvi X V (c_C_hitShare l D kd ad j_3 j_5 (by omega) (by omega) (by have := hed j_3 (by omega); omega)) 0 1 rfl rfl rfl ml_C_100 im_C_hitShare se_C_hitShare in_C cd_C_hitShare hd_C_hitShare ⟨by decide, by decide⟩ ⟨Nat.le_refl _, Nat.le_refl _⟩ hl.1 rfl (Nat.le_of_ble_eq_true rfl) dC_falls_66 (fun r_9 u_9 H locs hw V => ?_)
            obtain rfl := hw
            have f_q_12 := cj_pop_le (ow (ed j_3) j_5 &&& hz j_3)
            refine lv_iload hx hb dC_falls_69 (lv_at hl 1 rfl) ?_
            refine cj_imulN hx hb dC_falls_71 ?_
            have g_0 : (cj_pop (ow (ed j_3) j_5 &&& hz j_3)) * (cj_pop (ow (ed j_1) j_5)) ≤ 64 * 64 := Nat.mul_le_mul (cj_pop_le _) (cj_pop_le _)
            have g_1 : (cj_pop (ow (ed j_1) j_5 &&& hz j_1)) * (cj_pop (ow (ed j_3) j_5)) ≤ 64 * 64 := Nat.mul_le_mul (cj_pop_le _) (cj_pop_le _)
            refine cj_n_ge (tgt := 79) hx hb dC_falls_72 (by decide) (by omega) (by omega) (fun c_13 => ?_) (fun c_13 => ?_)
            ·
              refine lv_iconst (v := nI 0) hx hb dC_falls_79 (by decide) ?_
              exact cj_reti () X hr V (by simp only [f_fallsC, ij_1, ij_3, ij_5]; (first | rw [if_pos c_9] | rw [if_neg c_9] | rw [if_pos (by omega)] | rw [if_neg (by omega)]); (first | rw [if_pos c_10] | rw [if_neg c_10] | rw [if_pos (by omega)] | rw [if_neg (by omega)]); (first | rw [if_pos c_13] | rw [if_neg c_13] | rw [if_pos (by omega)] | rw [if_neg (by omega)])) dC_falls_80
            ·
              refine lv_iconst (v := nI 1) hx hb dC_falls_75 (by decide) ?_
              refine lv_goto (tgt := 80) hx hb dC_falls_76 (by decide) ?_
              exact cj_reti () X hr V (by simp only [f_fallsC, ij_1, ij_3, ij_5]; (first | rw [if_pos c_9] | rw [if_neg c_9] | rw [if_pos (by omega)] | rw [if_neg (by omega)]); (first | rw [if_pos c_10] | rw [if_neg c_10] | rw [if_pos (by omega)] | rw [if_neg (by omega)]); (first | rw [if_pos c_13] | rw [if_neg c_13] | rw [if_pos (by omega)] | rw [if_neg (by omega)])) dC_falls_80
          ·
            refine lv_iconst (v := (-1)) hx hb dC_falls_52 (by decide) ?_
            exact cj_reti () X hr V (by simp only [f_fallsC, ij_1, ij_3, ij_5]; (first | rw [if_pos c_9] | rw [if_neg c_9] | rw [if_pos (by omega)] | rw [if_neg (by omega)]); (first | rw [if_pos c_10] | rw [if_neg c_10] | rw [if_pos (by omega)] | rw [if_neg (by omega)])) dC_falls_53
      ·
        have ij_5 := cj_ix_f hj_5
        refine lv_if_ne (tgt := 26) hx hb dC_falls_20 (by decide) (fun h => absurd (by decide) h) (fun _ => ?_)
        refine lv_bipush (v := (-2)) hx hb dC_falls_23 (by decide) ?_
        exact cj_reti () X hr V (by simp only [f_fallsC, ij_1, ij_3, ij_5]) dC_falls_25
    ·
      have ij_3 := cj_ix_f hj_3
      refine lv_if_eq (tgt := 23) hx hb dC_falls_13 (by decide) (fun _ => ?_) (fun h => absurd (by decide) h)
      refine lv_bipush (v := (-2)) hx hb dC_falls_23 (by decide) ?_
      exact cj_reti () X hr V (by simp only [f_fallsC, ij_1, ij_3]) dC_falls_25
  ·
    have ij_1 := cj_ix_f hj_1
    refine lv_if_eq (tgt := 23) hx hb dC_falls_5 (by decide) (fun _ => ?_) (fun h => absurd (by decide) h)
    refine lv_bipush (v := (-2)) hx hb dC_falls_23 (by decide) ?_
    exact cj_reti () X hr V (by simp only [f_fallsC, ij_1]) dC_falls_25
set_option maxRecDepth 100000 in
set_option maxHeartbeats 4000000 in
theorem c_C_line (l : Launch) (D : va_G) (kd : Nat → ClassId) (ad : Nat → Nat) {E : Nat} {n : Nat → Nat} {cl : Nat → Bool} {con : Nat → Nat → Int32} {ow : Nat → Nat → Int64} {rn : Nat} {ed : Nat → Nat} {co : Nat → Nat} {hz : Nat → Int64} {mp : Nat → Nat → Nat} {pr : Nat → Int32} {cn : Nat} {hs : Nat → Int64} {wg : Nat → Int64} {rs : Nat → Int64} {ch : Int32} (hE : E ≤ 8) (hn : ∀ i, n i ≤ 40) (hR : rn ≤ 14) (hed : ∀ r, r < rn → ed r < E) (hco : ∀ r, co r ≤ 100000) (x y z : Int32) (g : Bool) : cj_Mi (S := (Nat → Nat) × (Nat → Nat → Int32) × (Nat → Nat → Int64)) l yC_line cC_line 6 (some .int) 1 D kd [.ref (ad 0), .int x, .int y, .int z, .int (bI g)] (wC kd ad E n cl con ow rn ed co hz mp pr cn hs wg rs ch) (fun r u => r = f_line n (o_line E n cl x z) ∧ u = (l_n n (o_line E n cl x z), l_con n con y (o_line E n cl x z), l_ow n ow g (o_line E n cl x z))) (fun u => wC kd ad E u.1 cl u.2.1 u.2.2 rn ed co hz mp pr cn hs wg rs ch) := by
  refine cj_ofi (by decide) (Nat.le_of_ble_eq_true rfl) ?_
  intro p e s m below meth c A ls X hr V hl
  obtain ⟨⟨hx, hb, hml, hown, hts⟩, hK, hlk⟩ := id X
  have hl : lv_has ls 6 [(0, .ref (ad 0)), (1, .int x), (2, .int y), (3, .int z), (4, .int (bI g))] := hl
  refine lv_aload_n hx hb dC_line_0 rfl (lv_at hl 0 rfl) ?_
  refine lv_iload_n hx hb dC_line_1 rfl (lv_at hl 1 rfl) ?_
  refine cj_cvi X V (c_C_isEdition l D kd ad hE x) 0 1 rfl rfl rfl ml_C_60 im_C_isEdition se_C_isEdition in_C cd_C_isEdition hd_C_isEdition ⟨by decide, by decide⟩ ⟨Nat.le_refl _, Nat.le_refl _⟩ hl.1 rfl (Nat.le_of_ble_eq_true rfl) dC_line_2 (fun r_9 u_9 H locs hw V => ?_)
  rcases hw with ⟨rfl, j_1, hj_1, rfl⟩ | ⟨rfl, hj_1⟩
  ·
    have ij_1 := cj_ix_t hj_1 (show E < 2 ^ 31 by omega)
    refine lv_if_eq (tgt := 24) hx hb dC_line_5 (by decide) (fun h => absurd h (by decide)) (fun _ => ?_)
    refine lv_iload_n hx hb dC_line_8 rfl (lv_at hl 3 rfl) ?_
    refine cj_csi X V (c_C_isOwner l D kd ad  z) ml_C_64 st_C_isOwner in_C cd_C_isOwner hd_C_isOwner ⟨by decide, by decide⟩ ⟨Nat.le_refl _, Nat.le_refl _⟩ hl.1 rfl (Nat.le_of_ble_eq_true rfl) dC_line_9 (fun r_9 u_9 H locs hw V => ?_)
    rcases hw with ⟨rfl, j_3, hj_3, rfl⟩ | ⟨rfl, hj_3⟩
    ·
      have ij_3 := cj_ix_t hj_3 (show 4 < 2 ^ 31 by omega)
      refine lv_if_eq (tgt := 24) hx hb dC_line_12 (by decide) (fun h => absurd h (by decide)) (fun _ => ?_)
      refine lv_aload_n hx hb dC_line_15 rfl (lv_at hl 0 rfl) ?_
      refine gC 2 X V fl_C_17 (by decide) rfl dC_line_16 ?_
      refine lv_iload_n hx hb dC_line_19 rfl (lv_at hl 1 rfl) ?_
      refine rC_cl X V (by omega) dC_line_20 ?_
      refine cj_b_eq (tgt := 26) hx hb dC_line_21 (by decide) (fun c_5 => ?_) (fun c_5 => ?_)
      ·
        refine lv_aload_n hx hb dC_line_26 rfl (lv_at hl 0 rfl) ?_
        refine gC 1 X V fl_C_13 (by decide) rfl dC_line_27 ?_
        refine lv_iload_n hx hb dC_line_30 rfl (lv_at hl 1 rfl) ?_
        refine rC_n X V (by omega) dC_line_31 ?_
        have f_e_6 := hn j_1
        refine lv_istore (lv' := [(5, .int (nI (n j_1))), (0, .ref (ad 0)), (1, .int (nI j_1)), (2, .int y), (3, .int (nI j_3)), (4, .int (bI g))]) hx hb dC_line_32 hl (by decide) rfl (fun ls hl => ?_)
        refine lv_iload hx hb dC_line_34 (lv_at hl 0 rfl) ?_
        refine lv_bipush (v := nI 40) hx hb dC_line_36 (by decide) ?_
        refine cj_n_lt (tgt := 43) hx hb dC_line_38 (by decide) (by omega) (by omega) (fun c_7 => ?_) (fun c_7 => ?_)
        ·
          refine lv_aload_n hx hb dC_line_43 rfl (lv_at hl 1 rfl) ?_
          refine gC 3 X V fl_C_23 (by decide) rfl dC_line_44 ?_
          refine lv_iload_n hx hb dC_line_47 rfl (lv_at hl 2 rfl) ?_
          refine rC_conO X V (by omega) dC_line_48 ?_
          refine lv_iload hx hb dC_line_49 (lv_at hl 0 rfl) ?_
          refine lv_iload_n hx hb dC_line_51 rfl (lv_at hl 3 rfl) ?_
          refine sC_conR X V (by omega) (by omega) dC_line_52 (fun H locs V => ?_)
          refine lv_iload hx hb dC_line_53 (lv_at hl 5 rfl) ?_
          refine cj_b_ne (tgt := 74) hx hb dC_line_55 (by decide) (fun c_8 => ?_) (fun c_8 => ?_)
          ·
            refine lv_aload_n hx hb dC_line_74 rfl (lv_at hl 1 rfl) ?_
            refine gC 1 X V fl_C_13 (by decide) rfl dC_line_75 ?_
            refine lv_iload_n hx hb dC_line_78 rfl (lv_at hl 2 rfl) ?_
            refine lv_iload hx hb dC_line_79 (lv_at hl 0 rfl) ?_
            refine lv_iconst (v := nI 1) hx hb dC_line_81 (by decide) ?_
            refine cj_iaddN hx hb dC_line_82 ?_
            refine sC_n X V (by omega) dC_line_83 (fun H locs V => ?_)
            refine lv_iload hx hb dC_line_84 (lv_at hl 0 rfl) ?_
            exact cj_reti (va_up n j_1 ((n j_1) + 1), va_up con j_1 (va_up (con j_1) (n j_1) y), ow) X hr V (by refine ⟨?_, ?_⟩ <;> first | (simp only [o_line, l_ow, l_con, l_n, f_line, cond_true, cond_false, ij_1, ij_3, c_5, c_8]; (first | rw [if_pos c_7] | rw [if_neg (by omega)]); done) | (simp only [o_line, l_ow, l_con, l_n, f_line, cond_true, cond_false, ij_1, ij_3, c_5, c_8]; (first | rw [if_pos c_7] | rw [if_neg (by omega)]); rfl)) dC_line_86
          ·
            refine lv_aload_n hx hb dC_line_58 rfl (lv_at hl 1 rfl) ?_
            refine gC 4 X V fl_C_28 (by decide) rfl dC_line_59 ?_
            refine lv_iload_n hx hb dC_line_62 rfl (lv_at hl 2 rfl) ?_
            refine rC_owO X V (by omega) dC_line_63 ?_
            refine lv_iload_n hx hb dC_line_64 rfl (lv_at hl 4 rfl) ?_
            refine lv_dup2_11 hx hb dC_line_65 rfl rfl ?_
            refine rC_owR X V (by omega) (by omega) dC_line_66 ?_
            refine lv_iload hx hb dC_line_67 (lv_at hl 0 rfl) ?_
            refine cj_csl X V (c_C_bitOf l D kd ad (n j_1) (by omega)) ml_C_67 st_C_bitOf in_C cd_C_bitOf hd_C_bitOf ⟨by decide, by decide⟩ ⟨Nat.le_refl _, Nat.le_refl _⟩ hl.1 rfl (Nat.le_of_ble_eq_true rfl) dC_line_69 (fun r_9 u_9 H locs hw V => ?_)
            obtain rfl := hw
            refine lv_lor hx hb dC_line_72 ?_
            refine sC_owR X V (by omega) (by omega) dC_line_73 (fun H locs V => ?_)
            refine lv_aload_n hx hb dC_line_74 rfl (lv_at hl 1 rfl) ?_
            refine gC 1 X V fl_C_13 (by decide) rfl dC_line_75 ?_
            refine lv_iload_n hx hb dC_line_78 rfl (lv_at hl 2 rfl) ?_
            refine lv_iload hx hb dC_line_79 (lv_at hl 0 rfl) ?_
            refine lv_iconst (v := nI 1) hx hb dC_line_81 (by decide) ?_
            refine cj_iaddN hx hb dC_line_82 ?_
            refine sC_n X V (by omega) dC_line_83 (fun H locs V => ?_)
            refine lv_iload hx hb dC_line_84 (lv_at hl 0 rfl) ?_
            exact cj_reti (va_up n j_1 ((n j_1) + 1), va_up con j_1 (va_up (con j_1) (n j_1) y), va_up ow j_1 (va_up (ow j_1) j_3 ((ow j_1 j_3) ||| (cj_bit (n j_1))))) X hr V (by refine ⟨?_, ?_⟩ <;> first | (simp only [o_line, l_ow, l_con, l_n, f_line, cond_true, cond_false, ij_1, ij_3, c_5, c_8]; (first | rw [if_pos c_7] | rw [if_neg (by omega)]); done) | (simp only [o_line, l_ow, l_con, l_n, f_line, cond_true, cond_false, ij_1, ij_3, c_5, c_8]; (first | rw [if_pos c_7] | rw [if_neg (by omega)]); rfl)) dC_line_86
        ·
          refine lv_iconst (v := (-1)) hx hb dC_line_41 (by decide) ?_
          exact cj_reti (n, con, ow) X hr V (by refine ⟨?_, ?_⟩ <;> first | (simp only [o_line, l_ow, l_con, l_n, f_line, cond_true, cond_false, ij_1, ij_3, c_5]; (first | rw [if_pos c_7] | rw [if_neg (by omega)]); done) | (simp only [o_line, l_ow, l_con, l_n, f_line, cond_true, cond_false, ij_1, ij_3, c_5]; (first | rw [if_pos c_7] | rw [if_neg (by omega)]); rfl)) dC_line_42
      ·
        refine lv_iconst (v := (-1)) hx hb dC_line_24 (by decide) ?_
        exact cj_reti (n, con, ow) X hr V (by refine ⟨?_, ?_⟩ <;> first | (simp only [o_line, l_ow, l_con, l_n, f_line, cond_true, cond_false, ij_1, ij_3, c_5]; done) | (simp only [o_line, l_ow, l_con, l_n, f_line, cond_true, cond_false, ij_1, ij_3, c_5]; rfl)) dC_line_25
    ·
      have ij_3 := cj_ix_f hj_3
      refine lv_if_eq (tgt := 24) hx hb dC_line_12 (by decide) (fun _ => ?_) (fun h => absurd (by decide) h)
      refine lv_iconst (v := (-1)) hx hb dC_line_24 (by decide) ?_
      exact cj_reti (n, con, ow) X hr V (by refine ⟨?_, ?_⟩ <;> first | (simp only [o_line, l_ow, l_con, l_n, f_line, cond_true, cond_false, ij_1, ij_3]; done) | (simp only [o_line, l_ow, l_con, l_n, f_line, cond_true, cond_false, ij_1, ij_3]; rfl)) dC_line_25
  ·
    have ij_1 := cj_ix_f hj_1
    refine lv_if_eq (tgt := 24) hx hb dC_line_5 (by decide) (fun _ => ?_) (fun h => absurd (by decide) h)
    refine lv_iconst (v := (-1)) hx hb dC_line_24 (by decide) ?_
    exact cj_reti (n, con, ow) X hr V (by refine ⟨?_, ?_⟩ <;> first | (simp only [o_line, l_ow, l_con, l_n, f_line, cond_true, cond_false, ij_1]; done) | (simp only [o_line, l_ow, l_con, l_n, f_line, cond_true, cond_false, ij_1]; rfl)) dC_line_25
