set_option maxRecDepth 100000 in
set_option maxHeartbeats 4000000 in
theorem c_C_map (l : Launch) (D : va_G) (kd : Nat → ClassId) (ad : Nat → Nat) {E : Nat} {n : Nat → Nat} {cl : Nat → Bool} {con : Nat → Nat → Int32} {ow : Nat → Nat → Int64} {rn : Nat} {ed : Nat → Nat} {co : Nat → Nat} {hz : Nat → Int64} {mp : Nat → Nat → Nat} {pr : Nat → Int32} {cn : Nat} {hs : Nat → Int64} {wg : Nat → Int64} {rs : Nat → Int64} {ch : Int32} (hE : E ≤ 8) (hn : ∀ i, n i ≤ 40) (hR : rn ≤ 14) (hed : ∀ r, r < rn → ed r < E) (hco : ∀ r, co r ≤ 100000) (x y : Int32) : cj_Mi (S := Nat × (Nat → Nat) × (Nat → Nat) × (Nat → Int64) × (Nat → Bool) × (Nat → Nat → Nat) × (Nat → Int32)) l yC_map cC_map 3 (some .int) 3 D kd [.ref (ad 0), .int x, .int y] (wC kd ad E n cl con ow rn ed co hz mp pr cn hs wg rs ch) (fun r u => r = f_add rn (o_map E rn n con ed co hz x y) ∧ u.1 = a_rn rn (o_map E rn n con ed co hz x y) ∧ u.2.1 = a_ed rn ed (o_map E rn n con ed co hz x y) ∧ u.2.2.1 = a_co rn co (o_map E rn n con ed co hz x y) ∧ u.2.2.2.1 = a_hz rn hz (o_map E rn n con ed co hz x y) ∧ u.2.2.2.2.1 = a_cl (k_cl cl (q_map E rn ed x y)) (o_map E rn n con ed co hz x y)) (fun u => wC kd ad E n u.2.2.2.2.1 con ow u.1 u.2.1 u.2.2.1 u.2.2.2.1 u.2.2.2.2.2.1 u.2.2.2.2.2.2 cn hs wg rs ch) := by
  refine cj_ofi (by decide) (Nat.le_of_ble_eq_true rfl) ?_
  intro p e s m below meth c A ls X hr V hl
  obtain ⟨⟨hx, hb, hml, hown, hts⟩, hK, hlk⟩ := id X
  have hl : lv_has ls 3 [(0, .ref (ad 0)), (1, .int x), (2, .int y)] := hl
  refine lv_aload_n hx hb dC_map_0 rfl (lv_at hl 0 rfl) ?_
  refine lv_iload_n hx hb dC_map_1 rfl (lv_at hl 1 rfl) ?_
  refine cj_cvi X V (c_C_isRun l D kd ad hR x) 0 1 rfl rfl rfl ml_C_76 im_C_isRun se_C_isRun in_C cd_C_isRun hd_C_isRun ⟨by decide, by decide⟩ ⟨Nat.le_refl _, Nat.le_refl _⟩ hl.1 rfl (Nat.le_of_ble_eq_true rfl) dC_map_2 (fun r_9 u_9 H locs hw V => ?_)
  rcases hw with ⟨rfl, j_1, hj_1, rfl⟩ | ⟨rfl, hj_1⟩
  ·
    have ij_1 := cj_ix_t hj_1 (show rn < 2 ^ 31 by omega)
    refine lv_if_eq (tgt := 25) hx hb dC_map_5 (by decide) (fun h => absurd h (by decide)) (fun _ => ?_)
    refine lv_aload_n hx hb dC_map_8 rfl (lv_at hl 0 rfl) ?_
    refine lv_iload_n hx hb dC_map_9 rfl (lv_at hl 2 rfl) ?_
    refine cj_cvi X V (c_C_isEdition l D kd ad hE y) 0 1 rfl rfl rfl ml_C_60 im_C_isEdition se_C_isEdition in_C cd_C_isEdition hd_C_isEdition ⟨by decide, by decide⟩ ⟨Nat.le_refl _, Nat.le_refl _⟩ hl.1 rfl (Nat.le_of_ble_eq_true rfl) dC_map_10 (fun r_9 u_9 H locs hw V => ?_)
    rcases hw with ⟨rfl, j_3, hj_3, rfl⟩ | ⟨rfl, hj_3⟩
    ·
      have ij_3 := cj_ix_t hj_3 (show E < 2 ^ 31 by omega)
      refine lv_if_eq (tgt := 25) hx hb dC_map_13 (by decide) (fun h => absurd h (by decide)) (fun _ => ?_)
      refine lv_aload_n hx hb dC_map_16 rfl (lv_at hl 0 rfl) ?_
      refine gC 5 X V fl_C_31 (by decide) rfl dC_map_17 ?_
      refine lv_bipush (v := nI 14) hx hb dC_map_20 (by decide) ?_
      refine cj_n_lt (tgt := 27) hx hb dC_map_22 (by decide) (by omega) (by omega) (fun c_5 => ?_) (fun c_5 => ?_)
      ·
        refine lv_aload_n hx hb dC_map_27 rfl (lv_at hl 0 rfl) ?_
        refine lv_aload_n hx hb dC_map_28 rfl (lv_at hl 0 rfl) ?_
        refine gC 6 X V fl_C_34 (by decide) rfl dC_map_29 ?_
        refine lv_iload_n hx hb dC_map_32 rfl (lv_at hl 1 rfl) ?_
        refine rC_ed X V (by omega) dC_map_33 ?_
        have f_e_6 := hed j_1 (by omega)
        refine lv_iload_n hx hb dC_map_34 rfl (lv_at hl 2 rfl) ?_
        refine cj_cvv X V (c_C_compare l D kd ad (ed j_1) j_3 (by omega) (by omega) hn) 0 1 rfl rfl rfl ml_C_86 im_C_compare se_C_compare in_C cd_C_compare hd_C_compare ⟨by decide, by decide⟩ ⟨Nat.le_refl _, Nat.le_refl _⟩ hl.1 rfl (Nat.le_of_ble_eq_true rfl) dC_map_35 (fun uc H locs hw V => ?_)
        have hP := hw
        refine lv_aload_n hx hb dC_map_38 rfl (lv_at hl 0 rfl) ?_
        refine lv_iload_n hx hb dC_map_39 rfl (lv_at hl 2 rfl) ?_
        refine lv_aload_n hx hb dC_map_40 rfl (lv_at hl 0 rfl) ?_
        refine gC 7 X V fl_C_37 (by decide) rfl dC_map_41 ?_
        refine lv_iload_n hx hb dC_map_44 rfl (lv_at hl 1 rfl) ?_
        refine rC_co X V (by omega) dC_map_45 ?_
        have f_e_7 := hco j_1
        refine lv_aload_n hx hb dC_map_46 rfl (lv_at hl 0 rfl) ?_
        refine lv_aload_n hx hb dC_map_47 rfl (lv_at hl 0 rfl) ?_
        refine gC 6 X V fl_C_34 (by decide) rfl dC_map_48 ?_
        refine lv_iload_n hx hb dC_map_51 rfl (lv_at hl 1 rfl) ?_
        refine rC_ed X V (by omega) dC_map_52 ?_
        have f_e_8 := hed j_1 (by omega)
        refine lv_aload_n hx hb dC_map_53 rfl (lv_at hl 0 rfl) ?_
        refine gC 8 X V fl_C_40 (by decide) rfl dC_map_54 ?_
        refine lv_iload_n hx hb dC_map_57 rfl (lv_at hl 1 rfl) ?_
        refine rC_hi X V (by omega) dC_map_58 ?_
        refine cj_cvl X V (c_C_pairsOf l D kd ad (ed j_1) (by omega) (hz j_1) (cj_pp (con (ed j_1)) (con j_3) (n (ed j_1)) (n j_3)) hn hP (fun i q h => by have h1 := cj_pp_lt h; have h2 := hn j_3; omega)) 0 1 rfl rfl rfl ml_C_90 im_C_pairsOf se_C_pairsOf in_C cd_C_pairsOf hd_C_pairsOf ⟨by decide, by decide⟩ ⟨Nat.le_refl _, Nat.le_refl _⟩ hl.1 rfl (Nat.le_of_ble_eq_true rfl) dC_map_59 (fun r_9 u_9 H locs hw V => ?_)
        obtain rfl := hw
        refine cj_cvi X V (c_C_addRun l D kd ad j_3 (co j_1) (cj_po (cj_pp (con (ed j_1)) (con j_3) (n (ed j_1)) (n j_3)) (hz j_1) (n (ed j_1))) hR (by omega)) 0 1 rfl rfl rfl ml_C_72 im_C_addRun se_C_addRun in_C cd_C_addRun hd_C_addRun ⟨by decide, by decide⟩ ⟨Nat.le_refl _, Nat.le_refl _⟩ hl.1 rfl (Nat.le_of_ble_eq_true rfl) dC_map_62 (fun r_9 ua H locs hw V => ?_)
        obtain ⟨rfl, rfl⟩ := hw
        exact cj_reti (a_rn rn (o_room rn j_3 (co j_1) (cj_po (cj_pp (con (ed j_1)) (con j_3) (n (ed j_1)) (n j_3)) (hz j_1) (n (ed j_1)))), a_ed rn ed (o_room rn j_3 (co j_1) (cj_po (cj_pp (con (ed j_1)) (con j_3) (n (ed j_1)) (n j_3)) (hz j_1) (n (ed j_1)))), a_co rn co (o_room rn j_3 (co j_1) (cj_po (cj_pp (con (ed j_1)) (con j_3) (n (ed j_1)) (n j_3)) (hz j_1) (n (ed j_1)))), a_hz rn hz (o_room rn j_3 (co j_1) (cj_po (cj_pp (con (ed j_1)) (con j_3) (n (ed j_1)) (n j_3)) (hz j_1) (n (ed j_1)))), a_cl (va_up (va_up cl (ed j_1) true) j_3 true) (o_room rn j_3 (co j_1) (cj_po (cj_pp (con (ed j_1)) (con j_3) (n (ed j_1)) (n j_3)) (hz j_1) (n (ed j_1)))), uc.1, uc.2) X hr V (by simp only [o_map, q_map, o_room, ij_1, ij_3, c_5, if_true]; refine ⟨?_, ?_, ?_, ?_, ?_, ?_⟩ <;> first | rfl | trivial) dC_map_65
      ·
        refine lv_iconst (v := (-1)) hx hb dC_map_25 (by decide) ?_
        exact cj_reti (rn, ed, co, hz, cl, mp, pr) X hr V (by simp only [o_map, q_map, ij_1, ij_3]; rw [if_neg (by omega), if_neg (by omega)]; refine ⟨?_, ?_, ?_, ?_, ?_, ?_⟩ <;> first | rfl | trivial) dC_map_26
    ·
      have ij_3 := cj_ix_f hj_3
      refine lv_if_eq (tgt := 25) hx hb dC_map_13 (by decide) (fun _ => ?_) (fun h => absurd (by decide) h)
      refine lv_iconst (v := (-1)) hx hb dC_map_25 (by decide) ?_
      exact cj_reti (rn, ed, co, hz, cl, mp, pr) X hr V (by simp only [o_map, q_map, ij_1, ij_3]; refine ⟨?_, ?_, ?_, ?_, ?_, ?_⟩ <;> first | rfl | trivial) dC_map_26
  ·
    have ij_1 := cj_ix_f hj_1
    refine lv_if_eq (tgt := 25) hx hb dC_map_5 (by decide) (fun _ => ?_) (fun h => absurd (by decide) h)
    refine lv_iconst (v := (-1)) hx hb dC_map_25 (by decide) ?_
    exact cj_reti (rn, ed, co, hz, cl, mp, pr) X hr V (by simp only [o_map, q_map, ij_1]; refine ⟨?_, ?_, ?_, ?_, ?_, ?_⟩ <;> first | rfl | trivial) dC_map_26
set_option maxRecDepth 100000 in
set_option maxHeartbeats 4000000 in
theorem c_C_same (l : Launch) (D : va_G) (kd : Nat → ClassId) (ad : Nat → Nat) {E : Nat} {n : Nat → Nat} {cl : Nat → Bool} {con : Nat → Nat → Int32} {ow : Nat → Nat → Int64} {rn : Nat} {ed : Nat → Nat} {co : Nat → Nat} {hz : Nat → Int64} {mp : Nat → Nat → Nat} {pr : Nat → Int32} {cn : Nat} {hs : Nat → Int64} {wg : Nat → Int64} {rs : Nat → Int64} {ch : Int32} (hE : E ≤ 8) (hn : ∀ i, n i ≤ 40) (hR : rn ≤ 14) (hed : ∀ r, r < rn → ed r < E) (hco : ∀ r, co r ≤ 100000) (x y z : Int32) : cj_Mi (S := (Nat → Bool) × (Nat → Nat → Nat) × (Nat → Int32)) l yC_same cC_same 4 (some .int) 3 D kd [.ref (ad 0), .int x, .int y, .int z] (wC kd ad E n cl con ow rn ed co hz mp pr cn hs wg rs ch) (fun r u => r = f_same E n con x y z ∧ u.1 = k_cl cl (q_same E n x y z)) (fun u => wC kd ad E n u.1 con ow rn ed co hz u.2.1 u.2.2 cn hs wg rs ch) := by
  refine cj_ofi (by decide) (Nat.le_of_ble_eq_true rfl) ?_
  intro p e s m below meth c A ls X hr V hl
  obtain ⟨⟨hx, hb, hml, hown, hts⟩, hK, hlk⟩ := id X
  have hl : lv_has ls 4 [(0, .ref (ad 0)), (1, .int x), (2, .int y), (3, .int z)] := hl
  refine lv_aload_n hx hb dC_same_0 rfl (lv_at hl 0 rfl) ?_
  refine lv_iload_n hx hb dC_same_1 rfl (lv_at hl 1 rfl) ?_
  refine cj_cvi X V (c_C_isEdition l D kd ad hE x) 0 1 rfl rfl rfl ml_C_60 im_C_isEdition se_C_isEdition in_C cd_C_isEdition hd_C_isEdition ⟨by decide, by decide⟩ ⟨Nat.le_refl _, Nat.le_refl _⟩ hl.1 rfl (Nat.le_of_ble_eq_true rfl) dC_same_2 (fun r_9 u_9 H locs hw V => ?_)
  rcases hw with ⟨rfl, j_1, hj_1, rfl⟩ | ⟨rfl, hj_1⟩
  ·
    have ij_1 := cj_ix_t hj_1 (show E < 2 ^ 31 by omega)
    refine lv_if_eq (tgt := 25) hx hb dC_same_5 (by decide) (fun h => absurd h (by decide)) (fun _ => ?_)
    refine lv_aload_n hx hb dC_same_8 rfl (lv_at hl 0 rfl) ?_
    refine lv_iload_n hx hb dC_same_9 rfl (lv_at hl 2 rfl) ?_
    refine cj_cvi X V (c_C_isEdition l D kd ad hE y) 0 1 rfl rfl rfl ml_C_60 im_C_isEdition se_C_isEdition in_C cd_C_isEdition hd_C_isEdition ⟨by decide, by decide⟩ ⟨Nat.le_refl _, Nat.le_refl _⟩ hl.1 rfl (Nat.le_of_ble_eq_true rfl) dC_same_10 (fun r_9 u_9 H locs hw V => ?_)
    rcases hw with ⟨rfl, j_3, hj_3, rfl⟩ | ⟨rfl, hj_3⟩
    ·
      have ij_3 := cj_ix_t hj_3 (show E < 2 ^ 31 by omega)
      refine lv_if_eq (tgt := 25) hx hb dC_same_13 (by decide) (fun h => absurd h (by decide)) (fun _ => ?_)
      refine lv_aload_n hx hb dC_same_16 rfl (lv_at hl 0 rfl) ?_
      refine lv_iload_n hx hb dC_same_17 rfl (lv_at hl 1 rfl) ?_
      refine lv_iload_n hx hb dC_same_18 rfl (lv_at hl 3 rfl) ?_
      refine cj_cvi X V (c_C_isLine l D kd ad j_1 (by omega) (hn _) z) 0 1 rfl rfl rfl ml_C_79 im_C_isLine se_C_isLine in_C cd_C_isLine hd_C_isLine ⟨by decide, by decide⟩ ⟨Nat.le_refl _, Nat.le_refl _⟩ hl.1 rfl (Nat.le_of_ble_eq_true rfl) dC_same_19 (fun r_9 u_9 H locs hw V => ?_)
      rcases hw with ⟨rfl, j_5, hj_5, rfl⟩ | ⟨rfl, hj_5⟩
      ·
        have fj_5 := hn j_1
        have ij_5 := cj_ix_t hj_5 (show n j_1 < 2 ^ 31 by omega)
        refine lv_if_ne (tgt := 27) hx hb dC_same_22 (by decide) (fun _ => ?_) (fun h => absurd h (by decide))
        refine lv_aload_n hx hb dC_same_27 rfl (lv_at hl 0 rfl) ?_
        refine lv_iload_n hx hb dC_same_28 rfl (lv_at hl 1 rfl) ?_
        refine lv_iload_n hx hb dC_same_29 rfl (lv_at hl 2 rfl) ?_
        refine cj_cvv X V (c_C_compare l D kd ad j_1 j_3 (by omega) (by omega) hn) 0 1 rfl rfl rfl ml_C_86 im_C_compare se_C_compare in_C cd_C_compare hd_C_compare ⟨by decide, by decide⟩ ⟨Nat.le_refl _, Nat.le_refl _⟩ hl.1 rfl (Nat.le_of_ble_eq_true rfl) dC_same_30 (fun uc H locs hw V => ?_)
        have hP := hw
        refine lv_aload_n hx hb dC_same_33 rfl (lv_at hl 0 rfl) ?_
        refine gC 10 X V fl_C_47 (by decide) rfl dC_same_34 ?_
        refine lv_iload_n hx hb dC_same_37 rfl (lv_at hl 3 rfl) ?_
        refine rC_pr X V (by omega) dC_same_38 ?_
        exact cj_reti (va_up (va_up cl j_1 true) j_3 true, uc.1, uc.2) X hr V (by refine ⟨?_, ?_⟩; · { simp only [f_same, ij_1, ij_3, ij_5]; exact hP j_5 (by omega) }; · { simp only [q_same, ij_1, ij_3, ij_5]; rfl }) dC_same_39
      ·
        have ij_5 := cj_ix_f hj_5
        refine lv_if_ne (tgt := 27) hx hb dC_same_22 (by decide) (fun h => absurd (by decide) h) (fun _ => ?_)
        refine lv_iconst (v := (-1)) hx hb dC_same_25 (by decide) ?_
        exact cj_reti (cl, mp, pr) X hr V (by refine ⟨?_, ?_⟩; · { simp only [f_same, ij_1, ij_3, ij_5] }; · { simp only [q_same, ij_1, ij_3, ij_5]; rfl }) dC_same_26
    ·
      have ij_3 := cj_ix_f hj_3
      refine lv_if_eq (tgt := 25) hx hb dC_same_13 (by decide) (fun _ => ?_) (fun h => absurd (by decide) h)
      refine lv_iconst (v := (-1)) hx hb dC_same_25 (by decide) ?_
      exact cj_reti (cl, mp, pr) X hr V (by refine ⟨?_, ?_⟩; · { simp only [f_same, ij_1, ij_3] }; · { simp only [q_same, ij_1, ij_3]; rfl }) dC_same_26
  ·
    have ij_1 := cj_ix_f hj_1
    refine lv_if_eq (tgt := 25) hx hb dC_same_5 (by decide) (fun _ => ?_) (fun h => absurd (by decide) h)
    refine lv_iconst (v := (-1)) hx hb dC_same_25 (by decide) ?_
    exact cj_reti (cl, mp, pr) X hr V (by refine ⟨?_, ?_⟩; · { simp only [f_same, ij_1] }; · { simp only [q_same, ij_1]; rfl }) dC_same_26
set_option maxRecDepth 100000 in
set_option maxHeartbeats 4000000 in
theorem c_C_fresh (l : Launch) (D : va_G) (kd : Nat → ClassId) (ad : Nat → Nat) {E : Nat} {n : Nat → Nat} {cl : Nat → Bool} {con : Nat → Nat → Int32} {ow : Nat → Nat → Int64} {rn : Nat} {ed : Nat → Nat} {co : Nat → Nat} {hz : Nat → Int64} {mp : Nat → Nat → Nat} {pr : Nat → Int32} {cn : Nat} {hs : Nat → Int64} {wg : Nat → Int64} {rs : Nat → Int64} {ch : Int32} (hE : E ≤ 8) (hn : ∀ i, n i ≤ 40) (hR : rn ≤ 14) (hed : ∀ r, r < rn → ed r < E) (hco : ∀ r, co r ≤ 100000) (x y : Int32) (b : Bool) : cj_Mi (S := (Nat → Bool) × (Nat → Nat → Nat) × (Nat → Int32)) l yC_fresh cC_fresh 7 (some .int) 3 D kd [.ref (ad 0), .int x, .int y, .int (bI b)] (wC kd ad E n cl con ow rn ed co hz mp pr cn hs wg rs ch) (fun r u => r = f_freshC E rn n con ow ed hz x y b ∧ u.1 = k_cl cl (q_fresh E rn ed x y)) (fun u => wC kd ad E n u.1 con ow rn ed co hz u.2.1 u.2.2 cn hs wg rs ch) := by
  refine cj_ofi (by decide) (Nat.le_of_ble_eq_true rfl) ?_
  intro p e s m below meth c A ls X hr V hl
  obtain ⟨⟨hx, hb, hml, hown, hts⟩, hK, hlk⟩ := id X
  have hl : lv_has ls 7 [(0, .ref (ad 0)), (1, .int x), (2, .int y), (3, .int (bI b))] := hl
  refine lv_aload_n hx hb dC_fresh_0 rfl (lv_at hl 0 rfl) ?_
  refine lv_iload_n hx hb dC_fresh_1 rfl (lv_at hl 1 rfl) ?_
  refine cj_cvi X V (c_C_isRun l D kd ad hR x) 0 1 rfl rfl rfl ml_C_76 im_C_isRun se_C_isRun in_C cd_C_isRun hd_C_isRun ⟨by decide, by decide⟩ ⟨Nat.le_refl _, Nat.le_refl _⟩ hl.1 rfl (Nat.le_of_ble_eq_true rfl) dC_fresh_2 (fun r_9 u_9 H locs hw V => ?_)
  rcases hw with ⟨rfl, j_1, hj_1, rfl⟩ | ⟨rfl, hj_1⟩
  ·
    have ij_1 := cj_ix_t hj_1 (show rn < 2 ^ 31 by omega)
    refine lv_if_eq (tgt := 16) hx hb dC_fresh_5 (by decide) (fun h => absurd h (by decide)) (fun _ => ?_)
    refine lv_aload_n hx hb dC_fresh_8 rfl (lv_at hl 0 rfl) ?_
    refine lv_iload_n hx hb dC_fresh_9 rfl (lv_at hl 2 rfl) ?_
    refine cj_cvi X V (c_C_isEdition l D kd ad hE y) 0 1 rfl rfl rfl ml_C_60 im_C_isEdition se_C_isEdition in_C cd_C_isEdition hd_C_isEdition ⟨by decide, by decide⟩ ⟨Nat.le_refl _, Nat.le_refl _⟩ hl.1 rfl (Nat.le_of_ble_eq_true rfl) dC_fresh_10 (fun r_9 u_9 H locs hw V => ?_)
    rcases hw with ⟨rfl, j_3, hj_3, rfl⟩ | ⟨rfl, hj_3⟩
    ·
      have ij_3 := cj_ix_t hj_3 (show E < 2 ^ 31 by omega)
      refine lv_if_ne (tgt := 18) hx hb dC_fresh_13 (by decide) (fun _ => ?_) (fun h => absurd h (by decide))
      refine lv_aload_n hx hb dC_fresh_18 rfl (lv_at hl 0 rfl) ?_
      refine gC 6 X V fl_C_34 (by decide) rfl dC_fresh_19 ?_
      refine lv_iload_n hx hb dC_fresh_22 rfl (lv_at hl 1 rfl) ?_
      refine rC_ed X V (by omega) dC_fresh_23 ?_
      have f_e_5 := hed j_1 (by omega)
      refine lv_istore (lv' := [(4, .int (nI (ed j_1))), (0, .ref (ad 0)), (1, .int (nI j_1)), (2, .int (nI j_3)), (3, .int (bI b))]) hx hb dC_fresh_24 hl (by decide) rfl (fun ls hl => ?_)
      refine lv_aload_n hx hb dC_fresh_26 rfl (lv_at hl 1 rfl) ?_
      refine lv_iload_n hx hb dC_fresh_27 rfl (lv_at hl 3 rfl) ?_
      refine lv_iload hx hb dC_fresh_28 (lv_at hl 0 rfl) ?_
      refine cj_cvv X V (c_C_compare l D kd ad j_3 (ed j_1) (by omega) (by omega) hn) 0 1 rfl rfl rfl ml_C_86 im_C_compare se_C_compare in_C cd_C_compare hd_C_compare ⟨by decide, by decide⟩ ⟨Nat.le_refl _, Nat.le_refl _⟩ hl.1 rfl (Nat.le_of_ble_eq_true rfl) dC_fresh_30 (fun uc H locs hw V => ?_)
      have hP := hw
      refine lv_aload_n hx hb dC_fresh_33 rfl (lv_at hl 1 rfl) ?_
      refine lv_iload hx hb dC_fresh_34 (lv_at hl 0 rfl) ?_
      refine cj_cvl X V (c_C_ungenerated l D kd ad (ed j_1) (by omega)) 0 1 rfl rfl rfl ml_C_106 im_C_ungenerated se_C_ungenerated in_C cd_C_ungenerated hd_C_ungenerated ⟨by decide, by decide⟩ ⟨Nat.le_refl _, Nat.le_refl _⟩ hl.1 rfl (Nat.le_of_ble_eq_true rfl) dC_fresh_36 (fun r_9 u_9 H locs hw V => ?_)
      obtain rfl := hw
      refine lv_aload_n hx hb dC_fresh_39 rfl (lv_at hl 1 rfl) ?_
      refine lv_iload_n hx hb dC_fresh_40 rfl (lv_at hl 3 rfl) ?_
      refine lv_aload_n hx hb dC_fresh_41 rfl (lv_at hl 1 rfl) ?_
      refine gC 1 X V fl_C_13 (by decide) rfl dC_fresh_42 ?_
      refine lv_iload_n hx hb dC_fresh_45 rfl (lv_at hl 3 rfl) ?_
      refine rC_n X V (by omega) dC_fresh_46 ?_
      have f_e_6 := hn j_3
      refine cj_csl X V (c_C_firstBits l D kd ad (n j_3) (by omega)) ml_C_109 st_C_firstBits in_C cd_C_firstBits hd_C_firstBits ⟨by decide, by decide⟩ ⟨Nat.le_refl _, Nat.le_refl _⟩ hl.1 rfl (Nat.le_of_ble_eq_true rfl) dC_fresh_47 (fun r_9 u_9 H locs hw V => ?_)
      obtain rfl := hw
      refine cj_cvl X V (c_C_pairsOf l D kd ad j_3 (by omega) (cj_bit (n j_3) - lN 1) (cj_pp (con j_3) (con (ed j_1)) (n j_3) (n (ed j_1))) hn hP (fun i q h => by have h1 := cj_pp_lt h; have h2 := hn (ed j_1); omega)) 0 1 rfl rfl rfl ml_C_90 im_C_pairsOf se_C_pairsOf in_C cd_C_pairsOf hd_C_pairsOf ⟨by decide, by decide⟩ ⟨Nat.le_refl _, Nat.le_refl _⟩ hl.1 rfl (Nat.le_of_ble_eq_true rfl) dC_fresh_50 (fun r_9 u_9 H locs hw V => ?_)
      obtain rfl := hw
      refine lv_ldc2 hx hb hown (hts _ kl_C_112) dC_fresh_53 ?_
      refine lv_lxor hx hb dC_fresh_56 ?_
      refine lv_land hx hb dC_fresh_57 ?_
      refine lv_lstore (lv' := [(5, .long ((cj_ug ow (ed j_1) 4) &&& ((cj_po (cj_pp (con j_3) (con (ed j_1)) (n j_3) (n (ed j_1))) (cj_bit (n j_3) - lN 1) (n j_3)) ^^^ (-1)))), (4, .int (nI (ed j_1))), (0, .ref (ad 0)), (1, .int (nI j_1)), (2, .int (nI j_3)), (3, .int (bI b))]) hx hb dC_fresh_58 hl (by decide) rfl (fun ls hl => ?_)
      refine lv_iload_n hx hb dC_fresh_60 rfl (lv_at hl 5 rfl) ?_
      refine cj_b_eq (tgt := 76) hx hb dC_fresh_61 (by decide) (fun c_7 => ?_) (fun c_7 => ?_)
      ·
        refine lv_lload hx hb dC_fresh_76 (lv_at hl 0 rfl) ?_
        refine cj_csi X V (c_J_bitCount l D kd _ ((cj_ug ow (ed j_1) 4) &&& ((cj_po (cj_pp (con j_3) (con (ed j_1)) (n j_3) (n (ed j_1))) (cj_bit (n j_3) - lN 1) (n j_3)) ^^^ (-1)))) ml_C_114 st_J_bitCount in_J cd_J_bitCount hd_J_bitCount ⟨by decide, by decide⟩ ⟨Nat.le_refl _, Nat.le_refl _⟩ hl.1 rfl (Nat.le_of_ble_eq_true rfl) dC_fresh_78 (fun r_9 u_9 H locs hw V => ?_)
        obtain rfl := hw
        have f_q_8 := cj_pop_le ((cj_ug ow (ed j_1) 4) &&& ((cj_po (cj_pp (con j_3) (con (ed j_1)) (n j_3) (n (ed j_1))) (cj_bit (n j_3) - lN 1) (n j_3)) ^^^ (-1)))
        exact cj_reti (va_up (va_up cl j_3 true) (ed j_1) true, uc.1, uc.2) X hr V (by refine ⟨?_, ?_⟩; · { simp only [f_freshC, ij_1, ij_3, c_7, cond_true, cond_false] }; · { simp only [q_fresh, ij_1, ij_3]; rfl }) dC_fresh_81
      ·
        refine lv_lload hx hb dC_fresh_64 (lv_at hl 0 rfl) ?_
        refine lv_aload_n hx hb dC_fresh_66 rfl (lv_at hl 2 rfl) ?_
        refine gC 8 X V fl_C_40 (by decide) rfl dC_fresh_67 ?_
        refine lv_iload_n hx hb dC_fresh_70 rfl (lv_at hl 3 rfl) ?_
        refine rC_hi X V (by omega) dC_fresh_71 ?_
        refine lv_land hx hb dC_fresh_72 ?_
        refine lv_goto (tgt := 78) hx hb dC_fresh_73 (by decide) ?_
        refine cj_csi X V (c_J_bitCount l D kd _ (((cj_ug ow (ed j_1) 4) &&& ((cj_po (cj_pp (con j_3) (con (ed j_1)) (n j_3) (n (ed j_1))) (cj_bit (n j_3) - lN 1) (n j_3)) ^^^ (-1))) &&& (hz j_1))) ml_C_114 st_J_bitCount in_J cd_J_bitCount hd_J_bitCount ⟨by decide, by decide⟩ ⟨Nat.le_refl _, Nat.le_refl _⟩ hl.1 rfl (Nat.le_of_ble_eq_true rfl) dC_fresh_78 (fun r_9 u_9 H locs hw V => ?_)
        obtain rfl := hw
        have f_q_9 := cj_pop_le (((cj_ug ow (ed j_1) 4) &&& ((cj_po (cj_pp (con j_3) (con (ed j_1)) (n j_3) (n (ed j_1))) (cj_bit (n j_3) - lN 1) (n j_3)) ^^^ (-1))) &&& (hz j_1))
        exact cj_reti (va_up (va_up cl j_3 true) (ed j_1) true, uc.1, uc.2) X hr V (by refine ⟨?_, ?_⟩; · { simp only [f_freshC, ij_1, ij_3, c_7, cond_true, cond_false] }; · { simp only [q_fresh, ij_1, ij_3]; rfl }) dC_fresh_81
    ·
      have ij_3 := cj_ix_f hj_3
      refine lv_if_ne (tgt := 18) hx hb dC_fresh_13 (by decide) (fun h => absurd (by decide) h) (fun _ => ?_)
      refine lv_iconst (v := (-1)) hx hb dC_fresh_16 (by decide) ?_
      exact cj_reti (cl, mp, pr) X hr V (by refine ⟨?_, ?_⟩; · { simp only [f_freshC, ij_1, ij_3, cond_true, cond_false] }; · { simp only [q_fresh, ij_1, ij_3]; rfl }) dC_fresh_17
  ·
    have ij_1 := cj_ix_f hj_1
    refine lv_if_eq (tgt := 16) hx hb dC_fresh_5 (by decide) (fun _ => ?_) (fun h => absurd (by decide) h)
    refine lv_iconst (v := (-1)) hx hb dC_fresh_16 (by decide) ?_
    exact cj_reti (cl, mp, pr) X hr V (by refine ⟨?_, ?_⟩; · { simp only [f_freshC, ij_1, cond_true, cond_false] }; · { simp only [q_fresh, ij_1]; rfl }) dC_fresh_17
