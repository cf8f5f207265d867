set_option maxRecDepth 100000 in
set_option maxHeartbeats 4000000 in
theorem c_M_same (l : Launch) (D : va_G) (kd : Nat → ClassId) (ad : Nat → Nat) {E : Nat} {rn : Nat} {ch : Int32} {n : Nat → Nat} {con : Nat → Int32} {ow : Nat → Nat} {ge : Nat → Bool} {cl : Nat → Bool} {ed : Nat → Nat} {co : Nat → Nat} {hz : Nat → Int64} {lo : Nat → Nat} {pr : Nat → Int32} (hE : E ≤ 8) (hn : ∀ i, n i ≤ 40) (hR : rn ≤ 14) (hed : ∀ r, r < rn → ed r < E) (hco : ∀ r, co r ≤ 100000) (x y z : Int32) : cj_Mi (S := (Nat → Bool) × (Nat → Nat) × (Nat → Int32)) l yM_same cM_same 4 (some .int) 2 D kd [.ref (ad 0), .int x, .int y, .int z] (wM kd ad E rn ch n con ow ge cl ed co hz lo pr) (fun r u => r = f_same E n (cj_c2 con) x y z ∧ u.1 = k_cl cl (q_same E n x y z)) (fun u => wM kd ad E rn ch n con ow ge u.1 ed co hz u.2.1 u.2.2) := by
  refine cj_ofi (by decide) (Nat.le_of_ble_eq_true rfl) ?_
  intro p e s m below meth c A ls X hr V hl
  obtain ⟨⟨hx, hb, hml, hown, hts⟩, hK, hlk⟩ := id X
  have hl : lv_has ls 4 [(0, .ref (ad 0)), (1, .int x), (2, .int y), (3, .int z)] := hl
  refine lv_iload_n hx hb dM_same_0 rfl (lv_at hl 1 rfl) ?_
  refine lv_aload_n hx hb dM_same_1 rfl (lv_at hl 0 rfl) ?_
  refine gM 0 X V fl_M_42 (by decide) rfl dM_same_2 ?_
  refine cj_csi X V (c_M_in l D kd ad x E (by omega)) ml_M_46 st_M_in in_M cd_M_in hd_M_in ⟨by decide, by decide⟩ ⟨Nat.le_refl _, Nat.le_refl _⟩ hl.1 rfl (Nat.le_of_ble_eq_true rfl) dM_same_5 (fun r_9 u_9 H locs hw V => ?_)
  rcases hw with ⟨rfl, j_1, hj_1, rfl⟩ | ⟨rfl, hj_1⟩
  ·
    have ij_1 := cj_ix_t hj_1 (show E < 2 ^ 31 by omega)
    refine lv_if_eq (tgt := 35) hx hb dM_same_8 (by decide) (fun h => absurd h (by decide)) (fun _ => ?_)
    refine lv_iload_n hx hb dM_same_11 rfl (lv_at hl 2 rfl) ?_
    refine lv_aload_n hx hb dM_same_12 rfl (lv_at hl 0 rfl) ?_
    refine gM 0 X V fl_M_42 (by decide) rfl dM_same_13 ?_
    refine cj_csi X V (c_M_in l D kd ad y E (by omega)) ml_M_46 st_M_in in_M cd_M_in hd_M_in ⟨by decide, by decide⟩ ⟨Nat.le_refl _, Nat.le_refl _⟩ hl.1 rfl (Nat.le_of_ble_eq_true rfl) dM_same_16 (fun r_9 u_9 H locs hw V => ?_)
    rcases hw with ⟨rfl, j_3, hj_3, rfl⟩ | ⟨rfl, hj_3⟩
    ·
      have ij_3 := cj_ix_t hj_3 (show E < 2 ^ 31 by omega)
      refine lv_if_eq (tgt := 35) hx hb dM_same_19 (by decide) (fun h => absurd h (by decide)) (fun _ => ?_)
      refine lv_iload_n hx hb dM_same_22 rfl (lv_at hl 3 rfl) ?_
      refine lv_aload_n hx hb dM_same_23 rfl (lv_at hl 0 rfl) ?_
      refine gM 3 X V fl_M_7 (by decide) rfl dM_same_24 ?_
      refine lv_iload_n hx hb dM_same_27 rfl (lv_at hl 1 rfl) ?_
      refine rM_n X V (by omega) dM_same_28 ?_
      have f_e_5 := hn j_1
      refine cj_csi X V (c_M_in l D kd ad z (n j_1) (by omega)) ml_M_46 st_M_in in_M cd_M_in hd_M_in ⟨by decide, by decide⟩ ⟨Nat.le_refl _, Nat.le_refl _⟩ hl.1 rfl (Nat.le_of_ble_eq_true rfl) dM_same_29 (fun r_9 u_9 H locs hw V => ?_)
      rcases hw with ⟨rfl, j_6, hj_6, rfl⟩ | ⟨rfl, hj_6⟩
      ·
        have ij_6 := cj_ix_t hj_6 (show n j_1 < 2 ^ 31 by omega)
        refine lv_if_ne (tgt := 37) hx hb dM_same_32 (by decide) (fun _ => ?_) (fun h => absurd h (by decide))
        refine lv_aload_n hx hb dM_same_37 rfl (lv_at hl 0 rfl) ?_
        refine lv_iload_n hx hb dM_same_38 rfl (lv_at hl 1 rfl) ?_
        refine lv_iload_n hx hb dM_same_39 rfl (lv_at hl 2 rfl) ?_
        refine cj_cvv X V (c_M_compare l D kd ad j_1 j_3 (by omega) (by omega) hn) 0 2 rfl rfl rfl ml_M_68 im_M_compare se_M_compare in_M cd_M_compare hd_M_compare ⟨by decide, by decide⟩ ⟨Nat.le_refl _, Nat.le_refl _⟩ hl.1 rfl (Nat.le_of_ble_eq_true rfl) dM_same_40 (fun uc H locs hw V => ?_)
        have hP := hw
        refine lv_aload_n hx hb dM_same_43 rfl (lv_at hl 0 rfl) ?_
        refine gM 12 X V fl_M_39 (by decide) rfl dM_same_44 ?_
        refine lv_iload_n hx hb dM_same_47 rfl (lv_at hl 3 rfl) ?_
        refine rM_pr X V (by omega) dM_same_48 ?_
        exact cj_reti (va_up (va_up cl j_1 true) j_3 true, uc.1, uc.2) X hr V (by refine ⟨?_, ?_⟩; · { simp only [f_same, ij_1, ij_3, ij_6]; exact hP j_6 (by omega) }; · { simp only [q_same, ij_1, ij_3, ij_6]; rfl }) dM_same_49
      ·
        have ij_6 := cj_ix_f hj_6
        refine lv_if_ne (tgt := 37) hx hb dM_same_32 (by decide) (fun h => absurd (by decide) h) (fun _ => ?_)
        refine lv_iconst (v := (-1)) hx hb dM_same_35 (by decide) ?_
        exact cj_reti (cl, lo, pr) X hr V (by refine ⟨?_, ?_⟩; · { simp only [f_same, ij_1, ij_3, ij_6] }; · { simp only [q_same, ij_1, ij_3, ij_6]; rfl }) dM_same_36
    ·
      have ij_3 := cj_ix_f hj_3
      refine lv_if_eq (tgt := 35) hx hb dM_same_19 (by decide) (fun _ => ?_) (fun h => absurd (by decide) h)
      refine lv_iconst (v := (-1)) hx hb dM_same_35 (by decide) ?_
      exact cj_reti (cl, lo, pr) X hr V (by refine ⟨?_, ?_⟩; · { simp only [f_same, ij_1, ij_3] }; · { simp only [q_same, ij_1, ij_3]; rfl }) dM_same_36
  ·
    have ij_1 := cj_ix_f hj_1
    refine lv_if_eq (tgt := 35) hx hb dM_same_8 (by decide) (fun _ => ?_) (fun h => absurd (by decide) h)
    refine lv_iconst (v := (-1)) hx hb dM_same_35 (by decide) ?_
    exact cj_reti (cl, lo, pr) X hr V (by refine ⟨?_, ?_⟩; · { simp only [f_same, ij_1] }; · { simp only [q_same, ij_1]; rfl }) dM_same_36
set_option maxRecDepth 100000 in
set_option maxHeartbeats 4000000 in
theorem lp_M_map {p : Program} {l : Launch} {e : Env} {s : State} {m : MethodId} {args : Array Value} {below : List Frame} {meth : Method} {c : Code} {Q : State → Prop} {D : va_G} {kd : Nat → ClassId} {A : Nat → Prop} {H0 : Heap} {ad : Nat → Nat} {E : Nat} {rn : Nat} {ch : Int32} {n : Nat → Nat} {con : Nat → Int32} {ow : Nat → Nat} {ge : Nat → Bool} {cl : Nat → Bool} {ed : Nat → Nat} {co : Nat → Nat} {hz : Nat → Int64} {lo : Nat → Nat} {pr : Nat → Int32} (X : cj_X p s m args c meth cM_map 6 RM D kd) (hn : ∀ i, n i ≤ 40) (j ea : Nat) (hj : j < 14) (hej : ed j < 8) (pp : Nat → Option Nat) (hpr : ∀ i, i < n (ed j) → pr i = oI (pp i)) (hpp : ∀ i q, pp i = some q → q < 40) : ∀ (d i : Nat) (H : Heap) (locs : List Loc) (ls : Array Slot), i + d = n (ed j) → cj_V D A H0 (wM kd ad E rn ch n con ow ge cl ed co hz lo pr) H locs → lv_has ls 6 [(5, .int (nI i)), (3, .long (cj_po pp (hz j) i)), (0, .ref (ad 0)), (1, .int (nI j)), (2, .int (nI ea))] → (∀ (H : Heap) (locs : List Loc) (ls : Array Slot), cj_V D A H0 (wM kd ad E rn ch n con ow ge cl ed co hz lo pr) H locs → lv_has ls 6 [(5, .int (nI (n (ed j)))), (3, .long (cj_po pp (hz j) (n (ed j)))), (0, .ref (ad 0)), (1, .int (nI j)), (2, .int (nI ea))] → W p l e (cj_rm 2) s m args below meth c H locs 0 0 Q (F0 m 108 ls [])) → W p l e (cj_rm 2) s m args below meth c H locs 0 0 Q (F0 m 49 ls []) := by
  obtain ⟨⟨hx, hb, hml, hown, hts⟩, hK, hlk⟩ := id X
  intro d
  induction d with
  | zero =>
    intro i H locs ls hi V hl kont
    have hnj := hn (ed j)
    refine lv_iload hx hb dM_map_49 (lv_at hl 0 rfl) ?_
    refine lv_aload_n hx hb dM_map_51 rfl (lv_at hl 2 rfl) ?_
    refine gM 3 X V fl_M_7 (by decide) rfl dM_map_52 ?_
    refine lv_aload_n hx hb dM_map_55 rfl (lv_at hl 2 rfl) ?_
    refine gM 8 X V fl_M_26 (by decide) rfl dM_map_56 ?_
    refine lv_iload_n hx hb dM_map_59 rfl (lv_at hl 3 rfl) ?_
    refine rM_ed X V (by omega) dM_map_60 ?_
    refine rM_n X V (by omega) dM_map_61 ?_
    have f_e_1 := hn (ed j)
    refine cj_n_ge (tgt := 108) hx hb dM_map_62 (by decide) (by omega) (by omega) (fun c_2 => ?_) (fun c_2 => ?_)
    ·
      obtain rfl : i = n (ed j) := by omega
      exact kont _ _ _ V (lv_sub hl [0, 1, 2, 3, 4] rfl)
    ·
      exact absurd c_2 (by omega)
  | succ d ih =>
    intro i H locs ls hi V hl kont
    have hnj := hn (ed j)
    refine lv_iload hx hb dM_map_49 (lv_at hl 0 rfl) ?_
    refine lv_aload_n hx hb dM_map_51 rfl (lv_at hl 2 rfl) ?_
    refine gM 3 X V fl_M_7 (by decide) rfl dM_map_52 ?_
    refine lv_aload_n hx hb dM_map_55 rfl (lv_at hl 2 rfl) ?_
    refine gM 8 X V fl_M_26 (by decide) rfl dM_map_56 ?_
    refine lv_iload_n hx hb dM_map_59 rfl (lv_at hl 3 rfl) ?_
    refine rM_ed X V (by omega) dM_map_60 ?_
    refine rM_n X V (by omega) dM_map_61 ?_
    have f_e_1 := hn (ed j)
    refine cj_n_ge (tgt := 108) hx hb dM_map_62 (by decide) (by omega) (by omega) (fun c_2 => ?_) (fun c_2 => ?_)
    ·
      exact absurd c_2 (by omega)
    ·
      refine lv_lload_n hx hb dM_map_65 rfl (lv_at hl 1 rfl) ?_
      refine lv_aload_n hx hb dM_map_66 rfl (lv_at hl 2 rfl) ?_
      refine lv_iload_n hx hb dM_map_67 rfl (lv_at hl 3 rfl) ?_
      refine lv_iload hx hb dM_map_68 (lv_at hl 0 rfl) ?_
      refine cj_cvi X V (c_M_isHit l D kd ad j i (by omega) (by omega)) 0 2 rfl rfl rfl ml_M_61 im_M_isHit se_M_isHit in_M cd_M_isHit hd_M_isHit ⟨by decide, by decide⟩ ⟨Nat.le_refl _, Nat.le_refl _⟩ hl.1 rfl (Nat.le_of_ble_eq_true rfl) dM_map_70 (fun r_9 u_9 H locs hw V => ?_)
      obtain rfl := hw
      refine cj_b_eq (tgt := 99) hx hb dM_map_73 (by decide) (fun c_3 => ?_) (fun c_3 => ?_)
      ·
        refine lv_lconst (v := 0) hx hb dM_map_99 (by decide) ?_
        refine lv_lor hx hb dM_map_100 ?_
        refine lv_lstore_n (lv' := [(3, .long ((cj_po pp (hz j) i) ||| 0)), (5, .int (nI i)), (0, .ref (ad 0)), (1, .int (nI j)), (2, .int (nI ea))]) hx hb dM_map_101 rfl hl (by decide) rfl (fun ls hl => ?_)
        refine lv_iinc (v := nI (i + 1)) (lv' := [(5, .int (nI (i + 1))), (3, .long ((cj_po pp (hz j) i) ||| 0)), (0, .ref (ad 0)), (1, .int (nI j)), (2, .int (nI ea))]) hx hb dM_map_102 hl (k := 1) rfl (cj_inc _) (by decide) rfl (fun ls hl => ?_)
        refine lv_goto (tgt := 49) hx hb dM_map_105 (by decide) ?_
        exact ih (i + 1) _ _ ls (by omega) V (lv_sub hl [0, 1, 2, 3, 4] (by rw [cj_po_f c_3, cj_or0L]; rfl)) kont
      ·
        rcases hq : pp i with _ | q
        ·
          have hpi : pr i = (-1) := by rw [hpr i (by omega), hq]; rfl
          refine lv_aload_n hx hb dM_map_76 rfl (lv_at hl 2 rfl) ?_
          refine gM 12 X V fl_M_39 (by decide) rfl dM_map_77 ?_
          refine lv_iload hx hb dM_map_80 (lv_at hl 0 rfl) ?_
          refine rM_pr X V (by omega) dM_map_82 ?_
          refine cj_ti hpi ?_
          refine lv_iconst (v := (-1)) hx hb dM_map_83 (by decide) ?_
          refine lv_icmp_eq (tgt := 99) hx hb dM_map_84 (by decide) (fun _ => ?_) (fun h => absurd rfl h)
          refine lv_lconst (v := 0) hx hb dM_map_99 (by decide) ?_
          refine lv_lor hx hb dM_map_100 ?_
          refine lv_lstore_n (lv' := [(3, .long ((cj_po pp (hz j) i) ||| 0)), (5, .int (nI i)), (0, .ref (ad 0)), (1, .int (nI j)), (2, .int (nI ea))]) hx hb dM_map_101 rfl hl (by decide) rfl (fun ls hl => ?_)
          refine lv_iinc (v := nI (i + 1)) (lv' := [(5, .int (nI (i + 1))), (3, .long ((cj_po pp (hz j) i) ||| 0)), (0, .ref (ad 0)), (1, .int (nI j)), (2, .int (nI ea))]) hx hb dM_map_102 hl (k := 1) rfl (cj_inc _) (by decide) rfl (fun ls hl => ?_)
          refine lv_goto (tgt := 49) hx hb dM_map_105 (by decide) ?_
          exact ih (i + 1) _ _ ls (by omega) V (lv_sub hl [0, 1, 2, 3, 4] (by rw [cj_po_n hq, cj_or0L]; rfl)) kont
        ·
          have hpi : pr i = nI q := by rw [hpr i (by omega), hq]; rfl
          have hq40 := hpp i q hq
          refine lv_aload_n hx hb dM_map_76 rfl (lv_at hl 2 rfl) ?_
          refine gM 12 X V fl_M_39 (by decide) rfl dM_map_77 ?_
          refine lv_iload hx hb dM_map_80 (lv_at hl 0 rfl) ?_
          refine rM_pr X V (by omega) dM_map_82 ?_
          refine cj_ti hpi ?_
          refine lv_iconst (v := (-1)) hx hb dM_map_83 (by decide) ?_
          refine lv_icmp_eq (tgt := 99) hx hb dM_map_84 (by decide) (fun h => absurd h (cj_nm1 (by omega))) (fun _ => ?_)
          refine lv_lconst (v := lN 1) hx hb dM_map_87 (by decide) ?_
          refine lv_aload_n hx hb dM_map_88 rfl (lv_at hl 2 rfl) ?_
          refine gM 12 X V fl_M_39 (by decide) rfl dM_map_89 ?_
          refine lv_iload hx hb dM_map_92 (lv_at hl 0 rfl) ?_
          refine rM_pr X V (by omega) dM_map_94 ?_
          refine cj_ti hpi ?_
          refine lv_lshl hx hb dM_map_95 (cj_shl1 (by omega)) ?_
          refine lv_goto (tgt := 100) hx hb dM_map_96 (by decide) ?_
          refine lv_lor hx hb dM_map_100 ?_
          refine lv_lstore_n (lv' := [(3, .long ((cj_po pp (hz j) i) ||| (cj_bit q))), (5, .int (nI i)), (0, .ref (ad 0)), (1, .int (nI j)), (2, .int (nI ea))]) hx hb dM_map_101 rfl hl (by decide) rfl (fun ls hl => ?_)
          refine lv_iinc (v := nI (i + 1)) (lv' := [(5, .int (nI (i + 1))), (3, .long ((cj_po pp (hz j) i) ||| (cj_bit q))), (0, .ref (ad 0)), (1, .int (nI j)), (2, .int (nI ea))]) hx hb dM_map_102 hl (k := 1) rfl (cj_inc _) (by decide) rfl (fun ls hl => ?_)
          refine lv_goto (tgt := 49) hx hb dM_map_105 (by decide) ?_
          exact ih (i + 1) _ _ ls (by omega) V (lv_sub hl [0, 1, 2, 3, 4] (by rw [cj_po_s c_3 hq]; rfl)) kont
set_option maxRecDepth 100000 in
set_option maxHeartbeats 4000000 in
theorem c_M_map (l : Launch) (D : va_G) (kd : Nat → ClassId) (ad : Nat → Nat) {E : Nat} {rn : Nat} {ch : Int32} {n : Nat → Nat} {con : Nat → Int32} {ow : Nat → Nat} {ge : Nat → Bool} {cl : Nat → Bool} {ed : Nat → Nat} {co : Nat → Nat} {hz : Nat → Int64} {lo : Nat → Nat} {pr : Nat → Int32} (hE : E ≤ 8) (hn : ∀ i, n i ≤ 40) (hR : rn ≤ 14) (hed : ∀ r, r < rn → ed r < E) (hco : ∀ r, co r ≤ 100000) (x y : Int32) : cj_Mi (S := Nat × (Nat → Nat) × (Nat → Nat) × (Nat → Int64) × (Nat → Bool) × (Nat → Nat) × (Nat → Int32)) l yM_map cM_map 6 (some .int) 2 D kd [.ref (ad 0), .int x, .int y] (wM kd ad E rn ch n con ow ge cl ed co hz lo pr) (fun r u => r = f_add rn (o_map E rn n (cj_c2 con) ed co hz x y) ∧ u.1 = a_rn rn (o_map E rn n (cj_c2 con) ed co hz x y) ∧ u.2.1 = a_ed rn ed (o_map E rn n (cj_c2 con) ed co hz x y) ∧ u.2.2.1 = a_co rn co (o_map E rn n (cj_c2 con) ed co hz x y) ∧ u.2.2.2.1 = a_hz rn hz (o_map E rn n (cj_c2 con) ed co hz x y) ∧ u.2.2.2.2.1 = a_cl (k_cl cl (q_map E rn ed x y)) (o_map E rn n (cj_c2 con) ed co hz x y)) (fun u => wM kd ad E u.1 ch n con ow ge u.2.2.2.2.1 u.2.1 u.2.2.1 u.2.2.2.1 u.2.2.2.2.2.1 u.2.2.2.2.2.2) := by
  refine cj_ofi (by decide) (Nat.le_of_ble_eq_true rfl) ?_
  intro p e s m below meth c A ls X hr V hl
  obtain ⟨⟨hx, hb, hml, hown, hts⟩, hK, hlk⟩ := id X
  have hl : lv_has ls 6 [(0, .ref (ad 0)), (1, .int x), (2, .int y)] := hl
  refine lv_iload_n hx hb dM_map_0 rfl (lv_at hl 1 rfl) ?_
  refine lv_aload_n hx hb dM_map_1 rfl (lv_at hl 0 rfl) ?_
  refine gM 1 X V fl_M_50 (by decide) rfl dM_map_2 ?_
  refine cj_csi X V (c_M_in l D kd ad x rn (by omega)) ml_M_46 st_M_in in_M cd_M_in hd_M_in ⟨by decide, by decide⟩ ⟨Nat.le_refl _, Nat.le_refl _⟩ hl.1 rfl (Nat.le_of_ble_eq_true rfl) dM_map_5 (fun r_9 u_9 H locs hw V => ?_)
  rcases hw with ⟨rfl, j_1, hj_1, rfl⟩ | ⟨rfl, hj_1⟩
  ·
    have ij_1 := cj_ix_t hj_1 (show rn < 2 ^ 31 by omega)
    refine lv_if_eq (tgt := 31) hx hb dM_map_8 (by decide) (fun h => absurd h (by decide)) (fun _ => ?_)
    refine lv_iload_n hx hb dM_map_11 rfl (lv_at hl 2 rfl) ?_
    refine lv_aload_n hx hb dM_map_12 rfl (lv_at hl 0 rfl) ?_
    refine gM 0 X V fl_M_42 (by decide) rfl dM_map_13 ?_
    refine cj_csi X V (c_M_in l D kd ad y E (by omega)) ml_M_46 st_M_in in_M cd_M_in hd_M_in ⟨by decide, by decide⟩ ⟨Nat.le_refl _, Nat.le_refl _⟩ hl.1 rfl (Nat.le_of_ble_eq_true rfl) dM_map_16 (fun r_9 u_9 H locs hw V => ?_)
    rcases hw with ⟨rfl, j_3, hj_3, rfl⟩ | ⟨rfl, hj_3⟩
    ·
      have ij_3 := cj_ix_t hj_3 (show E < 2 ^ 31 by omega)
      refine lv_if_eq (tgt := 31) hx hb dM_map_19 (by decide) (fun h => absurd h (by decide)) (fun _ => ?_)
      refine lv_aload_n hx hb dM_map_22 rfl (lv_at hl 0 rfl) ?_
      refine gM 1 X V fl_M_50 (by decide) rfl dM_map_23 ?_
      refine lv_bipush (v := nI 14) hx hb dM_map_26 (by decide) ?_
      refine cj_n_ne (tgt := 33) hx hb dM_map_28 (by decide) (by omega) (by omega) (fun c_5 => ?_) (fun c_5 => ?_)
      ·
        refine lv_aload_n hx hb dM_map_33 rfl (lv_at hl 0 rfl) ?_
        refine lv_aload_n hx hb dM_map_34 rfl (lv_at hl 0 rfl) ?_
        refine gM 8 X V fl_M_26 (by decide) rfl dM_map_35 ?_
        refine lv_iload_n hx hb dM_map_38 rfl (lv_at hl 1 rfl) ?_
        refine rM_ed X V (by omega) dM_map_39 ?_
        have f_e_6 := hed j_1 (by omega)
        refine lv_iload_n hx hb dM_map_40 rfl (lv_at hl 2 rfl) ?_
        refine cj_cvv X V (c_M_compare l D kd ad (ed j_1) j_3 (by omega) (by omega) hn) 0 2 rfl rfl rfl ml_M_68 im_M_compare se_M_compare in_M cd_M_compare hd_M_compare ⟨by decide, by decide⟩ ⟨Nat.le_refl _, Nat.le_refl _⟩ hl.1 rfl (Nat.le_of_ble_eq_true rfl) dM_map_41 (fun uc H locs hw V => ?_)
        have hP := hw
        refine lv_lconst (v := 0) hx hb dM_map_44 (by decide) ?_
        refine lv_lstore_n (lv' := [(3, .long 0), (0, .ref (ad 0)), (1, .int (nI j_1)), (2, .int (nI j_3))]) hx hb dM_map_45 rfl hl (by decide) rfl (fun ls hl => ?_)
        refine lv_iconst (v := nI 0) hx hb dM_map_46 (by decide) ?_
        refine lv_istore (lv' := [(5, .int (nI 0)), (3, .long 0), (0, .ref (ad 0)), (1, .int (nI j_1)), (2, .int (nI j_3))]) hx hb dM_map_47 hl (by decide) rfl (fun ls hl => ?_)
        have hej := hed j_1 (by omega)
        refine lp_M_map X hn j_1 j_3 (by omega) (by omega) (cj_pp (fun i => con (40 * (ed j_1) + i)) (fun i => con (40 * j_3 + i)) (n (ed j_1)) (n j_3)) hP (fun i q h => by have h1 := cj_pp_lt h; have h2 := hn j_3; omega) (n (ed j_1)) 0 _ _ ls (by omega) V (lv_sub hl [0, 1, 2, 3, 4] rfl) (fun H locs ls V hl => ?_)
        refine lv_aload_n hx hb dM_map_108 rfl (lv_at hl 2 rfl) ?_
        refine lv_iload_n hx hb dM_map_109 rfl (lv_at hl 4 rfl) ?_
        refine lv_aload_n hx hb dM_map_110 rfl (lv_at hl 2 rfl) ?_
        refine gM 9 X V fl_M_29 (by decide) rfl dM_map_111 ?_
        refine lv_iload_n hx hb dM_map_114 rfl (lv_at hl 3 rfl) ?_
        refine rM_co X V (by omega) dM_map_115 ?_
        have f_e_7 := hco j_1
        refine lv_lload_n hx hb dM_map_116 rfl (lv_at hl 1 rfl) ?_
        refine cj_cvi X V (c_M_newRun l D kd ad j_3 (co j_1) (cj_po (cj_pp (fun i => con (40 * (ed j_1) + i)) (fun i => con (40 * j_3 + i)) (n (ed j_1)) (n j_3)) (hz j_1) (n (ed j_1))) (by omega) (by omega)) 0 2 rfl rfl rfl ml_M_54 im_M_newRun se_M_newRun in_M cd_M_newRun hd_M_newRun ⟨by decide, by decide⟩ ⟨Nat.le_refl _, Nat.le_refl _⟩ hl.1 rfl (Nat.le_of_ble_eq_true rfl) dM_map_117 (fun r_9 ua H locs hw V => ?_)
        obtain ⟨rfl, rfl⟩ := hw
        exact cj_reti (rn + 1, va_up ed rn j_3, va_up co rn (co j_1), va_up hz rn (cj_po (cj_pp (fun i => con (40 * (ed j_1) + i)) (fun i => con (40 * j_3 + i)) (n (ed j_1)) (n j_3)) (hz j_1) (n (ed j_1))), va_up (va_up (va_up cl (ed j_1) true) j_3 true) j_3 true, uc.1, uc.2) X hr V (by simp only [o_map, q_map, ij_1, ij_3]; rw [if_pos (show rn < 14 by omega), if_pos (show rn < 14 by omega)]; refine ⟨?_, ?_, ?_, ?_, ?_, ?_⟩ <;> first | rfl | trivial) dM_map_120
      ·
        refine lv_iconst (v := (-1)) hx hb dM_map_31 (by decide) ?_
        exact cj_reti (rn, ed, co, hz, cl, lo, pr) X hr V (by simp only [o_map, q_map, ij_1, ij_3]; rw [if_neg (show ¬ rn < 14 by omega), if_neg (show ¬ rn < 14 by omega)]; refine ⟨?_, ?_, ?_, ?_, ?_, ?_⟩ <;> first | rfl | trivial) dM_map_32
    ·
      have ij_3 := cj_ix_f hj_3
      refine lv_if_eq (tgt := 31) hx hb dM_map_19 (by decide) (fun _ => ?_) (fun h => absurd (by decide) h)
      refine lv_iconst (v := (-1)) hx hb dM_map_31 (by decide) ?_
      exact cj_reti (rn, ed, co, hz, cl, lo, pr) X hr V (by simp only [o_map, q_map, ij_1, ij_3]; refine ⟨?_, ?_, ?_, ?_, ?_, ?_⟩ <;> first | rfl | trivial) dM_map_32
  ·
    have ij_1 := cj_ix_f hj_1
    refine lv_if_eq (tgt := 31) hx hb dM_map_8 (by decide) (fun _ => ?_) (fun h => absurd (by decide) h)
    refine lv_iconst (v := (-1)) hx hb dM_map_31 (by decide) ?_
    exact cj_reti (rn, ed, co, hz, cl, lo, pr) X hr V (by simp only [o_map, q_map, ij_1]; refine ⟨?_, ?_, ?_, ?_, ?_, ?_⟩ <;> first | rfl | trivial) dM_map_32
set_option maxRecDepth 100000 in
set_option maxHeartbeats 4000000 in
theorem lp_M_frA {p : Program} {l : Launch} {e : Env} {s : State} {m : MethodId} {args : Array Value} {below : List Frame} {meth : Method} {c : Code} {Q : State → Prop} {D : va_G} {kd : Nat → ClassId} {A : Nat → Prop} {H0 : Heap} {ad : Nat → Nat} {E : Nat} {rn : Nat} {ch : Int32} {n : Nat → Nat} {con : Nat → Int32} {ow : Nat → Nat} {ge : Nat → Bool} {cl : Nat → Bool} {ed : Nat → Nat} {co : Nat → Nat} {hz : Nat → Int64} {lo : Nat → Nat} {pr : Nat → Int32} (X : cj_X p s m args c meth cM_fresh 10 RM D kd) (hn : ∀ i, n i ≤ 40) (j ea : Nat) (b : Bool) (hj : j < 14) (hej : ed j < 8) (hea : ea < 8) (pp : Nat → Option Nat) (hpr : ∀ i, i < n ea → pr i = oI (pp i)) (hpp : ∀ i q, pp i = some q → q < 40) : ∀ (d i : Nat) (H : Heap) (locs : List Loc) (ls : Array Slot), i + d = n ea → cj_V D A H0 (wM kd ad E rn ch n con ow ge cl ed co hz lo pr) H locs → lv_has ls 10 [(7, .int (nI i)), (5, .long (cj_pa pp i)), (4, .int (nI (ed j))), (0, .ref (ad 0)), (1, .int (nI j)), (2, .int (nI ea)), (3, .int (bI b))] → (∀ (H : Heap) (locs : List Loc) (ls : Array Slot), cj_V D A H0 (wM kd ad E rn ch n con ow ge cl ed co hz lo pr) H locs → lv_has ls 10 [(7, .int (nI (n ea))), (5, .long (cj_pa pp (n ea))), (4, .int (nI (ed j))), (0, .ref (ad 0)), (1, .int (nI j)), (2, .int (nI ea)), (3, .int (bI b))] → W p l e (cj_rm 2) s m args below meth c H locs 0 0 Q (F0 m 91 ls [])) → W p l e (cj_rm 2) s m args below meth c H locs 0 0 Q (F0 m 45 ls []) := by
  obtain ⟨⟨hx, hb, hml, hown, hts⟩, hK, hlk⟩ := id X
  intro d
  induction d with
  | zero =>
    intro i H locs ls hi V hl kont
    have hne := hn ea
    refine lv_iload hx hb dM_fresh_45 (lv_at hl 0 rfl) ?_
    refine lv_aload_n hx hb dM_fresh_47 rfl (lv_at hl 3 rfl) ?_
    refine gM 3 X V fl_M_7 (by decide) rfl dM_fresh_48 ?_
    refine lv_iload_n hx hb dM_fresh_51 rfl (lv_at hl 5 rfl) ?_
    refine rM_n X V (by omega) dM_fresh_52 ?_
    have f_e_1 := hn ea
    refine cj_n_ge (tgt := 91) hx hb dM_fresh_53 (by decide) (by omega) (by omega) (fun c_2 => ?_) (fun c_2 => ?_)
    ·
      obtain rfl : i = n ea := by omega
      exact kont _ _ _ V (lv_sub hl [0, 1, 2, 3, 4, 5, 6] rfl)
    ·
      exact absurd c_2 (by omega)
  | succ d ih =>
    intro i H locs ls hi V hl kont
    have hne := hn ea
    refine lv_iload hx hb dM_fresh_45 (lv_at hl 0 rfl) ?_
    refine lv_aload_n hx hb dM_fresh_47 rfl (lv_at hl 3 rfl) ?_
    refine gM 3 X V fl_M_7 (by decide) rfl dM_fresh_48 ?_
    refine lv_iload_n hx hb dM_fresh_51 rfl (lv_at hl 5 rfl) ?_
    refine rM_n X V (by omega) dM_fresh_52 ?_
    have f_e_1 := hn ea
    refine cj_n_ge (tgt := 91) hx hb dM_fresh_53 (by decide) (by omega) (by omega) (fun c_2 => ?_) (fun c_2 => ?_)
    ·
      exact absurd c_2 (by omega)
    ·
      rcases hq : pp i with _ | q
      ·
        have hpi : pr i = (-1) := by rw [hpr i (by omega), hq]; rfl
        refine lv_lload hx hb dM_fresh_56 (lv_at hl 1 rfl) ?_
        refine lv_aload_n hx hb dM_fresh_58 rfl (lv_at hl 3 rfl) ?_
        refine gM 12 X V fl_M_39 (by decide) rfl dM_fresh_59 ?_
        refine lv_iload hx hb dM_fresh_62 (lv_at hl 0 rfl) ?_
        refine rM_pr X V (by omega) dM_fresh_64 ?_
        refine cj_ti hpi ?_
        refine lv_iconst (v := (-1)) hx hb dM_fresh_65 (by decide) ?_
        refine lv_icmp_ne (tgt := 73) hx hb dM_fresh_66 (by decide) (fun h => absurd rfl h) (fun _ => ?_)
        refine lv_lconst (v := 0) hx hb dM_fresh_69 (by decide) ?_
        refine lv_goto (tgt := 82) hx hb dM_fresh_70 (by decide) ?_
        refine lv_lor hx hb dM_fresh_82 ?_
        refine lv_lstore (lv' := [(5, .long ((cj_pa pp i) ||| 0)), (7, .int (nI i)), (4, .int (nI (ed j))), (0, .ref (ad 0)), (1, .int (nI j)), (2, .int (nI ea)), (3, .int (bI b))]) hx hb dM_fresh_83 hl (by decide) rfl (fun ls hl => ?_)
        refine lv_iinc (v := nI (i + 1)) (lv' := [(7, .int (nI (i + 1))), (5, .long ((cj_pa pp i) ||| 0)), (4, .int (nI (ed j))), (0, .ref (ad 0)), (1, .int (nI j)), (2, .int (nI ea)), (3, .int (bI b))]) hx hb dM_fresh_85 hl (k := 1) rfl (cj_inc _) (by decide) rfl (fun ls hl => ?_)
        refine lv_goto (tgt := 45) hx hb dM_fresh_88 (by decide) ?_
        exact ih (i + 1) _ _ ls (by omega) V (lv_sub hl [0, 1, 2, 3, 4, 5, 6] (by rw [cj_pa_n hq, cj_or0L]; rfl)) kont
      ·
        have hpi : pr i = nI q := by rw [hpr i (by omega), hq]; rfl
        have hq40 := hpp i q hq
        refine lv_lload hx hb dM_fresh_56 (lv_at hl 1 rfl) ?_
        refine lv_aload_n hx hb dM_fresh_58 rfl (lv_at hl 3 rfl) ?_
        refine gM 12 X V fl_M_39 (by decide) rfl dM_fresh_59 ?_
        refine lv_iload hx hb dM_fresh_62 (lv_at hl 0 rfl) ?_
        refine rM_pr X V (by omega) dM_fresh_64 ?_
        refine cj_ti hpi ?_
        refine lv_iconst (v := (-1)) hx hb dM_fresh_65 (by decide) ?_
        refine lv_icmp_ne (tgt := 73) hx hb dM_fresh_66 (by decide) (fun _ => ?_) (fun h => absurd h (cj_nm1 (by omega)))
        refine lv_lconst (v := lN 1) hx hb dM_fresh_73 (by decide) ?_
        refine lv_aload_n hx hb dM_fresh_74 rfl (lv_at hl 3 rfl) ?_
        refine gM 12 X V fl_M_39 (by decide) rfl dM_fresh_75 ?_
        refine lv_iload hx hb dM_fresh_78 (lv_at hl 0 rfl) ?_
        refine rM_pr X V (by omega) dM_fresh_80 ?_
        refine cj_ti hpi ?_
        refine lv_lshl hx hb dM_fresh_81 (cj_shl1 (by omega)) ?_
        refine lv_lor hx hb dM_fresh_82 ?_
        refine lv_lstore (lv' := [(5, .long ((cj_pa pp i) ||| (cj_bit q))), (7, .int (nI i)), (4, .int (nI (ed j))), (0, .ref (ad 0)), (1, .int (nI j)), (2, .int (nI ea)), (3, .int (bI b))]) hx hb dM_fresh_83 hl (by decide) rfl (fun ls hl => ?_)
        refine lv_iinc (v := nI (i + 1)) (lv' := [(7, .int (nI (i + 1))), (5, .long ((cj_pa pp i) ||| (cj_bit q))), (4, .int (nI (ed j))), (0, .ref (ad 0)), (1, .int (nI j)), (2, .int (nI ea)), (3, .int (bI b))]) hx hb dM_fresh_85 hl (k := 1) rfl (cj_inc _) (by decide) rfl (fun ls hl => ?_)
        refine lv_goto (tgt := 45) hx hb dM_fresh_88 (by decide) ?_
        exact ih (i + 1) _ _ ls (by omega) V (lv_sub hl [0, 1, 2, 3, 4, 5, 6] (by rw [cj_pa_s hq]; rfl)) kont
set_option maxRecDepth 100000 in
set_option maxHeartbeats 4000000 in
theorem lp_M_frB {p : Program} {l : Launch} {e : Env} {s : State} {m : MethodId} {args : Array Value} {below : List Frame} {meth : Method} {c : Code} {Q : State → Prop} {D : va_G} {kd : Nat → ClassId} {A : Nat → Prop} {H0 : Heap} {ad : Nat → Nat} {E : Nat} {rn : Nat} {ch : Int32} {n : Nat → Nat} {con : Nat → Int32} {ow : Nat → Nat} {ge : Nat → Bool} {cl : Nat → Bool} {ed : Nat → Nat} {co : Nat → Nat} {hz : Nat → Int64} {lo : Nat → Nat} {pr : Nat → Int32} (X : cj_X p s m args c meth cM_fresh 10 RM D kd) (hn : ∀ i, n i ≤ 40) (j ea : Nat) (b : Bool) (hj : j < 14) (hej : ed j < 8) (hea : ea < 8) (old : Int64) : ∀ (d i : Nat) (H : Heap) (locs : List Loc) (ls : Array Slot), i + d = n (ed j) → cj_V D A H0 (wM kd ad E rn ch n con ow ge cl ed co hz lo pr) H locs → lv_has ls 10 [(8, .int (nI i)), (7, .int (nI (cj_cnt (cj_FR ge old (hz j) (ed j) b) i))), (5, .long old), (4, .int (nI (ed j))), (0, .ref (ad 0)), (1, .int (nI j)), (2, .int (nI ea)), (3, .int (bI b))] → (∀ (H : Heap) (locs : List Loc) (ls : Array Slot), cj_V D A H0 (wM kd ad E rn ch n con ow ge cl ed co hz lo pr) H locs → lv_has ls 10 [(8, .int (nI (n (ed j)))), (7, .int (nI (cj_cnt (cj_FR ge old (hz j) (ed j) b) (n (ed j))))), (5, .long old), (4, .int (nI (ed j))), (0, .ref (ad 0)), (1, .int (nI j)), (2, .int (nI ea)), (3, .int (bI b))] → W p l e (cj_rm 2) s m args below meth c H locs 0 0 Q (F0 m 179 ls [])) → W p l e (cj_rm 2) s m args below meth c H locs 0 0 Q (F0 m 97 ls []) := by
  obtain ⟨⟨hx, hb, hml, hown, hts⟩, hK, hlk⟩ := id X
  intro d
  induction d with
  | zero =>
    intro i H locs ls hi V hl kont
    have hnj := hn (ed j)
    refine lv_iload hx hb dM_fresh_97 (lv_at hl 0 rfl) ?_
    refine lv_aload_n hx hb dM_fresh_99 rfl (lv_at hl 4 rfl) ?_
    refine gM 3 X V fl_M_7 (by decide) rfl dM_fresh_100 ?_
    refine lv_iload hx hb dM_fresh_103 (lv_at hl 3 rfl) ?_
    refine rM_n X V (by omega) dM_fresh_105 ?_
    have f_e_1 := hn (ed j)
    refine cj_n_ge (tgt := 179) hx hb dM_fresh_106 (by decide) (by omega) (by omega) (fun c_2 => ?_) (fun c_2 => ?_)
    ·
      obtain rfl : i = n (ed j) := by omega
      exact kont _ _ _ V (lv_sub hl [0, 1, 2, 3, 4, 5, 6, 7] rfl)
    ·
      exact absurd c_2 (by omega)
  | succ d ih =>
    intro i H locs ls hi V hl kont
    have hnj := hn (ed j)
    refine lv_iload hx hb dM_fresh_97 (lv_at hl 0 rfl) ?_
    refine lv_aload_n hx hb dM_fresh_99 rfl (lv_at hl 4 rfl) ?_
    refine gM 3 X V fl_M_7 (by decide) rfl dM_fresh_100 ?_
    refine lv_iload hx hb dM_fresh_103 (lv_at hl 3 rfl) ?_
    refine rM_n X V (by omega) dM_fresh_105 ?_
    have f_e_1 := hn (ed j)
    refine cj_n_ge (tgt := 179) hx hb dM_fresh_106 (by decide) (by omega) (by omega) (fun c_2 => ?_) (fun c_2 => ?_)
    ·
      exact absurd c_2 (by omega)
    ·
      refine lv_lload hx hb dM_fresh_109 (lv_at hl 2 rfl) ?_
      refine lv_iload hx hb dM_fresh_111 (lv_at hl 0 rfl) ?_
      refine lv_lshr hx hb dM_fresh_113 rfl ?_
      refine lv_lconst (v := lN 1) hx hb dM_fresh_114 (by decide) ?_
      refine lv_land hx hb dM_fresh_115 ?_
      refine lv_lconst (v := 0) hx hb dM_fresh_116 (by decide) ?_
      refine cj_l_ne (tgt := 141) hx hb dM_fresh_117 dM_fresh_118 (by decide) (fun c_3 => ?_) (fun c_3 => ?_)
      ·
        refine lv_iconst (v := nI 0) hx hb dM_fresh_141 (by decide) ?_
        refine lv_istore (lv' := [(9, .int (nI 0)), (8, .int (nI i)), (7, .int (nI (cj_cnt (cj_FR ge old (hz j) (ed j) b) i))), (5, .long old), (4, .int (nI (ed j))), (0, .ref (ad 0)), (1, .int (nI j)), (2, .int (nI ea)), (3, .int (bI b))]) hx hb dM_fresh_142 hl (by decide) rfl (fun ls hl => ?_)
        refine lv_iload hx hb dM_fresh_144 (lv_at hl 2 rfl) ?_
        refine lv_iload hx hb dM_fresh_146 (lv_at hl 0 rfl) ?_
        refine lv_if_eq (tgt := 169) hx hb dM_fresh_148 (by decide) (fun _ => ?_) (fun h => absurd (by decide) h)
        refine lv_iconst (v := nI 0) hx hb dM_fresh_169 (by decide) ?_
        refine cj_iaddN hx hb dM_fresh_170 ?_
        refine lv_istore (lv' := [(7, .int (nI ((cj_cnt (cj_FR ge old (hz j) (ed j) b) i) + 0))), (9, .int (nI 0)), (8, .int (nI i)), (5, .long old), (4, .int (nI (ed j))), (0, .ref (ad 0)), (1, .int (nI j)), (2, .int (nI ea)), (3, .int (bI b))]) hx hb dM_fresh_171 hl (by decide) rfl (fun ls hl => ?_)
        refine lv_iinc (v := nI (i + 1)) (lv' := [(8, .int (nI (i + 1))), (7, .int (nI ((cj_cnt (cj_FR ge old (hz j) (ed j) b) i) + 0))), (9, .int (nI 0)), (5, .long old), (4, .int (nI (ed j))), (0, .ref (ad 0)), (1, .int (nI j)), (2, .int (nI ea)), (3, .int (bI b))]) hx hb dM_fresh_173 hl (k := 2) rfl (cj_inc _) (by decide) rfl (fun ls hl => ?_)
        refine lv_goto (tgt := 97) hx hb dM_fresh_176 (by decide) ?_
        have hold := cj_sar0_f (by omega) c_3
        exact ih (i + 1) _ _ ls (by omega) V (lv_sub hl [0, 1, 3, 4, 5, 6, 7, 8] (by rw [cj_cs_f (show cj_FR ge old (hz j) (ed j) b i = false by simp [cj_FR, hold, hold])]; rfl)) kont
      ·
        refine lv_aload_n hx hb dM_fresh_121 rfl (lv_at hl 4 rfl) ?_
        refine gM 6 X V fl_M_19 (by decide) rfl dM_fresh_122 ?_
        refine lv_bipush (v := nI 40) hx hb dM_fresh_125 (by decide) ?_
        refine lv_iload hx hb dM_fresh_127 (lv_at hl 3 rfl) ?_
        refine cj_imulN hx hb dM_fresh_129 ?_
        refine lv_iload hx hb dM_fresh_130 (lv_at hl 0 rfl) ?_
        refine cj_iaddN hx hb dM_fresh_132 ?_
        refine rM_ge X V (by omega) dM_fresh_133 ?_
        refine cj_b_ne (tgt := 141) hx hb dM_fresh_134 (by decide) (fun c_5 => ?_) (fun c_5 => ?_)
        ·
          refine lv_iconst (v := nI 0) hx hb dM_fresh_141 (by decide) ?_
          refine lv_istore (lv' := [(9, .int (nI 0)), (8, .int (nI i)), (7, .int (nI (cj_cnt (cj_FR ge old (hz j) (ed j) b) i))), (5, .long old), (4, .int (nI (ed j))), (0, .ref (ad 0)), (1, .int (nI j)), (2, .int (nI ea)), (3, .int (bI b))]) hx hb dM_fresh_142 hl (by decide) rfl (fun ls hl => ?_)
          refine lv_iload hx hb dM_fresh_144 (lv_at hl 2 rfl) ?_
          refine lv_iload hx hb dM_fresh_146 (lv_at hl 0 rfl) ?_
          refine lv_if_eq (tgt := 169) hx hb dM_fresh_148 (by decide) (fun _ => ?_) (fun h => absurd (by decide) h)
          refine lv_iconst (v := nI 0) hx hb dM_fresh_169 (by decide) ?_
          refine cj_iaddN hx hb dM_fresh_170 ?_
          refine lv_istore (lv' := [(7, .int (nI ((cj_cnt (cj_FR ge old (hz j) (ed j) b) i) + 0))), (9, .int (nI 0)), (8, .int (nI i)), (5, .long old), (4, .int (nI (ed j))), (0, .ref (ad 0)), (1, .int (nI j)), (2, .int (nI ea)), (3, .int (bI b))]) hx hb dM_fresh_171 hl (by decide) rfl (fun ls hl => ?_)
          refine lv_iinc (v := nI (i + 1)) (lv' := [(8, .int (nI (i + 1))), (7, .int (nI ((cj_cnt (cj_FR ge old (hz j) (ed j) b) i) + 0))), (9, .int (nI 0)), (5, .long old), (4, .int (nI (ed j))), (0, .ref (ad 0)), (1, .int (nI j)), (2, .int (nI ea)), (3, .int (bI b))]) hx hb dM_fresh_173 hl (k := 2) rfl (cj_inc _) (by decide) rfl (fun ls hl => ?_)
          refine lv_goto (tgt := 97) hx hb dM_fresh_176 (by decide) ?_
          have hold := (cj_sar0 (by omega)).mp c_3
          exact ih (i + 1) _ _ ls (by omega) V (lv_sub hl [0, 1, 3, 4, 5, 6, 7, 8] (by rw [cj_cs_f (show cj_FR ge old (hz j) (ed j) b i = false by simp [cj_FR, hold, c_5])]; rfl)) kont
        ·
          refine lv_iconst (v := nI 1) hx hb dM_fresh_137 (by decide) ?_
          refine lv_goto (tgt := 142) hx hb dM_fresh_138 (by decide) ?_
          refine lv_istore (lv' := [(9, .int (nI 1)), (8, .int (nI i)), (7, .int (nI (cj_cnt (cj_FR ge old (hz j) (ed j) b) i))), (5, .long old), (4, .int (nI (ed j))), (0, .ref (ad 0)), (1, .int (nI j)), (2, .int (nI ea)), (3, .int (bI b))]) hx hb dM_fresh_142 hl (by decide) rfl (fun ls hl => ?_)
          refine lv_iload hx hb dM_fresh_144 (lv_at hl 2 rfl) ?_
          refine lv_iload hx hb dM_fresh_146 (lv_at hl 0 rfl) ?_
          refine lv_if_eq (tgt := 169) hx hb dM_fresh_148 (by decide) (fun h => absurd h (by decide)) (fun _ => ?_)
          refine lv_iload_n hx hb dM_fresh_151 rfl (lv_at hl 8 rfl) ?_
          refine cj_b_eq (tgt := 165) hx hb dM_fresh_152 (by decide) (fun c_8 => ?_) (fun c_8 => ?_)
          ·
            refine lv_iconst (v := nI 1) hx hb dM_fresh_165 (by decide) ?_
            refine lv_goto (tgt := 170) hx hb dM_fresh_166 (by decide) ?_
            refine cj_iaddN hx hb dM_fresh_170 ?_
            refine lv_istore (lv' := [(7, .int (nI ((cj_cnt (cj_FR ge old (hz j) (ed j) b) i) + 1))), (9, .int (nI 1)), (8, .int (nI i)), (5, .long old), (4, .int (nI (ed j))), (0, .ref (ad 0)), (1, .int (nI j)), (2, .int (nI ea)), (3, .int (bI b))]) hx hb dM_fresh_171 hl (by decide) rfl (fun ls hl => ?_)
            refine lv_iinc (v := nI (i + 1)) (lv' := [(8, .int (nI (i + 1))), (7, .int (nI ((cj_cnt (cj_FR ge old (hz j) (ed j) b) i) + 1))), (9, .int (nI 1)), (5, .long old), (4, .int (nI (ed j))), (0, .ref (ad 0)), (1, .int (nI j)), (2, .int (nI ea)), (3, .int (bI b))]) hx hb dM_fresh_173 hl (k := 2) rfl (cj_inc _) (by decide) rfl (fun ls hl => ?_)
            refine lv_goto (tgt := 97) hx hb dM_fresh_176 (by decide) ?_
            have hold := (cj_sar0 (by omega)).mp c_3
            exact ih (i + 1) _ _ ls (by omega) V (lv_sub hl [0, 1, 3, 4, 5, 6, 7, 8] (by rw [cj_cs_t (show cj_FR ge old (hz j) (ed j) b i = true by simp [cj_FR, hold, c_5, c_8])]; rfl)) kont
          ·
            refine lv_aload_n hx hb dM_fresh_155 rfl (lv_at hl 5 rfl) ?_
            refine lv_iload_n hx hb dM_fresh_156 rfl (lv_at hl 6 rfl) ?_
            refine lv_iload hx hb dM_fresh_157 (lv_at hl 1 rfl) ?_
            refine cj_cvi X V (c_M_isHit l D kd ad j i (by omega) (by omega)) 0 2 rfl rfl rfl ml_M_61 im_M_isHit se_M_isHit in_M cd_M_isHit hd_M_isHit ⟨by decide, by decide⟩ ⟨Nat.le_refl _, Nat.le_refl _⟩ hl.1 rfl (Nat.le_of_ble_eq_true rfl) dM_fresh_159 (fun r_9 u_9 H locs hw V => ?_)
            obtain rfl := hw
            refine cj_b_eq (tgt := 169) hx hb dM_fresh_162 (by decide) (fun c_9 => ?_) (fun c_9 => ?_)
            ·
              refine lv_iconst (v := nI 0) hx hb dM_fresh_169 (by decide) ?_
              refine cj_iaddN hx hb dM_fresh_170 ?_
              refine lv_istore (lv' := [(7, .int (nI ((cj_cnt (cj_FR ge old (hz j) (ed j) b) i) + 0))), (9, .int (nI 1)), (8, .int (nI i)), (5, .long old), (4, .int (nI (ed j))), (0, .ref (ad 0)), (1, .int (nI j)), (2, .int (nI ea)), (3, .int (bI b))]) hx hb dM_fresh_171 hl (by decide) rfl (fun ls hl => ?_)
              refine lv_iinc (v := nI (i + 1)) (lv' := [(8, .int (nI (i + 1))), (7, .int (nI ((cj_cnt (cj_FR ge old (hz j) (ed j) b) i) + 0))), (9, .int (nI 1)), (5, .long old), (4, .int (nI (ed j))), (0, .ref (ad 0)), (1, .int (nI j)), (2, .int (nI ea)), (3, .int (bI b))]) hx hb dM_fresh_173 hl (k := 2) rfl (cj_inc _) (by decide) rfl (fun ls hl => ?_)
              refine lv_goto (tgt := 97) hx hb dM_fresh_176 (by decide) ?_
              have hold := (cj_sar0 (by omega)).mp c_3
              exact ih (i + 1) _ _ ls (by omega) V (lv_sub hl [0, 1, 3, 4, 5, 6, 7, 8] (by rw [cj_cs_f (show cj_FR ge old (hz j) (ed j) b i = false by simp [cj_FR, hold, c_5, c_8, c_9])]; rfl)) kont
            ·
              refine lv_iconst (v := nI 1) hx hb dM_fresh_165 (by decide) ?_
              refine lv_goto (tgt := 170) hx hb dM_fresh_166 (by decide) ?_
              refine cj_iaddN hx hb dM_fresh_170 ?_
              refine lv_istore (lv' := [(7, .int (nI ((cj_cnt (cj_FR ge old (hz j) (ed j) b) i) + 1))), (9, .int (nI 1)), (8, .int (nI i)), (5, .long old), (4, .int (nI (ed j))), (0, .ref (ad 0)), (1, .int (nI j)), (2, .int (nI ea)), (3, .int (bI b))]) hx hb dM_fresh_171 hl (by decide) rfl (fun ls hl => ?_)
              refine lv_iinc (v := nI (i + 1)) (lv' := [(8, .int (nI (i + 1))), (7, .int (nI ((cj_cnt (cj_FR ge old (hz j) (ed j) b) i) + 1))), (9, .int (nI 1)), (5, .long old), (4, .int (nI (ed j))), (0, .ref (ad 0)), (1, .int (nI j)), (2, .int (nI ea)), (3, .int (bI b))]) hx hb dM_fresh_173 hl (k := 2) rfl (cj_inc _) (by decide) rfl (fun ls hl => ?_)
              refine lv_goto (tgt := 97) hx hb dM_fresh_176 (by decide) ?_
              have hold := (cj_sar0 (by omega)).mp c_3
              exact ih (i + 1) _ _ ls (by omega) V (lv_sub hl [0, 1, 3, 4, 5, 6, 7, 8] (by rw [cj_cs_t (show cj_FR ge old (hz j) (ed j) b i = true by simp [cj_FR, hold, c_5, c_8, c_9])]; rfl)) kont
set_option maxRecDepth 100000 in
set_option maxHeartbeats 4000000 in
theorem c_M_fresh (l : Launch) (D : va_G) (kd : Nat → ClassId) (ad : Nat → Nat) {E : Nat} {rn : Nat} {ch : Int32} {n : Nat → Nat} {con : Nat → Int32} {ow : Nat → Nat} {ge : Nat → Bool} {cl : Nat → Bool} {ed : Nat → Nat} {co : Nat → Nat} {hz : Nat → Int64} {lo : Nat → Nat} {pr : Nat → Int32} (hE : E ≤ 8) (hn : ∀ i, n i ≤ 40) (hR : rn ≤ 14) (hed : ∀ r, r < rn → ed r < E) (hco : ∀ r, co r ≤ 100000) (x y : Int32) (b : Bool) : cj_Mi (S := (Nat → Bool) × (Nat → Nat) × (Nat → Int32)) l yM_fresh cM_fresh 10 (some .int) 2 D kd [.ref (ad 0), .int x, .int y, .int (bI b)] (wM kd ad E rn ch n con ow ge cl ed co hz lo pr) (fun r u => r = f_freshM E rn n (cj_c2 con) ge ed hz x y b ∧ u.1 = k_cl cl (q_fresh E rn ed x y)) (fun u => wM kd ad E rn ch n con ow ge u.1 ed co hz u.2.1 u.2.2) := by
  refine cj_ofi (by decide) (Nat.le_of_ble_eq_true rfl) ?_
  intro p e s m below meth c A ls X hr V hl
  obtain ⟨⟨hx, hb, hml, hown, hts⟩, hK, hlk⟩ := id X
  have hl : lv_has ls 10 [(0, .ref (ad 0)), (1, .int x), (2, .int y), (3, .int (bI b))] := hl
  refine lv_iload_n hx hb dM_fresh_0 rfl (lv_at hl 1 rfl) ?_
  refine lv_aload_n hx hb dM_fresh_1 rfl (lv_at hl 0 rfl) ?_
  refine gM 1 X V fl_M_50 (by decide) rfl dM_fresh_2 ?_
  refine cj_csi X V (c_M_in l D kd ad x rn (by omega)) ml_M_46 st_M_in in_M cd_M_in hd_M_in ⟨by decide, by decide⟩ ⟨Nat.le_refl _, Nat.le_refl _⟩ hl.1 rfl (Nat.le_of_ble_eq_true rfl) dM_fresh_5 (fun r_9 u_9 H locs hw V => ?_)
  rcases hw with ⟨rfl, j_1, hj_1, rfl⟩ | ⟨rfl, hj_1⟩
  ·
    have ij_1 := cj_ix_t hj_1 (show rn < 2 ^ 31 by omega)
    refine lv_if_eq (tgt := 22) hx hb dM_fresh_8 (by decide) (fun h => absurd h (by decide)) (fun _ => ?_)
    refine lv_iload_n hx hb dM_fresh_11 rfl (lv_at hl 2 rfl) ?_
    refine lv_aload_n hx hb dM_fresh_12 rfl (lv_at hl 0 rfl) ?_
    refine gM 0 X V fl_M_42 (by decide) rfl dM_fresh_13 ?_
    refine cj_csi X V (c_M_in l D kd ad y E (by omega)) ml_M_46 st_M_in in_M cd_M_in hd_M_in ⟨by decide, by decide⟩ ⟨Nat.le_refl _, Nat.le_refl _⟩ hl.1 rfl (Nat.le_of_ble_eq_true rfl) dM_fresh_16 (fun r_9 u_9 H locs hw V => ?_)
    rcases hw with ⟨rfl, j_3, hj_3, rfl⟩ | ⟨rfl, hj_3⟩
    ·
      have ij_3 := cj_ix_t hj_3 (show E < 2 ^ 31 by omega)
      refine lv_if_ne (tgt := 24) hx hb dM_fresh_19 (by decide) (fun _ => ?_) (fun h => absurd h (by decide))
      refine lv_aload_n hx hb dM_fresh_24 rfl (lv_at hl 0 rfl) ?_
      refine gM 8 X V fl_M_26 (by decide) rfl dM_fresh_25 ?_
      refine lv_iload_n hx hb dM_fresh_28 rfl (lv_at hl 1 rfl) ?_
      refine rM_ed X V (by omega) dM_fresh_29 ?_
      have f_e_5 := hed j_1 (by omega)
      refine lv_istore (lv' := [(4, .int (nI (ed j_1))), (0, .ref (ad 0)), (1, .int (nI j_1)), (2, .int (nI j_3)), (3, .int (bI b))]) hx hb dM_fresh_30 hl (by decide) rfl (fun ls hl => ?_)
      refine lv_aload_n hx hb dM_fresh_32 rfl (lv_at hl 1 rfl) ?_
      refine lv_iload_n hx hb dM_fresh_33 rfl (lv_at hl 3 rfl) ?_
      refine lv_iload hx hb dM_fresh_34 (lv_at hl 0 rfl) ?_
      refine cj_cvv X V (c_M_compare l D kd ad j_3 (ed j_1) (by omega) (by omega) hn) 0 2 rfl rfl rfl ml_M_68 im_M_compare se_M_compare in_M cd_M_compare hd_M_compare ⟨by decide, by decide⟩ ⟨Nat.le_refl _, Nat.le_refl _⟩ hl.1 rfl (Nat.le_of_ble_eq_true rfl) dM_fresh_36 (fun uc H locs hw V => ?_)
      have hP := hw
      refine lv_lconst (v := 0) hx hb dM_fresh_39 (by decide) ?_
      refine lv_lstore (lv' := [(5, .long 0), (4, .int (nI (ed j_1))), (0, .ref (ad 0)), (1, .int (nI j_1)), (2, .int (nI j_3)), (3, .int (bI b))]) hx hb dM_fresh_40 hl (by decide) rfl (fun ls hl => ?_)
      refine lv_iconst (v := nI 0) hx hb dM_fresh_42 (by decide) ?_
      refine lv_istore (lv' := [(7, .int (nI 0)), (5, .long 0), (4, .int (nI (ed j_1))), (0, .ref (ad 0)), (1, .int (nI j_1)), (2, .int (nI j_3)), (3, .int (bI b))]) hx hb dM_fresh_43 hl (by decide) rfl (fun ls hl => ?_)
      have hej := hed j_1 (by omega)
      refine lp_M_frA X hn j_1 j_3 b (by omega) (by omega) (by omega) (cj_pp (fun i => con (40 * j_3 + i)) (fun i => con (40 * (ed j_1) + i)) (n j_3) (n (ed j_1))) hP (fun i q h => by have h1 := cj_pp_lt h; have h2 := hn (ed j_1); omega) (n j_3) 0 _ _ ls (by omega) V (lv_sub hl [0, 1, 2, 3, 4, 5, 6] rfl) (fun H locs ls V hl => ?_)
      refine lv_iconst (v := nI 0) hx hb dM_fresh_91 (by decide) ?_
      refine lv_istore (lv' := [(7, .int (nI 0)), (5, .long (cj_pa (cj_pp (fun i => con (40 * j_3 + i)) (fun i => con (40 * (ed j_1) + i)) (n j_3) (n (ed j_1))) (n j_3))), (4, .int (nI (ed j_1))), (0, .ref (ad 0)), (1, .int (nI j_1)), (2, .int (nI j_3)), (3, .int (bI b))]) hx hb dM_fresh_92 hl (by decide) rfl (fun ls hl => ?_)
      refine lv_iconst (v := nI 0) hx hb dM_fresh_94 (by decide) ?_
      refine lv_istore (lv' := [(8, .int (nI 0)), (7, .int (nI 0)), (5, .long (cj_pa (cj_pp (fun i => con (40 * j_3 + i)) (fun i => con (40 * (ed j_1) + i)) (n j_3) (n (ed j_1))) (n j_3))), (4, .int (nI (ed j_1))), (0, .ref (ad 0)), (1, .int (nI j_1)), (2, .int (nI j_3)), (3, .int (bI b))]) hx hb dM_fresh_95 hl (by decide) rfl (fun ls hl => ?_)
      refine lp_M_frB X hn j_1 j_3 b (by omega) (by omega) (by omega) (cj_pa (cj_pp (fun i => con (40 * j_3 + i)) (fun i => con (40 * (ed j_1) + i)) (n j_3) (n (ed j_1))) (n j_3)) (n (ed j_1)) 0 _ _ ls (by omega) V (lv_sub hl [0, 1, 2, 3, 4, 5, 6, 7] rfl) (fun H locs ls V hl => ?_)
      refine lv_iload hx hb dM_fresh_179 (lv_at hl 1 rfl) ?_
      exact cj_reti (va_up (va_up cl j_3 true) (ed j_1) true, uc.1, uc.2) X hr V (by refine ⟨?_, ?_⟩; · { simp only [f_freshM, ij_1, ij_3] }; · { simp only [q_fresh, ij_1, ij_3]; rfl }) dM_fresh_181
    ·
      have ij_3 := cj_ix_f hj_3
      refine lv_if_ne (tgt := 24) hx hb dM_fresh_19 (by decide) (fun h => absurd (by decide) h) (fun _ => ?_)
      refine lv_iconst (v := (-1)) hx hb dM_fresh_22 (by decide) ?_
      exact cj_reti (cl, lo, pr) X hr V (by refine ⟨?_, ?_⟩; · { simp only [f_freshM, ij_1, ij_3] }; · { simp only [q_fresh, ij_1, ij_3]; rfl }) dM_fresh_23
  ·
    have ij_1 := cj_ix_f hj_1
    refine lv_if_eq (tgt := 22) hx hb dM_fresh_8 (by decide) (fun _ => ?_) (fun h => absurd (by decide) h)
    refine lv_iconst (v := (-1)) hx hb dM_fresh_22 (by decide) ?_
    exact cj_reti (cl, lo, pr) X hr V (by refine ⟨?_, ?_⟩; · { simp only [f_freshM, ij_1] }; · { simp only [q_fresh, ij_1]; rfl }) dM_fresh_23
