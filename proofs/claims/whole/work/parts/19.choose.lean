set_option maxRecDepth 100000 in
set_option maxHeartbeats 4000000 in
theorem lp_C_choose {p : Program} {l : Launch} {e : Env} {s : State} {m : MethodId} {args : Array Value} {below : List Frame} {meth : Method} {c : Code} {Q : State → Prop} {D : va_G} {kd : Nat → ClassId} {A : Nat → Prop} {H0 : Heap} {ad : Nat → Nat} {E : Nat} {n : Nat → Nat} {cl : Nat → Bool} {con : Nat → Nat → Int32} {ow : Nat → Nat → Int64} {rn : Nat} {ed : Nat → Nat} {co : Nat → Nat} {hz : Nat → Int64} {mp : Nat → Nat → Nat} {cn : Nat} {hs : Nat → Int64} {wg : Nat → Int64} {rs : Nat → Int64} {ch : Int32} (X : cj_X p s m args c meth cC_choosePairs 6 RC D kd) (fa ga : Nat) (hf : fa < 8) (hg : ga < 8) (hn : ∀ i, n i ≤ 40) (hJ : cj_J (con fa) (con ga) (n fa) (n ga) mp 0) : ∀ (d i : Nat) (pr : Nat → Int32) (H : Heap) (locs : List Loc) (ls : Array Slot), i + d = n fa → (∀ j, j < i → pr j = oI (cj_pp (con fa) (con ga) (n fa) (n ga) j)) → cj_V D A H0 (wC kd ad E n cl con ow rn ed co hz mp pr cn hs wg rs ch) H locs → lv_has ls 6 [(4, .int (nI i)), (3, .int (nI (cj_pf (con fa) (con ga) (n fa) (n ga) i))), (0, .ref (ad 0)), (1, .int (nI fa)), (2, .int (nI ga))] → (∀ (pr : Nat → Int32) (H : Heap) (locs : List Loc) (ls : Array Slot), (∀ j, j < n fa → pr j = oI (cj_pp (con fa) (con ga) (n fa) (n ga) j)) → cj_V D A H0 (wC kd ad E n cl con ow rn ed co hz mp pr cn hs wg rs ch) H locs → lv_has ls 6 [(4, .int (nI (n fa))), (3, .int (nI (cj_pf (con fa) (con ga) (n fa) (n ga) (n fa)))), (0, .ref (ad 0)), (1, .int (nI fa)), (2, .int (nI ga))] → W p l e (cj_rm 1) s m args below meth c H locs 0 0 Q (F0 m 98 ls [])) → W p l e (cj_rm 1) s m args below meth c H locs 0 0 Q (F0 m 5 ls []) := by
  obtain ⟨⟨hx, hb, hml, hown, hts⟩, hK, hlk⟩ := id X
  intro d
  induction d with
  | zero =>
    intro i pr H locs ls hi hP V hl kont
    have hnf := hn fa
    have hng := hn ga
    have hpf := cj_pf_le (a := con fa) (b := con ga) (h := n fa) (w := n ga) i
    refine lv_iload hx hb dC_choosePairs_5 (lv_at hl 0 rfl) ?_
    refine lv_aload_n hx hb dC_choosePairs_7 rfl (lv_at hl 2 rfl) ?_
    refine gC 1 X V fl_C_13 (by decide) rfl dC_choosePairs_8 ?_
    refine lv_iload_n hx hb dC_choosePairs_11 rfl (lv_at hl 3 rfl) ?_
    refine rC_n X V (by omega) dC_choosePairs_12 ?_
    refine cj_n_ge (tgt := 98) hx hb dC_choosePairs_13 (by decide) (by omega) (by omega) (fun c_1 => ?_) (fun c_1 => ?_)
    ·
      obtain rfl : i = n fa := by omega
      exact kont _ _ _ _ hP V (lv_sub hl [0, 1, 2, 3, 4] rfl)
    ·
      exact absurd c_1 (by omega)
  | succ d ih =>
    intro i pr H locs ls hi hP V hl kont
    have hnf := hn fa
    have hng := hn ga
    have hpf := cj_pf_le (a := con fa) (b := con ga) (h := n fa) (w := n ga) i
    refine lv_iload hx hb dC_choosePairs_5 (lv_at hl 0 rfl) ?_
    refine lv_aload_n hx hb dC_choosePairs_7 rfl (lv_at hl 2 rfl) ?_
    refine gC 1 X V fl_C_13 (by decide) rfl dC_choosePairs_8 ?_
    refine lv_iload_n hx hb dC_choosePairs_11 rfl (lv_at hl 3 rfl) ?_
    refine rC_n X V (by omega) dC_choosePairs_12 ?_
    refine cj_n_ge (tgt := 98) hx hb dC_choosePairs_13 (by decide) (by omega) (by omega) (fun c_1 => ?_) (fun c_1 => ?_)
    ·
      exact absurd c_1 (by omega)
    ·
      refine lv_aload_n hx hb dC_choosePairs_16 rfl (lv_at hl 2 rfl) ?_
      refine lv_aload_n hx hb dC_choosePairs_17 rfl (lv_at hl 2 rfl) ?_
      refine gC 3 X V fl_C_23 (by decide) rfl dC_choosePairs_18 ?_
      refine lv_iload_n hx hb dC_choosePairs_21 rfl (lv_at hl 3 rfl) ?_
      refine rC_conO X V (by omega) dC_choosePairs_22 ?_
      refine lv_iload hx hb dC_choosePairs_23 (lv_at hl 0 rfl) ?_
      refine rC_conR X V (by omega) (by omega) dC_choosePairs_25 ?_
      refine lv_iload_n hx hb dC_choosePairs_26 rfl (lv_at hl 4 rfl) ?_
      refine lv_iload_n hx hb dC_choosePairs_27 rfl (lv_at hl 1 rfl) ?_
      refine cj_cvi X V (c_C_placeOf l D kd ad (con fa i) ga hg hn (cj_pf (con fa) (con ga) (n fa) (n ga) i) (cj_pf_le _)) 0 1 rfl rfl rfl ml_C_144 im_C_placeOf se_C_placeOf in_C cd_C_placeOf hd_C_placeOf ⟨by decide, by decide⟩ ⟨Nat.le_refl _, Nat.le_refl _⟩ hl.1 rfl (Nat.le_of_ble_eq_true rfl) dC_choosePairs_28 (fun r_9 u_9 H locs hw V => ?_)
      replace hw := cj_oI_cases hw
      rcases hw with ⟨rfl, hfd⟩ | ⟨q_2, hfd, rfl⟩
      ·
        refine lv_istore (lv' := [(5, .int (-1)), (4, .int (nI i)), (3, .int (nI (cj_pf (con fa) (con ga) (n fa) (n ga) i))), (0, .ref (ad 0)), (1, .int (nI fa)), (2, .int (nI ga))]) hx hb dC_choosePairs_31 hl (by decide) rfl (fun ls hl => ?_)
        refine lv_iload hx hb dC_choosePairs_33 (lv_at hl 0 rfl) ?_
        refine lv_iconst (v := (-1)) hx hb dC_choosePairs_35 (by decide) ?_
        refine lv_icmp_eq (tgt := 84) hx hb dC_choosePairs_36 (by decide) (fun _ => ?_) (fun h => absurd rfl h)
        refine lv_aload_n hx hb dC_choosePairs_84 rfl (lv_at hl 3 rfl) ?_
        refine gC 10 X V fl_C_47 (by decide) rfl dC_choosePairs_85 ?_
        refine lv_iload hx hb dC_choosePairs_88 (lv_at hl 1 rfl) ?_
        refine lv_iconst (v := (-1)) hx hb dC_choosePairs_90 (by decide) ?_
        refine sC_pr X V (by omega) dC_choosePairs_91 (fun H locs V => ?_)
        refine lv_iinc (v := nI (i + 1)) (lv' := [(4, .int (nI (i + 1))), (5, .int (-1)), (3, .int (nI (cj_pf (con fa) (con ga) (n fa) (n ga) i))), (0, .ref (ad 0)), (1, .int (nI fa)), (2, .int (nI ga))]) hx hb dC_choosePairs_92 hl (k := 1) rfl (cj_inc _) (by decide) rfl (fun ls hl => ?_)
        refine lv_goto (tgt := 5) hx hb dC_choosePairs_95 (by decide) ?_
        have hk : cj_pp (con fa) (con ga) (n fa) (n ga) i = none := cj_pk_n hfd
        exact ih (i + 1) _ _ _ ls (by omega) (cj_prs hP (by rw [hk]; rfl)) V (lv_sub hl [0, 2, 3, 4, 5] (by rw [cj_pf_n hk]; rfl)) kont
      ·
        have hq1 := cj_fd_lt hfd
        refine lv_istore (lv' := [(5, .int (nI q_2)), (4, .int (nI i)), (3, .int (nI (cj_pf (con fa) (con ga) (n fa) (n ga) i))), (0, .ref (ad 0)), (1, .int (nI fa)), (2, .int (nI ga))]) hx hb dC_choosePairs_31 hl (by decide) rfl (fun ls hl => ?_)
        refine lv_iload hx hb dC_choosePairs_33 (lv_at hl 0 rfl) ?_
        refine lv_iconst (v := (-1)) hx hb dC_choosePairs_35 (by decide) ?_
        refine lv_icmp_eq (tgt := 84) hx hb dC_choosePairs_36 (by decide) (fun h => absurd h (cj_nm1 (by omega))) (fun _ => ?_)
        refine lv_aload_n hx hb dC_choosePairs_39 rfl (lv_at hl 3 rfl) ?_
        refine gC 9 X V fl_C_44 (by decide) rfl dC_choosePairs_40 ?_
        refine lv_iload hx hb dC_choosePairs_43 (lv_at hl 1 rfl) ?_
        refine lv_iconst (v := nI 1) hx hb dC_choosePairs_45 (by decide) ?_
        refine cj_iaddN hx hb dC_choosePairs_46 ?_
        refine rC_mpO X V (by omega) dC_choosePairs_47 ?_
        refine lv_iload hx hb dC_choosePairs_48 (lv_at hl 0 rfl) ?_
        refine lv_iconst (v := nI 1) hx hb dC_choosePairs_50 (by decide) ?_
        refine cj_iaddN hx hb dC_choosePairs_51 ?_
        refine rC_mpR X V (by omega) (by omega) dC_choosePairs_52 ?_
        have f_e_5 := cj_J_le hJ hnf (i := (i + 1)) (j := q_2 + 1) (by omega) (by omega) (by omega)
        refine lv_iconst (v := nI 1) hx hb dC_choosePairs_53 (by decide) ?_
        refine cj_iaddN hx hb dC_choosePairs_54 ?_
        refine lv_aload_n hx hb dC_choosePairs_55 rfl (lv_at hl 3 rfl) ?_
        refine gC 9 X V fl_C_44 (by decide) rfl dC_choosePairs_56 ?_
        refine lv_iload hx hb dC_choosePairs_59 (lv_at hl 1 rfl) ?_
        refine rC_mpO X V (by omega) dC_choosePairs_61 ?_
        refine lv_iload_n hx hb dC_choosePairs_62 rfl (lv_at hl 2 rfl) ?_
        refine rC_mpR X V (by omega) (by omega) dC_choosePairs_63 ?_
        have f_e_6 := cj_J_le hJ hnf (i := i) (j := cj_pf (con fa) (con ga) (n fa) (n ga) i) (by omega) (by omega) (by omega)
        refine cj_n_ne (tgt := 84) hx hb dC_choosePairs_64 (by decide) (by omega) (by omega) (fun c_7 => ?_) (fun c_7 => ?_)
        ·
          refine lv_aload_n hx hb dC_choosePairs_84 rfl (lv_at hl 3 rfl) ?_
          refine gC 10 X V fl_C_47 (by decide) rfl dC_choosePairs_85 ?_
          refine lv_iload hx hb dC_choosePairs_88 (lv_at hl 1 rfl) ?_
          refine lv_iconst (v := (-1)) hx hb dC_choosePairs_90 (by decide) ?_
          refine sC_pr X V (by omega) dC_choosePairs_91 (fun H locs V => ?_)
          refine lv_iinc (v := nI (i + 1)) (lv' := [(4, .int (nI (i + 1))), (5, .int (nI q_2)), (3, .int (nI (cj_pf (con fa) (con ga) (n fa) (n ga) i))), (0, .ref (ad 0)), (1, .int (nI fa)), (2, .int (nI ga))]) hx hb dC_choosePairs_92 hl (k := 1) rfl (cj_inc _) (by decide) rfl (fun ls hl => ?_)
          refine lv_goto (tgt := 5) hx hb dC_choosePairs_95 (by decide) ?_
          rw [hJ (i + 1) (by omega) (by omega) (q_2 + 1) (by omega), hJ i (by omega) (by omega) _ (cj_pf_le i)] at c_7
          have hk : cj_pp (con fa) (con ga) (n fa) (n ga) i = none := cj_pk_f hfd c_7
          exact ih (i + 1) _ _ _ ls (by omega) (cj_prs hP (by rw [hk]; rfl)) V (lv_sub hl [0, 2, 3, 4, 5] (by rw [cj_pf_n hk]; rfl)) kont
        ·
          refine lv_aload_n hx hb dC_choosePairs_67 rfl (lv_at hl 3 rfl) ?_
          refine gC 10 X V fl_C_47 (by decide) rfl dC_choosePairs_68 ?_
          refine lv_iload hx hb dC_choosePairs_71 (lv_at hl 1 rfl) ?_
          refine lv_iload hx hb dC_choosePairs_73 (lv_at hl 0 rfl) ?_
          refine sC_pr X V (by omega) dC_choosePairs_75 (fun H locs V => ?_)
          refine lv_iload hx hb dC_choosePairs_76 (lv_at hl 0 rfl) ?_
          refine lv_iconst (v := nI 1) hx hb dC_choosePairs_78 (by decide) ?_
          refine cj_iaddN hx hb dC_choosePairs_79 ?_
          refine lv_istore_n (lv' := [(3, .int (nI (q_2 + 1))), (5, .int (nI q_2)), (4, .int (nI i)), (0, .ref (ad 0)), (1, .int (nI fa)), (2, .int (nI ga))]) hx hb dC_choosePairs_80 rfl hl (by decide) rfl (fun ls hl => ?_)
          refine lv_goto (tgt := 92) hx hb dC_choosePairs_81 (by decide) ?_
          refine lv_iinc (v := nI (i + 1)) (lv' := [(4, .int (nI (i + 1))), (3, .int (nI (q_2 + 1))), (5, .int (nI q_2)), (0, .ref (ad 0)), (1, .int (nI fa)), (2, .int (nI ga))]) hx hb dC_choosePairs_92 hl (k := 2) rfl (cj_inc _) (by decide) rfl (fun ls hl => ?_)
          refine lv_goto (tgt := 5) hx hb dC_choosePairs_95 (by decide) ?_
          rw [hJ (i + 1) (by omega) (by omega) (q_2 + 1) (by omega), hJ i (by omega) (by omega) _ (cj_pf_le i)] at c_7
          have hk : cj_pp (con fa) (con ga) (n fa) (n ga) i = some q_2 := cj_pk_s hfd c_7
          exact ih (i + 1) _ _ _ ls (by omega) (cj_prs hP (by rw [hk]; rfl)) V (lv_sub hl [0, 1, 3, 4, 5] (by rw [cj_pf_s hk]; rfl)) kont
set_option maxRecDepth 100000 in
set_option maxHeartbeats 4000000 in
theorem c_C_choosePairs (l : Launch) (D : va_G) (kd : Nat → ClassId) (ad : Nat → Nat) {E : Nat} {n : Nat → Nat} {cl : Nat → Bool} {con : Nat → Nat → Int32} {ow : Nat → Nat → Int64} {rn : Nat} {ed : Nat → Nat} {co : Nat → Nat} {hz : Nat → Int64} {mp : Nat → Nat → Nat} {pr : Nat → Int32} {cn : Nat} {hs : Nat → Int64} {wg : Nat → Int64} {rs : Nat → Int64} {ch : Int32} (fa ga : Nat) (hf : fa < 8) (hg : ga < 8) (hn : ∀ i, n i ≤ 40) (hJ : cj_J (con fa) (con ga) (n fa) (n ga) mp 0) : cj_Mv (S := Nat → Int32) l yC_choosePairs cC_choosePairs 6 none 1 D kd [.ref (ad 0), .int (nI fa), .int (nI ga)] (wC kd ad E n cl con ow rn ed co hz mp pr cn hs wg rs ch) (fun pr => ∀ j, j < n fa → pr j = oI (cj_pp (con fa) (con ga) (n fa) (n ga) j)) (fun pr => wC kd ad E n cl con ow rn ed co hz mp pr cn hs wg rs ch) := by
  refine cj_ofv (by decide) (Nat.le_of_ble_eq_true rfl) ?_
  intro p e s m below meth c A ls X hr V hl
  obtain ⟨⟨hx, hb, hml, hown, hts⟩, hK, hlk⟩ := id X
  have hl : lv_has ls 6 [(0, .ref (ad 0)), (1, .int (nI fa)), (2, .int (nI ga))] := hl
  refine lv_iconst (v := nI 0) hx hb dC_choosePairs_0 (by decide) ?_
  refine lv_istore_n (lv' := [(3, .int (nI 0)), (0, .ref (ad 0)), (1, .int (nI fa)), (2, .int (nI ga))]) hx hb dC_choosePairs_1 rfl hl (by decide) rfl (fun ls hl => ?_)
  refine lv_iconst (v := nI 0) hx hb dC_choosePairs_2 (by decide) ?_
  refine lv_istore (lv' := [(4, .int (nI 0)), (3, .int (nI 0)), (0, .ref (ad 0)), (1, .int (nI fa)), (2, .int (nI ga))]) hx hb dC_choosePairs_3 hl (by decide) rfl (fun ls hl => ?_)
  refine lp_C_choose X fa ga hf hg hn hJ (n fa) 0 _ _ _ ls (by omega) (fun _ h => absurd h (Nat.not_lt_zero _)) V (lv_sub hl [0, 1, 2, 3, 4] rfl) (fun pr H locs ls hP V hl => ?_)
  exact cj_retv pr X hr V hP dC_choosePairs_98
set_option maxRecDepth 100000 in
set_option maxHeartbeats 4000000 in
theorem c_C_compare (l : Launch) (D : va_G) (kd : Nat → ClassId) (ad : Nat → Nat) {E : Nat} {n : Nat → Nat} {cl : Nat → Bool} {con : Nat → Nat → Int32} {ow : Nat → Nat → Int64} {rn : Nat} {ed : Nat → Nat} {co : Nat → Nat} {hz : Nat → Int64} {mp : Nat → Nat → Nat} {pr : Nat → Int32} {cn : Nat} {hs : Nat → Int64} {wg : Nat → Int64} {rs : Nat → Int64} {ch : Int32} (fa ga : Nat) (hf : fa < 8) (hg : ga < 8) (hn : ∀ i, n i ≤ 40) : cj_Mv (S := (Nat → Nat → Nat) × (Nat → Int32)) l yC_compare cC_compare 3 none 2 D kd [.ref (ad 0), .int (nI fa), .int (nI ga)] (wC kd ad E n cl con ow rn ed co hz mp pr cn hs wg rs ch) (fun u => ∀ j, j < n fa → u.2 j = oI (cj_pp (con fa) (con ga) (n fa) (n ga) j)) (fun u => wC kd ad E n (va_up (va_up cl fa true) ga true) con ow rn ed co hz u.1 u.2 cn hs wg rs ch) := by
  refine cj_ofv (by decide) (Nat.le_of_ble_eq_true rfl) ?_
  intro p e s m below meth c A ls X hr V hl
  obtain ⟨⟨hx, hb, hml, hown, hts⟩, hK, hlk⟩ := id X
  have hl : lv_has ls 3 [(0, .ref (ad 0)), (1, .int (nI fa)), (2, .int (nI ga))] := hl
  refine lv_aload_n hx hb dC_compare_0 rfl (lv_at hl 0 rfl) ?_
  refine gC 2 X V fl_C_17 (by decide) rfl dC_compare_1 ?_
  refine lv_iload_n hx hb dC_compare_4 rfl (lv_at hl 1 rfl) ?_
  refine lv_iconst (v := nI 1) hx hb dC_compare_5 (by decide) ?_
  refine sC_cl (x := true) X V (by omega) dC_compare_6 (fun H locs V => ?_)
  refine lv_aload_n hx hb dC_compare_7 rfl (lv_at hl 0 rfl) ?_
  refine gC 2 X V fl_C_17 (by decide) rfl dC_compare_8 ?_
  refine lv_iload_n hx hb dC_compare_11 rfl (lv_at hl 2 rfl) ?_
  refine lv_iconst (v := nI 1) hx hb dC_compare_12 (by decide) ?_
  refine sC_cl (x := true) X V (by omega) dC_compare_13 (fun H locs V => ?_)
  refine lv_aload_n hx hb dC_compare_14 rfl (lv_at hl 0 rfl) ?_
  refine lv_iload_n hx hb dC_compare_15 rfl (lv_at hl 1 rfl) ?_
  refine lv_iload_n hx hb dC_compare_16 rfl (lv_at hl 2 rfl) ?_
  refine cj_cvv X V (c_C_countPairs l D kd ad fa ga hf hg (hn fa) (hn ga)) 0 1 rfl rfl rfl ml_C_135 im_C_countPairs se_C_countPairs in_C cd_C_countPairs hd_C_countPairs ⟨by decide, by decide⟩ ⟨Nat.le_refl _, Nat.le_refl _⟩ hl.1 rfl (Nat.le_of_ble_eq_true rfl) dC_compare_17 (fun u_9 H locs hw V => ?_)
  have hJ := hw
  obtain ⟨u_8, eu⟩ : ∃ z, z = u_9 := ⟨_, rfl⟩
  rw [← eu] at V hJ
  refine lv_aload_n hx hb dC_compare_20 rfl (lv_at hl 0 rfl) ?_
  refine lv_iload_n hx hb dC_compare_21 rfl (lv_at hl 1 rfl) ?_
  refine lv_iload_n hx hb dC_compare_22 rfl (lv_at hl 2 rfl) ?_
  refine cj_cvv X V (c_C_choosePairs l D kd ad fa ga hf hg hn hJ) 0 1 rfl rfl rfl ml_C_138 im_C_choosePairs se_C_choosePairs in_C cd_C_choosePairs hd_C_choosePairs ⟨by decide, by decide⟩ ⟨Nat.le_refl _, Nat.le_refl _⟩ hl.1 rfl (Nat.le_of_ble_eq_true rfl) dC_compare_23 (fun u_9 H locs hw V => ?_)
  have hP := hw
  exact cj_retv (u_8, u_9) X hr V hP dC_compare_26
