set_option maxRecDepth 100000 in
set_option maxHeartbeats 4000000 in
theorem lp_C_cnt0 {p : Program} {l : Launch} {e : Env} {s : State} {m : MethodId} {args : Array Value} {below : List Frame} {meth : Method} {c : Code} {Q : State → Prop} {D : va_G} {kd : Nat → ClassId} {A : Nat → Prop} {H0 : Heap} {ad : Nat → Nat} {E : Nat} {n : Nat → Nat} {cl : Nat → Bool} {con : Nat → Nat → Int32} {ow : Nat → Nat → Int64} {rn : Nat} {ed : Nat → Nat} {co : Nat → Nat} {hz : Nat → Int64} {pr : Nat → Int32} {cn : Nat} {hs : Nat → Int64} {wg : Nat → Int64} {rs : Nat → Int64} {ch : Int32} (X : cj_X p s m args c meth cC_countPairs 7 RC D kd) (fa ga : Nat) (hf : fa < 8) (hg : ga < 8) (hnf : n fa ≤ 40) (hng : n ga ≤ 40) : ∀ (d i : Nat) (mp : Nat → Nat → Nat) (H : Heap) (locs : List Loc) (ls : Array Slot), i + d = n ga + 1 → cj_J0 (n fa) mp i → cj_V D A H0 (wC kd ad E n cl con ow rn ed co hz mp pr cn hs wg rs ch) H locs → lv_has ls 7 [(5, .int (nI i)), (4, .int (nI (n ga))), (3, .int (nI (n fa))), (0, .ref (ad 0)), (1, .int (nI fa)), (2, .int (nI ga))] → (∀ (mp : Nat → Nat → Nat) (H : Heap) (locs : List Loc) (ls : Array Slot), cj_J0 (n fa) mp (n ga + 1) → cj_V D A H0 (wC kd ad E n cl con ow rn ed co hz mp pr cn hs wg rs ch) H locs → lv_has ls 7 [(4, .int (nI (n ga))), (3, .int (nI (n fa))), (0, .ref (ad 0)), (1, .int (nI fa)), (2, .int (nI ga))] → W p l e (cj_rm 1) s m args below meth c H locs 0 0 Q (F0 m 41 ls [])) → W p l e (cj_rm 1) s m args below meth c H locs 0 0 Q (F0 m 18 ls []) := by
  obtain ⟨⟨hx, hb, hml, hown, hts⟩, hK, hlk⟩ := id X
  intro d
  induction d with
  | zero =>
    intro i mp H locs ls hi hJ V hl kont
    refine lv_iload hx hb dC_countPairs_18 (lv_at hl 0 rfl) ?_
    refine lv_iload hx hb dC_countPairs_20 (lv_at hl 1 rfl) ?_
    refine cj_n_gt (tgt := 41) hx hb dC_countPairs_22 (by decide) (by omega) (by omega) (fun c_1 => ?_) (fun c_1 => ?_)
    ·
      obtain rfl : i = n ga + 1 := by omega
      exact kont _ _ _ _ hJ V (lv_sub hl [1, 2, 3, 4, 5] rfl)
    ·
      exact absurd c_1 (by omega)
  | succ d ih =>
    intro i mp H locs ls hi hJ V hl kont
    refine lv_iload hx hb dC_countPairs_18 (lv_at hl 0 rfl) ?_
    refine lv_iload hx hb dC_countPairs_20 (lv_at hl 1 rfl) ?_
    refine cj_n_gt (tgt := 41) hx hb dC_countPairs_22 (by decide) (by omega) (by omega) (fun c_1 => ?_) (fun c_1 => ?_)
    ·
      exact absurd c_1 (by omega)
    ·
      refine lv_aload_n hx hb dC_countPairs_25 rfl (lv_at hl 3 rfl) ?_
      refine gC 9 X V fl_C_44 (by decide) rfl dC_countPairs_26 ?_
      refine lv_iload_n hx hb dC_countPairs_29 rfl (lv_at hl 2 rfl) ?_
      refine rC_mpO X V (by omega) dC_countPairs_30 ?_
      refine lv_iload hx hb dC_countPairs_31 (lv_at hl 0 rfl) ?_
      refine lv_iconst (v := nI 0) hx hb dC_countPairs_33 (by decide) ?_
      refine sC_mpR X V (by omega) (by omega) dC_countPairs_34 (fun H locs V => ?_)
      refine lv_iinc (v := nI (i + 1)) (lv' := [(5, .int (nI (i + 1))), (4, .int (nI (n ga))), (3, .int (nI (n fa))), (0, .ref (ad 0)), (1, .int (nI fa)), (2, .int (nI ga))]) hx hb dC_countPairs_35 hl (k := 0) rfl (cj_inc _) (by decide) rfl (fun ls hl => ?_)
      refine lv_goto (tgt := 18) hx hb dC_countPairs_38 (by decide) ?_
      exact ih (i + 1) _ _ _ ls (by omega) (cj_J0_step hJ) V (lv_sub hl [0, 1, 2, 3, 4, 5] rfl) kont
set_option maxRecDepth 100000 in
set_option maxHeartbeats 4000000 in
theorem lp_C_cnt2 {p : Program} {l : Launch} {e : Env} {s : State} {m : MethodId} {args : Array Value} {below : List Frame} {meth : Method} {c : Code} {Q : State → Prop} {D : va_G} {kd : Nat → ClassId} {A : Nat → Prop} {H0 : Heap} {ad : Nat → Nat} {E : Nat} {n : Nat → Nat} {cl : Nat → Bool} {con : Nat → Nat → Int32} {ow : Nat → Nat → Int64} {rn : Nat} {ed : Nat → Nat} {co : Nat → Nat} {hz : Nat → Int64} {pr : Nat → Int32} {cn : Nat} {hs : Nat → Int64} {wg : Nat → Int64} {rs : Nat → Int64} {ch : Int32} (X : cj_X p s m args c meth cC_countPairs 7 RC D kd) (fa ga : Nat) (hf : fa < 8) (hg : ga < 8) (hnf : n fa ≤ 40) (hng : n ga ≤ 40) (ra : Nat) (hra : ra < n fa) : ∀ (a : Nat) (mp : Nat → Nat → Nat) (H : Heap) (locs : List Loc) (ls : Array Slot), a ≤ n ga → cj_J2 (con fa) (con ga) (n fa) (n ga) mp ra a → cj_V D A H0 (wC kd ad E n cl con ow rn ed co hz mp pr cn hs wg rs ch) H locs → lv_has ls 7 [(6, .int (cj_p a)), (5, .int (nI ra)), (4, .int (nI (n ga))), (3, .int (nI (n fa))), (0, .ref (ad 0)), (1, .int (nI fa)), (2, .int (nI ga))] → (∀ (mp : Nat → Nat → Nat) (H : Heap) (locs : List Loc) (ls : Array Slot), cj_J2 (con fa) (con ga) (n fa) (n ga) mp ra 0 → cj_V D A H0 (wC kd ad E n cl con ow rn ed co hz mp pr cn hs wg rs ch) H locs → lv_has ls 7 [(5, .int (nI ra)), (4, .int (nI (n ga))), (3, .int (nI (n fa))), (0, .ref (ad 0)), (1, .int (nI fa)), (2, .int (nI ga))] → W p l e (cj_rm 1) s m args below meth c H locs 0 0 Q (F0 m 156 ls [])) → W p l e (cj_rm 1) s m args below meth c H locs 0 0 Q (F0 m 68 ls []) := by
  obtain ⟨⟨hx, hb, hml, hown, hts⟩, hK, hlk⟩ := id X
  intro a
  induction a with
  | zero =>
    intro mp H locs ls hag hJ V hl kont
    rw [cj_p0] at hl
    refine lv_iload hx hb dC_countPairs_68 (lv_at hl 0 rfl) ?_
    refine lv_if_lt (tgt := 156) hx hb dC_countPairs_70 (by decide) (fun _ => ?_) (fun h => absurd (by decide) h)
    exact kont _ _ _ _ hJ V (lv_sub hl [1, 2, 3, 4, 5, 6] rfl)
  | succ a ih =>
    intro mp H locs ls hag hJ V hl kont
    rw [cj_ps] at hl
    refine lv_iload hx hb dC_countPairs_68 (lv_at hl 0 rfl) ?_
    refine cj_z_lt (tgt := 156) hx hb dC_countPairs_70 (by omega) (by decide) ?_
    refine lv_aload_n hx hb dC_countPairs_73 rfl (lv_at hl 4 rfl) ?_
    refine gC 9 X V fl_C_44 (by decide) rfl dC_countPairs_74 ?_
    refine lv_iload hx hb dC_countPairs_77 (lv_at hl 1 rfl) ?_
    refine rC_mpO X V (by omega) dC_countPairs_79 ?_
    refine lv_iload hx hb dC_countPairs_80 (lv_at hl 0 rfl) ?_
    refine lv_aload_n hx hb dC_countPairs_82 rfl (lv_at hl 4 rfl) ?_
    refine gC 3 X V fl_C_23 (by decide) rfl dC_countPairs_83 ?_
    refine lv_iload_n hx hb dC_countPairs_86 rfl (lv_at hl 5 rfl) ?_
    refine rC_conO X V (by omega) dC_countPairs_87 ?_
    refine lv_iload hx hb dC_countPairs_88 (lv_at hl 1 rfl) ?_
    refine rC_conR X V (by omega) (by omega) dC_countPairs_90 ?_
    refine lv_aload_n hx hb dC_countPairs_91 rfl (lv_at hl 4 rfl) ?_
    refine gC 3 X V fl_C_23 (by decide) rfl dC_countPairs_92 ?_
    refine lv_iload_n hx hb dC_countPairs_95 rfl (lv_at hl 6 rfl) ?_
    refine rC_conO X V (by omega) dC_countPairs_96 ?_
    refine lv_iload hx hb dC_countPairs_97 (lv_at hl 0 rfl) ?_
    refine rC_conR X V (by omega) (by omega) dC_countPairs_99 ?_
    refine lv_icmp_ne (tgt := 122) hx hb dC_countPairs_100 (by decide) (fun c_2 => ?_) (fun c_2 => ?_)
    ·
      refine lv_aload_n hx hb dC_countPairs_122 rfl (lv_at hl 4 rfl) ?_
      refine gC 9 X V fl_C_44 (by decide) rfl dC_countPairs_123 ?_
      refine lv_iload hx hb dC_countPairs_126 (lv_at hl 1 rfl) ?_
      refine lv_iconst (v := nI 1) hx hb dC_countPairs_128 (by decide) ?_
      refine cj_iaddN hx hb dC_countPairs_129 ?_
      refine rC_mpO X V (by omega) dC_countPairs_130 ?_
      refine lv_iload hx hb dC_countPairs_131 (lv_at hl 0 rfl) ?_
      refine rC_mpR X V (by omega) (by omega) dC_countPairs_133 ?_
      have f_e_3 := cj_J_le hJ.1 hnf (i := (ra + 1)) (j := a) (by omega) (by omega) (by omega)
      refine lv_aload_n hx hb dC_countPairs_134 rfl (lv_at hl 4 rfl) ?_
      refine gC 9 X V fl_C_44 (by decide) rfl dC_countPairs_135 ?_
      refine lv_iload hx hb dC_countPairs_138 (lv_at hl 1 rfl) ?_
      refine rC_mpO X V (by omega) dC_countPairs_140 ?_
      refine lv_iload hx hb dC_countPairs_141 (lv_at hl 0 rfl) ?_
      refine lv_iconst (v := nI 1) hx hb dC_countPairs_143 (by decide) ?_
      refine cj_iaddN hx hb dC_countPairs_144 ?_
      refine rC_mpR X V (by omega) (by omega) dC_countPairs_145 ?_
      have f_e_4 := cj_J2_le hJ hnf (by omega) (j := a + 1) (by omega) (by omega)
      refine va_mmax hx hb (hml.trans hl.1.symm) hown (hts _ ml_C_141) (hts _ st_Q_max) (hts _ in_Q) (hts _ cd_Q_max) (by decide) (Nat.le_of_ble_eq_true rfl) (by decide) (by decide) dC_countPairs_146 ?_
      refine cj_ti (cj_max (by omega) (by omega)) ?_
      refine sC_mpR X V (by omega) (by omega) dC_countPairs_149 (fun H locs V => ?_)
      refine lv_iinc (v := cj_p a) (lv' := [(6, .int (cj_p a)), (5, .int (nI ra)), (4, .int (nI (n ga))), (3, .int (nI (n fa))), (0, .ref (ad 0)), (1, .int (nI fa)), (2, .int (nI ga))]) hx hb dC_countPairs_150 hl (k := 0) rfl (cj_dp _) (by decide) rfl (fun ls hl => ?_)
      refine lv_goto (tgt := 68) hx hb dC_countPairs_153 (by decide) ?_
      exact ih _ _ _ ls (by omega) (cj_J2_step hra (by omega) hJ (by rw [if_neg c_2])) V (lv_sub hl [0, 1, 2, 3, 4, 5, 6] rfl) kont
    ·
      refine lv_aload_n hx hb dC_countPairs_103 rfl (lv_at hl 4 rfl) ?_
      refine gC 9 X V fl_C_44 (by decide) rfl dC_countPairs_104 ?_
      refine lv_iload hx hb dC_countPairs_107 (lv_at hl 1 rfl) ?_
      refine lv_iconst (v := nI 1) hx hb dC_countPairs_109 (by decide) ?_
      refine cj_iaddN hx hb dC_countPairs_110 ?_
      refine rC_mpO X V (by omega) dC_countPairs_111 ?_
      refine lv_iload hx hb dC_countPairs_112 (lv_at hl 0 rfl) ?_
      refine lv_iconst (v := nI 1) hx hb dC_countPairs_114 (by decide) ?_
      refine cj_iaddN hx hb dC_countPairs_115 ?_
      refine rC_mpR X V (by omega) (by omega) dC_countPairs_116 ?_
      have f_e_5 := cj_J_le hJ.1 hnf (i := (ra + 1)) (j := a + 1) (by omega) (by omega) (by omega)
      refine lv_iconst (v := nI 1) hx hb dC_countPairs_117 (by decide) ?_
      refine cj_iaddN hx hb dC_countPairs_118 ?_
      refine lv_goto (tgt := 149) hx hb dC_countPairs_119 (by decide) ?_
      refine sC_mpR X V (by omega) (by omega) dC_countPairs_149 (fun H locs V => ?_)
      refine lv_iinc (v := cj_p a) (lv' := [(6, .int (cj_p a)), (5, .int (nI ra)), (4, .int (nI (n ga))), (3, .int (nI (n fa))), (0, .ref (ad 0)), (1, .int (nI fa)), (2, .int (nI ga))]) hx hb dC_countPairs_150 hl (k := 0) rfl (cj_dp _) (by decide) rfl (fun ls hl => ?_)
      refine lv_goto (tgt := 68) hx hb dC_countPairs_153 (by decide) ?_
      exact ih _ _ _ ls (by omega) (cj_J2_step hra (by omega) hJ (by rw [if_pos c_2])) V (lv_sub hl [0, 1, 2, 3, 4, 5, 6] rfl) kont
set_option maxRecDepth 100000 in
set_option maxHeartbeats 4000000 in
theorem lp_C_cnt1 {p : Program} {l : Launch} {e : Env} {s : State} {m : MethodId} {args : Array Value} {below : List Frame} {meth : Method} {c : Code} {Q : State → Prop} {D : va_G} {kd : Nat → ClassId} {A : Nat → Prop} {H0 : Heap} {ad : Nat → Nat} {E : Nat} {n : Nat → Nat} {cl : Nat → Bool} {con : Nat → Nat → Int32} {ow : Nat → Nat → Int64} {rn : Nat} {ed : Nat → Nat} {co : Nat → Nat} {hz : Nat → Int64} {pr : Nat → Int32} {cn : Nat} {hs : Nat → Int64} {wg : Nat → Int64} {rs : Nat → Int64} {ch : Int32} (X : cj_X p s m args c meth cC_countPairs 7 RC D kd) (fa ga : Nat) (hf : fa < 8) (hg : ga < 8) (hnf : n fa ≤ 40) (hng : n ga ≤ 40) : ∀ (a : Nat) (mp : Nat → Nat → Nat) (H : Heap) (locs : List Loc) (ls : Array Slot), a ≤ n fa → cj_J (con fa) (con ga) (n fa) (n ga) mp a → cj_V D A H0 (wC kd ad E n cl con ow rn ed co hz mp pr cn hs wg rs ch) H locs → lv_has ls 7 [(5, .int (cj_p a)), (4, .int (nI (n ga))), (3, .int (nI (n fa))), (0, .ref (ad 0)), (1, .int (nI fa)), (2, .int (nI ga))] → (∀ (mp : Nat → Nat → Nat) (H : Heap) (locs : List Loc) (ls : Array Slot), cj_J (con fa) (con ga) (n fa) (n ga) mp 0 → cj_V D A H0 (wC kd ad E n cl con ow rn ed co hz mp pr cn hs wg rs ch) H locs → lv_has ls 7 [(4, .int (nI (n ga))), (3, .int (nI (n fa))), (0, .ref (ad 0)), (1, .int (nI fa)), (2, .int (nI ga))] → W p l e (cj_rm 1) s m args below meth c H locs 0 0 Q (F0 m 162 ls [])) → W p l e (cj_rm 1) s m args below meth c H locs 0 0 Q (F0 m 46 ls []) := by
  obtain ⟨⟨hx, hb, hml, hown, hts⟩, hK, hlk⟩ := id X
  intro a
  induction a with
  | zero =>
    intro mp H locs ls haf hJ V hl kont
    rw [cj_p0] at hl
    refine lv_iload hx hb dC_countPairs_46 (lv_at hl 0 rfl) ?_
    refine lv_if_lt (tgt := 162) hx hb dC_countPairs_48 (by decide) (fun _ => ?_) (fun h => absurd (by decide) h)
    exact kont _ _ _ _ hJ V (lv_sub hl [1, 2, 3, 4, 5] rfl)
  | succ a ih =>
    intro mp H locs ls haf hJ V hl kont
    rw [cj_ps] at hl
    refine lv_iload hx hb dC_countPairs_46 (lv_at hl 0 rfl) ?_
    refine cj_z_lt (tgt := 162) hx hb dC_countPairs_48 (by omega) (by decide) ?_
    refine lv_aload_n hx hb dC_countPairs_51 rfl (lv_at hl 3 rfl) ?_
    refine gC 9 X V fl_C_44 (by decide) rfl dC_countPairs_52 ?_
    refine lv_iload hx hb dC_countPairs_55 (lv_at hl 0 rfl) ?_
    refine rC_mpO X V (by omega) dC_countPairs_57 ?_
    refine lv_iload hx hb dC_countPairs_58 (lv_at hl 1 rfl) ?_
    refine lv_iconst (v := nI 0) hx hb dC_countPairs_60 (by decide) ?_
    refine sC_mpR X V (by omega) (by omega) dC_countPairs_61 (fun H locs V => ?_)
    refine lv_iload hx hb dC_countPairs_62 (lv_at hl 1 rfl) ?_
    refine lv_iconst (v := nI 1) hx hb dC_countPairs_64 (by decide) ?_
    refine lv_isub hx hb dC_countPairs_65 ?_
    refine cj_ti (cj_subp (n ga)) ?_
    refine lv_istore (lv' := [(6, .int (cj_p (n ga))), (5, .int (nI a)), (4, .int (nI (n ga))), (3, .int (nI (n fa))), (0, .ref (ad 0)), (1, .int (nI fa)), (2, .int (nI ga))]) hx hb dC_countPairs_66 hl (by decide) rfl (fun ls hl => ?_)
    refine lp_C_cnt2 X fa ga hf hg hnf hng a (by omega) (n ga) _ _ _ ls (Nat.le_refl _) (cj_J2_start (by omega) hJ) V (lv_sub hl [0, 1, 2, 3, 4, 5, 6] rfl) (fun mp H locs ls hJ V hl => ?_)
    refine lv_iinc (v := cj_p a) (lv' := [(5, .int (cj_p a)), (4, .int (nI (n ga))), (3, .int (nI (n fa))), (0, .ref (ad 0)), (1, .int (nI fa)), (2, .int (nI ga))]) hx hb dC_countPairs_156 hl (k := 0) rfl (cj_dp _) (by decide) rfl (fun ls hl => ?_)
    refine lv_goto (tgt := 46) hx hb dC_countPairs_159 (by decide) ?_
    exact ih _ _ _ ls (by omega) (cj_J2_end hJ) V (lv_sub hl [0, 1, 2, 3, 4, 5] rfl) kont
set_option maxRecDepth 100000 in
set_option maxHeartbeats 4000000 in
theorem c_C_countPairs (l : Launch) (D : va_G) (kd : Nat → ClassId) (ad : Nat → Nat) {E : Nat} {n : Nat → Nat} {cl : Nat → Bool} {con : Nat → Nat → Int32} {ow : Nat → Nat → Int64} {rn : Nat} {ed : Nat → Nat} {co : Nat → Nat} {hz : Nat → Int64} {mp : Nat → Nat → Nat} {pr : Nat → Int32} {cn : Nat} {hs : Nat → Int64} {wg : Nat → Int64} {rs : Nat → Int64} {ch : Int32} (fa ga : Nat) (hf : fa < 8) (hg : ga < 8) (hnf : n fa ≤ 40) (hng : n ga ≤ 40) : cj_Mv (S := Nat → Nat → Nat) l yC_countPairs cC_countPairs 7 none 1 D kd [.ref (ad 0), .int (nI fa), .int (nI ga)] (wC kd ad E n cl con ow rn ed co hz mp pr cn hs wg rs ch) (fun mp => cj_J (con fa) (con ga) (n fa) (n ga) mp 0) (fun mp => wC kd ad E n cl con ow rn ed co hz mp pr cn hs wg rs ch) := by
  refine cj_ofv (by decide) (Nat.le_of_ble_eq_true rfl) ?_
  intro p e s m below meth c A ls X hr V hl
  obtain ⟨⟨hx, hb, hml, hown, hts⟩, hK, hlk⟩ := id X
  have hl : lv_has ls 7 [(0, .ref (ad 0)), (1, .int (nI fa)), (2, .int (nI ga))] := hl
  refine lv_aload_n hx hb dC_countPairs_0 rfl (lv_at hl 0 rfl) ?_
  refine gC 1 X V fl_C_13 (by decide) rfl dC_countPairs_1 ?_
  refine lv_iload_n hx hb dC_countPairs_4 rfl (lv_at hl 1 rfl) ?_
  refine rC_n X V (by omega) dC_countPairs_5 ?_
  refine lv_istore_n (lv' := [(3, .int (nI (n fa))), (0, .ref (ad 0)), (1, .int (nI fa)), (2, .int (nI ga))]) hx hb dC_countPairs_6 rfl hl (by decide) rfl (fun ls hl => ?_)
  refine lv_aload_n hx hb dC_countPairs_7 rfl (lv_at hl 1 rfl) ?_
  refine gC 1 X V fl_C_13 (by decide) rfl dC_countPairs_8 ?_
  refine lv_iload_n hx hb dC_countPairs_11 rfl (lv_at hl 3 rfl) ?_
  refine rC_n X V (by omega) dC_countPairs_12 ?_
  refine lv_istore (lv' := [(4, .int (nI (n ga))), (3, .int (nI (n fa))), (0, .ref (ad 0)), (1, .int (nI fa)), (2, .int (nI ga))]) hx hb dC_countPairs_13 hl (by decide) rfl (fun ls hl => ?_)
  refine lv_iconst (v := nI 0) hx hb dC_countPairs_15 (by decide) ?_
  refine lv_istore (lv' := [(5, .int (nI 0)), (4, .int (nI (n ga))), (3, .int (nI (n fa))), (0, .ref (ad 0)), (1, .int (nI fa)), (2, .int (nI ga))]) hx hb dC_countPairs_16 hl (by decide) rfl (fun ls hl => ?_)
  refine lp_C_cnt0 X fa ga hf hg hnf hng (n ga + 1) 0 _ _ _ ls (by omega) (fun _ h => absurd h (Nat.not_lt_zero _)) V (lv_sub hl [0, 1, 2, 3, 4, 5] rfl) (fun mp H locs ls hJ V hl => ?_)
  refine lv_iload_n hx hb dC_countPairs_41 rfl (lv_at hl 1 rfl) ?_
  refine lv_iconst (v := nI 1) hx hb dC_countPairs_42 (by decide) ?_
  refine lv_isub hx hb dC_countPairs_43 ?_
  refine cj_ti (cj_subp (n fa)) ?_
  refine lv_istore (lv' := [(5, .int (cj_p (n fa))), (4, .int (nI (n ga))), (3, .int (nI (n fa))), (0, .ref (ad 0)), (1, .int (nI fa)), (2, .int (nI ga))]) hx hb dC_countPairs_44 hl (by decide) rfl (fun ls hl => ?_)
  refine lp_C_cnt1 X fa ga hf hg hnf hng (n fa) _ _ _ ls (Nat.le_refl _) (cj_J_start hJ) V (lv_sub hl [0, 1, 2, 3, 4, 5] rfl) (fun mp H locs ls hJ V hl => ?_)
  exact cj_retv mp X hr V hJ dC_countPairs_162
