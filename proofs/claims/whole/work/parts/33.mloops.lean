set_option maxRecDepth 100000 in
set_option maxHeartbeats 4000000 in
theorem lp_M_shareOf {p : Program} {l : Launch} {e : Env} {s : State} {m : MethodId} {args : Array Value} {below : List Frame} {meth : Method} {c : Code} {Q : State → Prop} {D : va_G} {kd : Nat → ClassId} {A : Nat → Prop} {H0 : Heap} {ad : Nat → Nat} {E : Nat} {rn : Nat} {ch : Int32} {n : Nat → Nat} {con : Nat → Int32} {ow : Nat → Nat} {ge : Nat → Bool} {cl : Nat → Bool} {ed : Nat → Nat} {co : Nat → Nat} {hz : Nat → Int64} {lo : Nat → Nat} {pr : Nat → Int32} (X : cj_X p s m args c meth cM_shareOf 8 RM D kd) (hn : ∀ i, n i ≤ 40) (how : ∀ k, ow k < 4) (j q : Nat) (b : Bool) (hj : j < 14) (hej : ed j < 8) (hq : q < 4) : ∀ (d i : Nat) (H : Heap) (locs : List Loc) (ls : Array Slot), i + d = n (ed j) → cj_V D A H0 (wM kd ad E rn ch n con ow ge cl ed co hz lo pr) H locs → lv_has ls 8 [(6, .int (nI i)), (4, .int (nI (cj_cnt (cj_F ow ge (hz j) (ed j) q b) i))), (5, .int (nI (ed j))), (0, .ref (ad 0)), (1, .int (nI j)), (2, .int (nI q)), (3, .int (bI b))] → (∀ (H : Heap) (locs : List Loc) (ls : Array Slot), cj_V D A H0 (wM kd ad E rn ch n con ow ge cl ed co hz lo pr) H locs → lv_has ls 8 [(6, .int (nI (n (ed j)))), (4, .int (nI (cj_cnt (cj_F ow ge (hz j) (ed j) q b) (n (ed j))))), (5, .int (nI (ed j))), (0, .ref (ad 0)), (1, .int (nI j)), (2, .int (nI q)), (3, .int (bI b))] → W p l e (cj_rm 1) s m args below meth c H locs 0 0 Q (F0 m 101 ls [])) → W p l e (cj_rm 1) s m args below meth c H locs 0 0 Q (F0 m 14 ls []) := by
  obtain ⟨⟨hx, hb, hml, hown, hts⟩, hK, hlk⟩ := id X
  intro d
  induction d with
  | zero =>
    intro i H locs ls hi V hl kont
    have hnj := hn (ed j)
    refine lv_iload hx hb dM_shareOf_14 (lv_at hl 0 rfl) ?_
    refine lv_aload_n hx hb dM_shareOf_16 rfl (lv_at hl 3 rfl) ?_
    refine gM 3 X V fl_M_7 (by decide) rfl dM_shareOf_17 ?_
    refine lv_iload hx hb dM_shareOf_20 (lv_at hl 2 rfl) ?_
    refine rM_n X V (by omega) dM_shareOf_22 ?_
    have f_e_1 := hn (ed j)
    refine cj_n_ge (tgt := 101) hx hb dM_shareOf_23 (by decide) (by omega) (by omega) (fun c_2 => ?_) (fun c_2 => ?_)
    ·
      obtain rfl : i = n (ed j) := by omega
      exact kont _ _ _ V (lv_sub hl [0, 1, 2, 3, 4, 5, 6] rfl)
    ·
      exact absurd c_2 (by omega)
  | succ d ih =>
    intro i H locs ls hi V hl kont
    have hnj := hn (ed j)
    refine lv_iload hx hb dM_shareOf_14 (lv_at hl 0 rfl) ?_
    refine lv_aload_n hx hb dM_shareOf_16 rfl (lv_at hl 3 rfl) ?_
    refine gM 3 X V fl_M_7 (by decide) rfl dM_shareOf_17 ?_
    refine lv_iload hx hb dM_shareOf_20 (lv_at hl 2 rfl) ?_
    refine rM_n X V (by omega) dM_shareOf_22 ?_
    have f_e_1 := hn (ed j)
    refine cj_n_ge (tgt := 101) hx hb dM_shareOf_23 (by decide) (by omega) (by omega) (fun c_2 => ?_) (fun c_2 => ?_)
    ·
      exact absurd c_2 (by omega)
    ·
      refine lv_aload_n hx hb dM_shareOf_26 rfl (lv_at hl 3 rfl) ?_
      refine gM 5 X V fl_M_16 (by decide) rfl dM_shareOf_27 ?_
      refine lv_bipush (v := nI 40) hx hb dM_shareOf_30 (by decide) ?_
      refine lv_iload hx hb dM_shareOf_32 (lv_at hl 2 rfl) ?_
      refine cj_imulN hx hb dM_shareOf_34 ?_
      refine lv_iload hx hb dM_shareOf_35 (lv_at hl 0 rfl) ?_
      refine cj_iaddN hx hb dM_shareOf_37 ?_
      refine rM_ow X V (by omega) dM_shareOf_38 ?_
      have f_e_3 := how ((40 * (ed j)) + i)
      refine lv_iload_n hx hb dM_shareOf_39 rfl (lv_at hl 5 rfl) ?_
      refine cj_n_ne (tgt := 63) hx hb dM_shareOf_40 (by decide) (by omega) (by omega) (fun c_4 => ?_) (fun c_4 => ?_)
      ·
        refine lv_iconst (v := nI 0) hx hb dM_shareOf_63 (by decide) ?_
        refine lv_istore (lv' := [(7, .int (nI 0)), (6, .int (nI i)), (4, .int (nI (cj_cnt (cj_F ow ge (hz j) (ed j) q b) i))), (5, .int (nI (ed j))), (0, .ref (ad 0)), (1, .int (nI j)), (2, .int (nI q)), (3, .int (bI b))]) hx hb dM_shareOf_64 hl (by decide) rfl (fun ls hl => ?_)
        refine lv_iload hx hb dM_shareOf_66 (lv_at hl 2 rfl) ?_
        refine lv_iload hx hb dM_shareOf_68 (lv_at hl 0 rfl) ?_
        refine lv_if_eq (tgt := 91) hx hb dM_shareOf_70 (by decide) (fun _ => ?_) (fun h => absurd (by decide) h)
        refine lv_iconst (v := nI 0) hx hb dM_shareOf_91 (by decide) ?_
        refine cj_iaddN hx hb dM_shareOf_92 ?_
        refine lv_istore (lv' := [(4, .int (nI ((cj_cnt (cj_F ow ge (hz j) (ed j) q b) i) + 0))), (7, .int (nI 0)), (6, .int (nI i)), (5, .int (nI (ed j))), (0, .ref (ad 0)), (1, .int (nI j)), (2, .int (nI q)), (3, .int (bI b))]) hx hb dM_shareOf_93 hl (by decide) rfl (fun ls hl => ?_)
        refine lv_iinc (v := nI (i + 1)) (lv' := [(6, .int (nI (i + 1))), (4, .int (nI ((cj_cnt (cj_F ow ge (hz j) (ed j) q b) i) + 0))), (7, .int (nI 0)), (5, .int (nI (ed j))), (0, .ref (ad 0)), (1, .int (nI j)), (2, .int (nI q)), (3, .int (bI b))]) hx hb dM_shareOf_95 hl (k := 2) rfl (cj_inc _) (by decide) rfl (fun ls hl => ?_)
        refine lv_goto (tgt := 14) hx hb dM_shareOf_98 (by decide) ?_
        exact ih (i + 1) _ _ ls (by omega) V (lv_sub hl [0, 1, 3, 4, 5, 6, 7] (by rw [cj_cs_f (show cj_F ow ge (hz j) (ed j) q b i = false by simp [cj_F, c_4])]; rfl)) kont
      ·
        refine lv_aload_n hx hb dM_shareOf_43 rfl (lv_at hl 3 rfl) ?_
        refine gM 6 X V fl_M_19 (by decide) rfl dM_shareOf_44 ?_
        refine lv_bipush (v := nI 40) hx hb dM_shareOf_47 (by decide) ?_
        refine lv_iload hx hb dM_shareOf_49 (lv_at hl 2 rfl) ?_
        refine cj_imulN hx hb dM_shareOf_51 ?_
        refine lv_iload hx hb dM_shareOf_52 (lv_at hl 0 rfl) ?_
        refine cj_iaddN hx hb dM_shareOf_54 ?_
        refine rM_ge X V (by omega) dM_shareOf_55 ?_
        refine cj_b_ne (tgt := 63) hx hb dM_shareOf_56 (by decide) (fun c_6 => ?_) (fun c_6 => ?_)
        ·
          refine lv_iconst (v := nI 0) hx hb dM_shareOf_63 (by decide) ?_
          refine lv_istore (lv' := [(7, .int (nI 0)), (6, .int (nI i)), (4, .int (nI (cj_cnt (cj_F ow ge (hz j) (ed j) q b) i))), (5, .int (nI (ed j))), (0, .ref (ad 0)), (1, .int (nI j)), (2, .int (nI q)), (3, .int (bI b))]) hx hb dM_shareOf_64 hl (by decide) rfl (fun ls hl => ?_)
          refine lv_iload hx hb dM_shareOf_66 (lv_at hl 2 rfl) ?_
          refine lv_iload hx hb dM_shareOf_68 (lv_at hl 0 rfl) ?_
          refine lv_if_eq (tgt := 91) hx hb dM_shareOf_70 (by decide) (fun _ => ?_) (fun h => absurd (by decide) h)
          refine lv_iconst (v := nI 0) hx hb dM_shareOf_91 (by decide) ?_
          refine cj_iaddN hx hb dM_shareOf_92 ?_
          refine lv_istore (lv' := [(4, .int (nI ((cj_cnt (cj_F ow ge (hz j) (ed j) q b) i) + 0))), (7, .int (nI 0)), (6, .int (nI i)), (5, .int (nI (ed j))), (0, .ref (ad 0)), (1, .int (nI j)), (2, .int (nI q)), (3, .int (bI b))]) hx hb dM_shareOf_93 hl (by decide) rfl (fun ls hl => ?_)
          refine lv_iinc (v := nI (i + 1)) (lv' := [(6, .int (nI (i + 1))), (4, .int (nI ((cj_cnt (cj_F ow ge (hz j) (ed j) q b) i) + 0))), (7, .int (nI 0)), (5, .int (nI (ed j))), (0, .ref (ad 0)), (1, .int (nI j)), (2, .int (nI q)), (3, .int (bI b))]) hx hb dM_shareOf_95 hl (k := 2) rfl (cj_inc _) (by decide) rfl (fun ls hl => ?_)
          refine lv_goto (tgt := 14) hx hb dM_shareOf_98 (by decide) ?_
          exact ih (i + 1) _ _ ls (by omega) V (lv_sub hl [0, 1, 3, 4, 5, 6, 7] (by rw [cj_cs_f (show cj_F ow ge (hz j) (ed j) q b i = false by simp [cj_F, c_4, c_6])]; rfl)) kont
        ·
          refine lv_iconst (v := nI 1) hx hb dM_shareOf_59 (by decide) ?_
          refine lv_goto (tgt := 64) hx hb dM_shareOf_60 (by decide) ?_
          refine lv_istore (lv' := [(7, .int (nI 1)), (6, .int (nI i)), (4, .int (nI (cj_cnt (cj_F ow ge (hz j) (ed j) q b) i))), (5, .int (nI (ed j))), (0, .ref (ad 0)), (1, .int (nI j)), (2, .int (nI q)), (3, .int (bI b))]) hx hb dM_shareOf_64 hl (by decide) rfl (fun ls hl => ?_)
          refine lv_iload hx hb dM_shareOf_66 (lv_at hl 2 rfl) ?_
          refine lv_iload hx hb dM_shareOf_68 (lv_at hl 0 rfl) ?_
          refine lv_if_eq (tgt := 91) hx hb dM_shareOf_70 (by decide) (fun h => absurd h (by decide)) (fun _ => ?_)
          refine lv_iload_n hx hb dM_shareOf_73 rfl (lv_at hl 7 rfl) ?_
          refine cj_b_eq (tgt := 87) hx hb dM_shareOf_74 (by decide) (fun c_9 => ?_) (fun c_9 => ?_)
          ·
            refine lv_iconst (v := nI 1) hx hb dM_shareOf_87 (by decide) ?_
            refine lv_goto (tgt := 92) hx hb dM_shareOf_88 (by decide) ?_
            refine cj_iaddN hx hb dM_shareOf_92 ?_
            refine lv_istore (lv' := [(4, .int (nI ((cj_cnt (cj_F ow ge (hz j) (ed j) q b) i) + 1))), (7, .int (nI 1)), (6, .int (nI i)), (5, .int (nI (ed j))), (0, .ref (ad 0)), (1, .int (nI j)), (2, .int (nI q)), (3, .int (bI b))]) hx hb dM_shareOf_93 hl (by decide) rfl (fun ls hl => ?_)
            refine lv_iinc (v := nI (i + 1)) (lv' := [(6, .int (nI (i + 1))), (4, .int (nI ((cj_cnt (cj_F ow ge (hz j) (ed j) q b) i) + 1))), (7, .int (nI 1)), (5, .int (nI (ed j))), (0, .ref (ad 0)), (1, .int (nI j)), (2, .int (nI q)), (3, .int (bI b))]) hx hb dM_shareOf_95 hl (k := 2) rfl (cj_inc _) (by decide) rfl (fun ls hl => ?_)
            refine lv_goto (tgt := 14) hx hb dM_shareOf_98 (by decide) ?_
            exact ih (i + 1) _ _ ls (by omega) V (lv_sub hl [0, 1, 3, 4, 5, 6, 7] (by rw [cj_cs_t (show cj_F ow ge (hz j) (ed j) q b i = true by simp [cj_F, c_4, c_6, c_9])]; rfl)) kont
          ·
            refine lv_aload_n hx hb dM_shareOf_77 rfl (lv_at hl 4 rfl) ?_
            refine lv_iload_n hx hb dM_shareOf_78 rfl (lv_at hl 5 rfl) ?_
            refine lv_iload hx hb dM_shareOf_79 (lv_at hl 1 rfl) ?_
            refine cj_cvi X V (c_M_isHit l D kd ad j i (by omega) (by omega)) 0 2 rfl rfl rfl ml_M_61 im_M_isHit se_M_isHit in_M cd_M_isHit hd_M_isHit ⟨by decide, by decide⟩ ⟨Nat.le_refl _, Nat.le_refl _⟩ hl.1 rfl (Nat.le_of_ble_eq_true rfl) dM_shareOf_81 (fun r_9 u_9 H locs hw V => ?_)
            obtain rfl := hw
            refine cj_b_eq (tgt := 91) hx hb dM_shareOf_84 (by decide) (fun c_10 => ?_) (fun c_10 => ?_)
            ·
              refine lv_iconst (v := nI 0) hx hb dM_shareOf_91 (by decide) ?_
              refine cj_iaddN hx hb dM_shareOf_92 ?_
              refine lv_istore (lv' := [(4, .int (nI ((cj_cnt (cj_F ow ge (hz j) (ed j) q b) i) + 0))), (7, .int (nI 1)), (6, .int (nI i)), (5, .int (nI (ed j))), (0, .ref (ad 0)), (1, .int (nI j)), (2, .int (nI q)), (3, .int (bI b))]) hx hb dM_shareOf_93 hl (by decide) rfl (fun ls hl => ?_)
              refine lv_iinc (v := nI (i + 1)) (lv' := [(6, .int (nI (i + 1))), (4, .int (nI ((cj_cnt (cj_F ow ge (hz j) (ed j) q b) i) + 0))), (7, .int (nI 1)), (5, .int (nI (ed j))), (0, .ref (ad 0)), (1, .int (nI j)), (2, .int (nI q)), (3, .int (bI b))]) hx hb dM_shareOf_95 hl (k := 2) rfl (cj_inc _) (by decide) rfl (fun ls hl => ?_)
              refine lv_goto (tgt := 14) hx hb dM_shareOf_98 (by decide) ?_
              exact ih (i + 1) _ _ ls (by omega) V (lv_sub hl [0, 1, 3, 4, 5, 6, 7] (by rw [cj_cs_f (show cj_F ow ge (hz j) (ed j) q b i = false by simp [cj_F, c_4, c_6, c_9, c_10])]; rfl)) kont
            ·
              refine lv_iconst (v := nI 1) hx hb dM_shareOf_87 (by decide) ?_
              refine lv_goto (tgt := 92) hx hb dM_shareOf_88 (by decide) ?_
              refine cj_iaddN hx hb dM_shareOf_92 ?_
              refine lv_istore (lv' := [(4, .int (nI ((cj_cnt (cj_F ow ge (hz j) (ed j) q b) i) + 1))), (7, .int (nI 1)), (6, .int (nI i)), (5, .int (nI (ed j))), (0, .ref (ad 0)), (1, .int (nI j)), (2, .int (nI q)), (3, .int (bI b))]) hx hb dM_shareOf_93 hl (by decide) rfl (fun ls hl => ?_)
              refine lv_iinc (v := nI (i + 1)) (lv' := [(6, .int (nI (i + 1))), (4, .int (nI ((cj_cnt (cj_F ow ge (hz j) (ed j) q b) i) + 1))), (7, .int (nI 1)), (5, .int (nI (ed j))), (0, .ref (ad 0)), (1, .int (nI j)), (2, .int (nI q)), (3, .int (bI b))]) hx hb dM_shareOf_95 hl (k := 2) rfl (cj_inc _) (by decide) rfl (fun ls hl => ?_)
              refine lv_goto (tgt := 14) hx hb dM_shareOf_98 (by decide) ?_
              exact ih (i + 1) _ _ ls (by omega) V (lv_sub hl [0, 1, 3, 4, 5, 6, 7] (by rw [cj_cs_t (show cj_F ow ge (hz j) (ed j) q b i = true by simp [cj_F, c_4, c_6, c_9, c_10])]; rfl)) kont
set_option maxRecDepth 100000 in
set_option maxHeartbeats 4000000 in
theorem c_M_shareOf (l : Launch) (D : va_G) (kd : Nat → ClassId) (ad : Nat → Nat) {E : Nat} {rn : Nat} {ch : Int32} {n : Nat → Nat} {con : Nat → Int32} {ow : Nat → Nat} {ge : Nat → Bool} {cl : Nat → Bool} {ed : Nat → Nat} {co : Nat → Nat} {hz : Nat → Int64} {lo : Nat → Nat} {pr : Nat → Int32} (hn : ∀ i, n i ≤ 40) (how : ∀ k, ow k < 4) (j q : Nat) (b : Bool) (hj : j < 14) (hej : ed j < 8) (hq : q < 4) : cj_Mi (S := Unit) l yM_shareOf cM_shareOf 8 (some .int) 1 D kd [.ref (ad 0), .int (nI j), .int (nI q), .int (bI b)] (wM kd ad E rn ch n con ow ge cl ed co hz lo pr) (fun r _ => r = nI (cj_shr n ow ge ed hz j q b)) (fun _ => wM kd ad E rn ch n con ow ge cl ed co hz lo pr) := by
  refine cj_ofi (by decide) (Nat.le_of_ble_eq_true rfl) ?_
  intro p e s m below meth c A ls X hr V hl
  obtain ⟨⟨hx, hb, hml, hown, hts⟩, hK, hlk⟩ := id X
  have hl : lv_has ls 8 [(0, .ref (ad 0)), (1, .int (nI j)), (2, .int (nI q)), (3, .int (bI b))] := hl
  refine lv_iconst (v := nI 0) hx hb dM_shareOf_0 (by decide) ?_
  refine lv_istore (lv' := [(4, .int (nI 0)), (0, .ref (ad 0)), (1, .int (nI j)), (2, .int (nI q)), (3, .int (bI b))]) hx hb dM_shareOf_1 hl (by decide) rfl (fun ls hl => ?_)
  refine lv_aload_n hx hb dM_shareOf_3 rfl (lv_at hl 1 rfl) ?_
  refine gM 8 X V fl_M_26 (by decide) rfl dM_shareOf_4 ?_
  refine lv_iload_n hx hb dM_shareOf_7 rfl (lv_at hl 2 rfl) ?_
  refine rM_ed X V (by omega) dM_shareOf_8 ?_
  refine lv_istore (lv' := [(5, .int (nI (ed j))), (4, .int (nI 0)), (0, .ref (ad 0)), (1, .int (nI j)), (2, .int (nI q)), (3, .int (bI b))]) hx hb dM_shareOf_9 hl (by decide) rfl (fun ls hl => ?_)
  refine lv_iconst (v := nI 0) hx hb dM_shareOf_11 (by decide) ?_
  refine lv_istore (lv' := [(6, .int (nI 0)), (5, .int (nI (ed j))), (4, .int (nI 0)), (0, .ref (ad 0)), (1, .int (nI j)), (2, .int (nI q)), (3, .int (bI b))]) hx hb dM_shareOf_12 hl (by decide) rfl (fun ls hl => ?_)
  refine lp_M_shareOf X hn how j q b hj hej hq (n (ed j)) 0 _ _ ls (by omega) V (lv_sub hl [0, 2, 1, 3, 4, 5, 6] rfl) (fun H locs ls V hl => ?_)
  refine lv_iload hx hb dM_shareOf_101 (lv_at hl 1 rfl) ?_
  exact cj_reti () X hr V rfl dM_shareOf_103
set_option maxRecDepth 100000 in
set_option maxHeartbeats 4000000 in
theorem c_M_share (l : Launch) (D : va_G) (kd : Nat → ClassId) (ad : Nat → Nat) {E : Nat} {rn : Nat} {ch : Int32} {n : Nat → Nat} {con : Nat → Int32} {ow : Nat → Nat} {ge : Nat → Bool} {cl : Nat → Bool} {ed : Nat → Nat} {co : Nat → Nat} {hz : Nat → Int64} {lo : Nat → Nat} {pr : Nat → Int32} (hE : E ≤ 8) (hn : ∀ i, n i ≤ 40) (hR : rn ≤ 14) (hed : ∀ r, r < rn → ed r < E) (hco : ∀ r, co r ≤ 100000) (how : ∀ k, ow k < 4) (x z : Int32) (b : Bool) : cj_Mi (S := Unit) l yM_share cM_share 4 (some .int) 2 D kd [.ref (ad 0), .int x, .int z, .int (bI b)] (wM kd ad E rn ch n con ow ge cl ed co hz lo pr) (fun r _ => r = f_shareM rn n ow ge ed hz x z b) (fun _ => wM kd ad E rn ch n con ow ge cl ed co hz lo pr) := by
  refine cj_ofi (by decide) (Nat.le_of_ble_eq_true rfl) ?_
  intro p e s m below meth c A ls X hr V hl
  obtain ⟨⟨hx, hb, hml, hown, hts⟩, hK, hlk⟩ := id X
  have hl : lv_has ls 4 [(0, .ref (ad 0)), (1, .int x), (2, .int z), (3, .int (bI b))] := hl
  refine lv_iload_n hx hb dM_share_0 rfl (lv_at hl 1 rfl) ?_
  refine lv_aload_n hx hb dM_share_1 rfl (lv_at hl 0 rfl) ?_
  refine gM 1 X V fl_M_50 (by decide) rfl dM_share_2 ?_
  refine cj_csi X V (c_M_in l D kd ad x rn (by omega)) ml_M_46 st_M_in in_M cd_M_in hd_M_in ⟨by decide, by decide⟩ ⟨Nat.le_refl _, Nat.le_refl _⟩ hl.1 rfl (Nat.le_of_ble_eq_true rfl) dM_share_5 (fun r_9 u_9 H locs hw V => ?_)
  rcases hw with ⟨rfl, j_1, hj_1, rfl⟩ | ⟨rfl, hj_1⟩
  ·
    have ij_1 := cj_ix_t hj_1 (show rn < 2 ^ 31 by omega)
    refine lv_if_eq (tgt := 29) hx hb dM_share_8 (by decide) (fun h => absurd h (by decide)) (fun _ => ?_)
    refine lv_iload_n hx hb dM_share_11 rfl (lv_at hl 2 rfl) ?_
    refine lv_iconst (v := nI 4) hx hb dM_share_12 (by decide) ?_
    refine cj_csi X V (c_M_in l D kd ad z 4 (by omega)) ml_M_46 st_M_in in_M cd_M_in hd_M_in ⟨by decide, by decide⟩ ⟨Nat.le_refl _, Nat.le_refl _⟩ hl.1 rfl (Nat.le_of_ble_eq_true rfl) dM_share_13 (fun r_9 u_9 H locs hw V => ?_)
    rcases hw with ⟨rfl, j_3, hj_3, rfl⟩ | ⟨rfl, hj_3⟩
    ·
      have ij_3 := cj_ix_t hj_3 (show 4 < 2 ^ 31 by omega)
      refine lv_if_eq (tgt := 29) hx hb dM_share_16 (by decide) (fun h => absurd h (by decide)) (fun _ => ?_)
      refine lv_aload_n hx hb dM_share_19 rfl (lv_at hl 0 rfl) ?_
      refine lv_iload_n hx hb dM_share_20 rfl (lv_at hl 1 rfl) ?_
      refine lv_iload_n hx hb dM_share_21 rfl (lv_at hl 2 rfl) ?_
      refine lv_iload_n hx hb dM_share_22 rfl (lv_at hl 3 rfl) ?_
      refine cj_cvi X V (c_M_shareOf l D kd ad hn how j_1 j_3 b (by omega) (by have := hed j_1 (by omega); omega) (by omega)) 0 2 rfl rfl rfl ml_M_72 im_M_shareOf se_M_shareOf in_M cd_M_shareOf hd_M_shareOf ⟨by decide, by decide⟩ ⟨Nat.le_refl _, Nat.le_refl _⟩ hl.1 rfl (Nat.le_of_ble_eq_true rfl) dM_share_23 (fun r_9 u_9 H locs hw V => ?_)
      obtain rfl := hw
      have f_q_5 := cj_shr_le (ow := ow) (ge := ge) (hz := hz) (j := j_1) (o := j_3) (b := b) (hn (ed j_1))
      refine lv_goto (tgt := 30) hx hb dM_share_26 (by decide) ?_
      exact cj_reti () X hr V (by simp only [f_shareM, ij_1, ij_3]) dM_share_30
    ·
      have ij_3 := cj_ix_f hj_3
      refine lv_if_eq (tgt := 29) hx hb dM_share_16 (by decide) (fun _ => ?_) (fun h => absurd (by decide) h)
      refine lv_iconst (v := (-1)) hx hb dM_share_29 (by decide) ?_
      exact cj_reti () X hr V (by simp only [f_shareM, ij_1, ij_3]) dM_share_30
  ·
    have ij_1 := cj_ix_f hj_1
    refine lv_if_eq (tgt := 29) hx hb dM_share_8 (by decide) (fun _ => ?_) (fun h => absurd (by decide) h)
    refine lv_iconst (v := (-1)) hx hb dM_share_29 (by decide) ?_
    exact cj_reti () X hr V (by simp only [f_shareM, ij_1]) dM_share_30
set_option maxRecDepth 100000 in
set_option maxHeartbeats 4000000 in
theorem c_M_falls (l : Launch) (D : va_G) (kd : Nat → ClassId) (ad : Nat → Nat) {E : Nat} {rn : Nat} {ch : Int32} {n : Nat → Nat} {con : Nat → Int32} {ow : Nat → Nat} {ge : Nat → Bool} {cl : Nat → Bool} {ed : Nat → Nat} {co : Nat → Nat} {hz : Nat → Int64} {lo : Nat → Nat} {pr : Nat → Int32} (hE : E ≤ 8) (hn : ∀ i, n i ≤ 40) (hR : rn ≤ 14) (hed : ∀ r, r < rn → ed r < E) (hco : ∀ r, co r ≤ 100000) (how : ∀ k, ow k < 4) (x y z : Int32) : cj_Mi (S := Unit) l yM_falls cM_falls 6 (some .int) 2 D kd [.ref (ad 0), .int x, .int y, .int z] (wM kd ad E rn ch n con ow ge cl ed co hz lo pr) (fun r _ => r = f_fallsM rn n ow ge ed hz x y z) (fun _ => wM kd ad E rn ch n con ow ge cl ed co hz lo pr) := by
  refine cj_ofi (by decide) (Nat.le_of_ble_eq_true rfl) ?_
  intro p e s m below meth c A ls X hr V hl
  obtain ⟨⟨hx, hb, hml, hown, hts⟩, hK, hlk⟩ := id X
  have hl : lv_has ls 6 [(0, .ref (ad 0)), (1, .int x), (2, .int y), (3, .int z)] := hl
  refine lv_iload_n hx hb dM_falls_0 rfl (lv_at hl 1 rfl) ?_
  refine lv_aload_n hx hb dM_falls_1 rfl (lv_at hl 0 rfl) ?_
  refine gM 1 X V fl_M_50 (by decide) rfl dM_falls_2 ?_
  refine cj_csi X V (c_M_in l D kd ad x rn (by omega)) ml_M_46 st_M_in in_M cd_M_in hd_M_in ⟨by decide, by decide⟩ ⟨Nat.le_refl _, Nat.le_refl _⟩ hl.1 rfl (Nat.le_of_ble_eq_true rfl) dM_falls_5 (fun r_9 u_9 H locs hw V => ?_)
  rcases hw with ⟨rfl, j_1, hj_1, rfl⟩ | ⟨rfl, hj_1⟩
  ·
    have ij_1 := cj_ix_t hj_1 (show rn < 2 ^ 31 by omega)
    refine lv_if_eq (tgt := 30) hx hb dM_falls_8 (by decide) (fun h => absurd h (by decide)) (fun _ => ?_)
    refine lv_iload_n hx hb dM_falls_11 rfl (lv_at hl 2 rfl) ?_
    refine lv_aload_n hx hb dM_falls_12 rfl (lv_at hl 0 rfl) ?_
    refine gM 1 X V fl_M_50 (by decide) rfl dM_falls_13 ?_
    refine cj_csi X V (c_M_in l D kd ad y rn (by omega)) ml_M_46 st_M_in in_M cd_M_in hd_M_in ⟨by decide, by decide⟩ ⟨Nat.le_refl _, Nat.le_refl _⟩ hl.1 rfl (Nat.le_of_ble_eq_true rfl) dM_falls_16 (fun r_9 u_9 H locs hw V => ?_)
    rcases hw with ⟨rfl, j_3, hj_3, rfl⟩ | ⟨rfl, hj_3⟩
    ·
      have ij_3 := cj_ix_t hj_3 (show rn < 2 ^ 31 by omega)
      refine lv_if_eq (tgt := 30) hx hb dM_falls_19 (by decide) (fun h => absurd h (by decide)) (fun _ => ?_)
      refine lv_iload_n hx hb dM_falls_22 rfl (lv_at hl 3 rfl) ?_
      refine lv_iconst (v := nI 4) hx hb dM_falls_23 (by decide) ?_
      refine cj_csi X V (c_M_in l D kd ad z 4 (by omega)) ml_M_46 st_M_in in_M cd_M_in hd_M_in ⟨by decide, by decide⟩ ⟨Nat.le_refl _, Nat.le_refl _⟩ hl.1 rfl (Nat.le_of_ble_eq_true rfl) dM_falls_24 (fun r_9 u_9 H locs hw V => ?_)
      rcases hw with ⟨rfl, j_5, hj_5, rfl⟩ | ⟨rfl, hj_5⟩
      ·
        have ij_5 := cj_ix_t hj_5 (show 4 < 2 ^ 31 by omega)
        refine lv_if_ne (tgt := 33) hx hb dM_falls_27 (by decide) (fun _ => ?_) (fun h => absurd h (by decide))
        refine lv_aload_n hx hb dM_falls_33 rfl (lv_at hl 0 rfl) ?_
        refine lv_iload_n hx hb dM_falls_34 rfl (lv_at hl 1 rfl) ?_
        refine lv_iload_n hx hb dM_falls_35 rfl (lv_at hl 3 rfl) ?_
        refine lv_iconst (v := nI 0) hx hb dM_falls_36 (by decide) ?_
        refine cj_cvi X V (c_M_shareOf l D kd ad hn how j_1 j_5 false (by omega) (by have := hed j_1 (by omega); omega) (by omega)) 0 2 rfl rfl rfl ml_M_72 im_M_shareOf se_M_shareOf in_M cd_M_shareOf hd_M_shareOf ⟨by decide, by decide⟩ ⟨Nat.le_refl _, Nat.le_refl _⟩ hl.1 rfl (Nat.le_of_ble_eq_true rfl) dM_falls_37 (fun r_9 u_9 H locs hw V => ?_)
        obtain rfl := hw
        have f_q_7 := cj_shr_le (ow := ow) (ge := ge) (hz := hz) (j := j_1) (o := j_5) (b := false) (hn (ed j_1))
        refine lv_istore (lv' := [(4, .int (nI (cj_shr n ow ge ed hz j_1 j_5 false))), (0, .ref (ad 0)), (1, .int (nI j_1)), (2, .int (nI j_3)), (3, .int (nI j_5))]) hx hb dM_falls_40 hl (by decide) rfl (fun ls hl => ?_)
        refine lv_aload_n hx hb dM_falls_42 rfl (lv_at hl 1 rfl) ?_
        refine lv_iload_n hx hb dM_falls_43 rfl (lv_at hl 3 rfl) ?_
        refine lv_iload_n hx hb dM_falls_44 rfl (lv_at hl 4 rfl) ?_
        refine lv_iconst (v := nI 0) hx hb dM_falls_45 (by decide) ?_
        refine cj_cvi X V (c_M_shareOf l D kd ad hn how j_3 j_5 false (by omega) (by have := hed j_3 (by omega); omega) (by omega)) 0 2 rfl rfl rfl ml_M_72 im_M_shareOf se_M_shareOf in_M cd_M_shareOf hd_M_shareOf ⟨by decide, by decide⟩ ⟨Nat.le_refl _, Nat.le_refl _⟩ hl.1 rfl (Nat.le_of_ble_eq_true rfl) dM_falls_46 (fun r_9 u_9 H locs hw V => ?_)
        obtain rfl := hw
        have f_q_8 := cj_shr_le (ow := ow) (ge := ge) (hz := hz) (j := j_3) (o := j_5) (b := false) (hn (ed j_3))
        refine lv_istore (lv' := [(5, .int (nI (cj_shr n ow ge ed hz j_3 j_5 false))), (4, .int (nI (cj_shr n ow ge ed hz j_1 j_5 false))), (0, .ref (ad 0)), (1, .int (nI j_1)), (2, .int (nI j_3)), (3, .int (nI j_5))]) hx hb dM_falls_49 hl (by decide) rfl (fun ls hl => ?_)
        refine lv_iload hx hb dM_falls_51 (lv_at hl 1 rfl) ?_
        refine cj_z_eq (tgt := 61) hx hb dM_falls_53 (by decide) (by omega) (fun c_9 => ?_) (fun c_9 => ?_)
        ·
          refine lv_iconst (v := (-1)) hx hb dM_falls_61 (by decide) ?_
          exact cj_reti () X hr V (by simp only [f_fallsM, ij_1, ij_3, ij_5]; (first | rw [if_pos c_9] | rw [if_neg c_9] | rw [if_pos (by omega)] | rw [if_neg (by omega)])) dM_falls_62
        ·
          refine lv_iload hx hb dM_falls_56 (lv_at hl 0 rfl) ?_
          refine cj_z_ne (tgt := 63) hx hb dM_falls_58 (by decide) (by omega) (fun c_10 => ?_) (fun c_10 => ?_)
          ·
            refine lv_aload_n hx hb dM_falls_63 rfl (lv_at hl 2 rfl) ?_
            refine lv_iload_n hx hb dM_falls_64 rfl (lv_at hl 3 rfl) ?_
            refine lv_iload_n hx hb dM_falls_65 rfl (lv_at hl 5 rfl) ?_
            refine lv_iconst (v := nI 1) hx hb dM_falls_66 (by decide) ?_
            refine cj_cvi X V (c_M_shareOf l D kd ad hn how j_1 j_5 true (by omega) (by have := hed j_1 (by omega); omega) (by omega)) 0 2 rfl rfl rfl ml_M_72 im_M_shareOf se_M_shareOf in_M cd_M_shareOf hd_M_shareOf ⟨by decide, by decide⟩ ⟨Nat.le_refl _, Nat.le_refl _⟩ hl.1 rfl (Nat.le_of_ble_eq_true rfl) dM_falls_67 (fun r_9 u_9 H locs hw V => ?_)
            obtain rfl := hw
            have f_q_11 := cj_shr_le (ow := ow) (ge := ge) (hz := hz) (j := j_1) (o := j_5) (b := true) (hn (ed j_1))
            refine lv_iload hx hb dM_falls_70 (lv_at hl 0 rfl) ?_
            refine cj_imulN hx hb dM_falls_72 ?_
            refine lv_aload_n hx hb dM_falls_73 rfl (lv_at hl 2 rfl) ?_
            refine lv_iload_n hx hb dM_falls_74 rfl (lv_at hl 4 rfl) ?_
            refine lv_iload_n hx hb dM_falls_75 rfl (lv_at hl 5 rfl) ?_
            refine lv_iconst (v := nI 1) hx hb dM_falls_76 (by decide) ?_
            refine cj_cvi X V (c_M_shareOf l D kd ad hn how j_3 j_5 true (by omega) (by have := hed j_3 (by omega); omega) (by omega)) 0 2 rfl rfl rfl ml_M_72 im_M_shareOf se_M_shareOf in_M cd_M_shareOf hd_M_shareOf ⟨by decide, by decide⟩ ⟨Nat.le_refl _, Nat.le_refl _⟩ hl.1 rfl (Nat.le_of_ble_eq_true rfl) dM_falls_77 (fun r_9 u_9 H locs hw V => ?_)
            obtain rfl := hw
            have f_q_12 := cj_shr_le (ow := ow) (ge := ge) (hz := hz) (j := j_3) (o := j_5) (b := true) (hn (ed j_3))
            refine lv_iload hx hb dM_falls_80 (lv_at hl 1 rfl) ?_
            refine cj_imulN hx hb dM_falls_82 ?_
            have g_0 : (cj_shr n ow ge ed hz j_3 j_5 true) * (cj_shr n ow ge ed hz j_1 j_5 false) ≤ 40 * 40 := Nat.mul_le_mul (by assumption) (by assumption)
            have g_1 : (cj_shr n ow ge ed hz j_1 j_5 true) * (cj_shr n ow ge ed hz j_3 j_5 false) ≤ 40 * 40 := Nat.mul_le_mul (by assumption) (by assumption)
            refine cj_n_ge (tgt := 90) hx hb dM_falls_83 (by decide) (by omega) (by omega) (fun c_13 => ?_) (fun c_13 => ?_)
            ·
              refine lv_iconst (v := nI 0) hx hb dM_falls_90 (by decide) ?_
              exact cj_reti () X hr V (by simp only [f_fallsM, ij_1, ij_3, ij_5]; (first | rw [if_pos c_9] | rw [if_neg c_9] | rw [if_pos (by omega)] | rw [if_neg (by omega)]); (first | rw [if_pos c_10] | rw [if_neg c_10] | rw [if_pos (by omega)] | rw [if_neg (by omega)]); (first | rw [if_pos c_13] | rw [if_neg c_13] | rw [if_pos (by omega)] | rw [if_neg (by omega)])) dM_falls_91
            ·
              refine lv_iconst (v := nI 1) hx hb dM_falls_86 (by decide) ?_
              refine lv_goto (tgt := 91) hx hb dM_falls_87 (by decide) ?_
              exact cj_reti () X hr V (by simp only [f_fallsM, ij_1, ij_3, ij_5]; (first | rw [if_pos c_9] | rw [if_neg c_9] | rw [if_pos (by omega)] | rw [if_neg (by omega)]); (first | rw [if_pos c_10] | rw [if_neg c_10] | rw [if_pos (by omega)] | rw [if_neg (by omega)]); (first | rw [if_pos c_13] | rw [if_neg c_13] | rw [if_pos (by omega)] | rw [if_neg (by omega)])) dM_falls_91
          ·
            refine lv_iconst (v := (-1)) hx hb dM_falls_61 (by decide) ?_
            exact cj_reti () X hr V (by simp only [f_fallsM, ij_1, ij_3, ij_5]; (first | rw [if_pos c_9] | rw [if_neg c_9] | rw [if_pos (by omega)] | rw [if_neg (by omega)]); (first | rw [if_pos c_10] | rw [if_neg c_10] | rw [if_pos (by omega)] | rw [if_neg (by omega)])) dM_falls_62
      ·
        have ij_5 := cj_ix_f hj_5
        refine lv_if_ne (tgt := 33) hx hb dM_falls_27 (by decide) (fun h => absurd (by decide) h) (fun _ => ?_)
        refine lv_bipush (v := (-2)) hx hb dM_falls_30 (by decide) ?_
        exact cj_reti () X hr V (by simp only [f_fallsM, ij_1, ij_3, ij_5]) dM_falls_32
    ·
      have ij_3 := cj_ix_f hj_3
      refine lv_if_eq (tgt := 30) hx hb dM_falls_19 (by decide) (fun _ => ?_) (fun h => absurd (by decide) h)
      refine lv_bipush (v := (-2)) hx hb dM_falls_30 (by decide) ?_
      exact cj_reti () X hr V (by simp only [f_fallsM, ij_1, ij_3]) dM_falls_32
  ·
    have ij_1 := cj_ix_f hj_1
    refine lv_if_eq (tgt := 30) hx hb dM_falls_8 (by decide) (fun _ => ?_) (fun h => absurd (by decide) h)
    refine lv_bipush (v := (-2)) hx hb dM_falls_30 (by decide) ?_
    exact cj_reti () X hr V (by simp only [f_fallsM, ij_1]) dM_falls_32
set_option maxRecDepth 100000 in
set_option maxHeartbeats 4000000 in
theorem lp_M_dead {p : Program} {l : Launch} {e : Env} {s : State} {m : MethodId} {args : Array Value} {below : List Frame} {meth : Method} {c : Code} {Q : State → Prop} {D : va_G} {kd : Nat → ClassId} {A : Nat → Prop} {H0 : Heap} {ad : Nat → Nat} {E : Nat} {rn : Nat} {ch : Int32} {n : Nat → Nat} {con : Nat → Int32} {ow : Nat → Nat} {ge : Nat → Bool} {cl : Nat → Bool} {ed : Nat → Nat} {co : Nat → Nat} {hz : Nat → Int64} {lo : Nat → Nat} {pr : Nat → Int32} (X : cj_X p s m args c meth cM_dead 6 RM D kd) (hR : rn ≤ 14) (ea : Nat) (he : ea < 8) (hed : ∀ r, r < rn → ed r < 8) : ∀ (d i : Nat) (H : Heap) (locs : List Loc) (ls : Array Slot), i + d = rn → cj_V D A H0 (wM kd ad E rn ch n con ow ge cl ed co hz lo pr) H locs → lv_has ls 6 [(5, .int (nI i)), (2, .int (cj_dd ed hz ea i)), (3, .long (cj_sn ed hz ea i)), (0, .ref (ad 0)), (1, .int (nI ea))] → (∀ (H : Heap) (locs : List Loc) (ls : Array Slot), cj_V D A H0 (wM kd ad E rn ch n con ow ge cl ed co hz lo pr) H locs → lv_has ls 6 [(5, .int (nI rn)), (2, .int (cj_dd ed hz ea rn)), (3, .long (cj_sn ed hz ea rn)), (0, .ref (ad 0)), (1, .int (nI ea))] → W p l e (cj_rm 0) s m args below meth c H locs 0 0 Q (F0 m 72 ls [])) → W p l e (cj_rm 0) s m args below meth c H locs 0 0 Q (F0 m 7 ls []) := by
  obtain ⟨⟨hx, hb, hml, hown, hts⟩, hK, hlk⟩ := id X
  intro d
  induction d with
  | zero =>
    intro i H locs ls hi V hl kont
    refine lv_iload hx hb dM_dead_7 (lv_at hl 0 rfl) ?_
    refine lv_aload_n hx hb dM_dead_9 rfl (lv_at hl 3 rfl) ?_
    refine gM 1 X V fl_M_50 (by decide) rfl dM_dead_10 ?_
    refine cj_n_ge (tgt := 72) hx hb dM_dead_13 (by decide) (by omega) (by omega) (fun c_1 => ?_) (fun c_1 => ?_)
    ·
      obtain rfl : i = rn := by omega
      exact kont _ _ _ V (lv_sub hl [0, 1, 2, 3, 4] rfl)
    ·
      exact absurd c_1 (by omega)
  | succ d ih =>
    intro i H locs ls hi V hl kont
    refine lv_iload hx hb dM_dead_7 (lv_at hl 0 rfl) ?_
    refine lv_aload_n hx hb dM_dead_9 rfl (lv_at hl 3 rfl) ?_
    refine gM 1 X V fl_M_50 (by decide) rfl dM_dead_10 ?_
    refine cj_n_ge (tgt := 72) hx hb dM_dead_13 (by decide) (by omega) (by omega) (fun c_1 => ?_) (fun c_1 => ?_)
    ·
      exact absurd c_1 (by omega)
    ·
      refine lv_aload_n hx hb dM_dead_16 rfl (lv_at hl 3 rfl) ?_
      refine gM 8 X V fl_M_26 (by decide) rfl dM_dead_17 ?_
      refine lv_iload hx hb dM_dead_20 (lv_at hl 0 rfl) ?_
      refine rM_ed X V (by omega) dM_dead_22 ?_
      have f_e_2 := hed i (by omega)
      refine lv_iload_n hx hb dM_dead_23 rfl (lv_at hl 4 rfl) ?_
      refine cj_n_ne (tgt := 66) hx hb dM_dead_24 (by decide) (by omega) (by omega) (fun c_3 => ?_) (fun c_3 => ?_)
      ·
        refine lv_iinc (v := nI (i + 1)) (lv' := [(5, .int (nI (i + 1))), (2, .int (cj_dd ed hz ea i)), (3, .long (cj_sn ed hz ea i)), (0, .ref (ad 0)), (1, .int (nI ea))]) hx hb dM_dead_66 hl (k := 0) rfl (cj_inc _) (by decide) rfl (fun ls hl => ?_)
        refine lv_goto (tgt := 7) hx hb dM_dead_69 (by decide) ?_
        exact ih (i + 1) _ _ ls (by omega) V (lv_sub hl [0, 1, 2, 3, 4] (by rw [cj_dd_f c_3, cj_sn_f c_3]; rfl)) kont
      ·
        refine lv_iload_n hx hb dM_dead_27 rfl (lv_at hl 1 rfl) ?_
        refine lv_aload_n hx hb dM_dead_28 rfl (lv_at hl 3 rfl) ?_
        refine gM 10 X V fl_M_32 (by decide) rfl dM_dead_29 ?_
        refine lv_iload hx hb dM_dead_32 (lv_at hl 0 rfl) ?_
        refine rM_hi X V (by omega) dM_dead_34 ?_
        refine lv_lload_n hx hb dM_dead_35 rfl (lv_at hl 2 rfl) ?_
        refine lv_ldc2 hx hb hown (hts _ kl_M_76) dM_dead_36 ?_
        refine lv_lxor hx hb dM_dead_39 ?_
        refine lv_land hx hb dM_dead_40 ?_
        refine lv_lconst (v := 0) hx hb dM_dead_41 (by decide) ?_
        refine cj_l_ne (tgt := 53) hx hb dM_dead_42 dM_dead_43 (by decide) (fun c_4 => ?_) (fun c_4 => ?_)
        ·
          refine lv_iconst (v := nI 0) hx hb dM_dead_53 (by decide) ?_
          refine lv_ior hx hb dM_dead_54 ?_
          refine lv_istore_n (lv' := [(2, .int ((cj_dd ed hz ea i) ||| (nI 0))), (5, .int (nI i)), (3, .long (cj_sn ed hz ea i)), (0, .ref (ad 0)), (1, .int (nI ea))]) hx hb dM_dead_55 rfl hl (by decide) rfl (fun ls hl => ?_)
          refine lv_lload_n hx hb dM_dead_56 rfl (lv_at hl 2 rfl) ?_
          refine lv_aload_n hx hb dM_dead_57 rfl (lv_at hl 3 rfl) ?_
          refine gM 10 X V fl_M_32 (by decide) rfl dM_dead_58 ?_
          refine lv_iload hx hb dM_dead_61 (lv_at hl 1 rfl) ?_
          refine rM_hi X V (by omega) dM_dead_63 ?_
          refine lv_lor hx hb dM_dead_64 ?_
          refine lv_lstore_n (lv' := [(3, .long ((cj_sn ed hz ea i) ||| (hz i))), (2, .int ((cj_dd ed hz ea i) ||| (nI 0))), (5, .int (nI i)), (0, .ref (ad 0)), (1, .int (nI ea))]) hx hb dM_dead_65 rfl hl (by decide) rfl (fun ls hl => ?_)
          refine lv_iinc (v := nI (i + 1)) (lv' := [(5, .int (nI (i + 1))), (3, .long ((cj_sn ed hz ea i) ||| (hz i))), (2, .int ((cj_dd ed hz ea i) ||| (nI 0))), (0, .ref (ad 0)), (1, .int (nI ea))]) hx hb dM_dead_66 hl (k := 2) rfl (cj_inc _) (by decide) rfl (fun ls hl => ?_)
          refine lv_goto (tgt := 7) hx hb dM_dead_69 (by decide) ?_
          exact ih (i + 1) _ _ ls (by omega) V (lv_sub hl [0, 2, 1, 3, 4] (by rw [cj_dd_1 c_3 c_4, cj_sn_t c_3, cj_or0]; rfl)) kont
        ·
          refine lv_iconst (v := nI 1) hx hb dM_dead_46 (by decide) ?_
          refine lv_iload hx hb dM_dead_47 (lv_at hl 0 rfl) ?_
          refine lv_ishl hx hb dM_dead_49 ?_
          refine lv_goto (tgt := 54) hx hb dM_dead_50 (by decide) ?_
          refine lv_ior hx hb dM_dead_54 ?_
          refine lv_istore_n (lv' := [(2, .int ((cj_dd ed hz ea i) ||| ((nI 1) <<< ((nI i) &&& 31)))), (5, .int (nI i)), (3, .long (cj_sn ed hz ea i)), (0, .ref (ad 0)), (1, .int (nI ea))]) hx hb dM_dead_55 rfl hl (by decide) rfl (fun ls hl => ?_)
          refine lv_lload_n hx hb dM_dead_56 rfl (lv_at hl 2 rfl) ?_
          refine lv_aload_n hx hb dM_dead_57 rfl (lv_at hl 3 rfl) ?_
          refine gM 10 X V fl_M_32 (by decide) rfl dM_dead_58 ?_
          refine lv_iload hx hb dM_dead_61 (lv_at hl 1 rfl) ?_
          refine rM_hi X V (by omega) dM_dead_63 ?_
          refine lv_lor hx hb dM_dead_64 ?_
          refine lv_lstore_n (lv' := [(3, .long ((cj_sn ed hz ea i) ||| (hz i))), (2, .int ((cj_dd ed hz ea i) ||| ((nI 1) <<< ((nI i) &&& 31)))), (5, .int (nI i)), (0, .ref (ad 0)), (1, .int (nI ea))]) hx hb dM_dead_65 rfl hl (by decide) rfl (fun ls hl => ?_)
          refine lv_iinc (v := nI (i + 1)) (lv' := [(5, .int (nI (i + 1))), (3, .long ((cj_sn ed hz ea i) ||| (hz i))), (2, .int ((cj_dd ed hz ea i) ||| ((nI 1) <<< ((nI i) &&& 31)))), (0, .ref (ad 0)), (1, .int (nI ea))]) hx hb dM_dead_66 hl (k := 2) rfl (cj_inc _) (by decide) rfl (fun ls hl => ?_)
          refine lv_goto (tgt := 7) hx hb dM_dead_69 (by decide) ?_
          exact ih (i + 1) _ _ ls (by omega) V (lv_sub hl [0, 2, 1, 3, 4] (by rw [cj_dd_0 c_3 c_4, cj_sn_t c_3]; rfl)) kont
set_option maxRecDepth 100000 in
set_option maxHeartbeats 4000000 in
theorem lp_M_dead0 {p : Program} {l : Launch} {e : Env} {s : State} {m : MethodId} {args : Array Value} {below : List Frame} {meth : Method} {c : Code} {Q : State → Prop} {D : va_G} {kd : Nat → ClassId} {A : Nat → Prop} {H0 : Heap} {ad : Nat → Nat} {E : Nat} {rn : Nat} {ch : Int32} {n : Nat → Nat} {con : Nat → Int32} {ow : Nat → Nat} {ge : Nat → Bool} {cl : Nat → Bool} {ed : Nat → Nat} {co : Nat → Nat} {hz : Nat → Int64} {lo : Nat → Nat} {pr : Nat → Int32} (X : cj_X p s m args c meth cM_dead 6 RM D kd) (hR : rn ≤ 14) (x : Int32) (hno : ∀ r, r < rn → ¬ nI (ed r) = x) : ∀ (d i : Nat) (H : Heap) (locs : List Loc) (ls : Array Slot), i + d = rn → cj_V D A H0 (wM kd ad E rn ch n con ow ge cl ed co hz lo pr) H locs → lv_has ls 6 [(5, .int (nI i)), (2, .int (nI 0)), (3, .long 0), (0, .ref (ad 0)), (1, .int x)] → (∀ (H : Heap) (locs : List Loc) (ls : Array Slot), cj_V D A H0 (wM kd ad E rn ch n con ow ge cl ed co hz lo pr) H locs → lv_has ls 6 [(5, .int (nI rn)), (2, .int (nI 0)), (3, .long 0), (0, .ref (ad 0)), (1, .int x)] → W p l e (cj_rm 0) s m args below meth c H locs 0 0 Q (F0 m 72 ls [])) → W p l e (cj_rm 0) s m args below meth c H locs 0 0 Q (F0 m 7 ls []) := by
  obtain ⟨⟨hx, hb, hml, hown, hts⟩, hK, hlk⟩ := id X
  intro d
  induction d with
  | zero =>
    intro i H locs ls hi V hl kont
    refine lv_iload hx hb dM_dead_7 (lv_at hl 0 rfl) ?_
    refine lv_aload_n hx hb dM_dead_9 rfl (lv_at hl 3 rfl) ?_
    refine gM 1 X V fl_M_50 (by decide) rfl dM_dead_10 ?_
    refine cj_n_ge (tgt := 72) hx hb dM_dead_13 (by decide) (by omega) (by omega) (fun c_1 => ?_) (fun c_1 => ?_)
    ·
      obtain rfl : i = rn := by omega
      exact kont _ _ _ V (lv_sub hl [0, 1, 2, 3, 4] rfl)
    ·
      exact absurd c_1 (by omega)
  | succ d ih =>
    intro i H locs ls hi V hl kont
    refine lv_iload hx hb dM_dead_7 (lv_at hl 0 rfl) ?_
    refine lv_aload_n hx hb dM_dead_9 rfl (lv_at hl 3 rfl) ?_
    refine gM 1 X V fl_M_50 (by decide) rfl dM_dead_10 ?_
    refine cj_n_ge (tgt := 72) hx hb dM_dead_13 (by decide) (by omega) (by omega) (fun c_1 => ?_) (fun c_1 => ?_)
    ·
      exact absurd c_1 (by omega)
    ·
      refine lv_aload_n hx hb dM_dead_16 rfl (lv_at hl 3 rfl) ?_
      refine gM 8 X V fl_M_26 (by decide) rfl dM_dead_17 ?_
      refine lv_iload hx hb dM_dead_20 (lv_at hl 0 rfl) ?_
      refine rM_ed X V (by omega) dM_dead_22 ?_
      refine lv_iload_n hx hb dM_dead_23 rfl (lv_at hl 4 rfl) ?_
      refine lv_icmp_ne (tgt := 66) hx hb dM_dead_24 (by decide) (fun c_2 => ?_) (fun c_2 => ?_)
      ·
        refine lv_iinc (v := nI (i + 1)) (lv' := [(5, .int (nI (i + 1))), (2, .int (nI 0)), (3, .long 0), (0, .ref (ad 0)), (1, .int x)]) hx hb dM_dead_66 hl (k := 0) rfl (cj_inc _) (by decide) rfl (fun ls hl => ?_)
        refine lv_goto (tgt := 7) hx hb dM_dead_69 (by decide) ?_
        exact ih (i + 1) _ _ ls (by omega) V (lv_sub hl [0, 1, 2, 3, 4] rfl) kont
      ·
        exact absurd c_2 (hno i (by omega))
set_option maxRecDepth 100000 in
set_option maxHeartbeats 4000000 in
theorem c_M_dead (l : Launch) (D : va_G) (kd : Nat → ClassId) (ad : Nat → Nat) {E : Nat} {rn : Nat} {ch : Int32} {n : Nat → Nat} {con : Nat → Int32} {ow : Nat → Nat} {ge : Nat → Bool} {cl : Nat → Bool} {ed : Nat → Nat} {co : Nat → Nat} {hz : Nat → Int64} {lo : Nat → Nat} {pr : Nat → Int32} (hE : E ≤ 8) (hn : ∀ i, n i ≤ 40) (hR : rn ≤ 14) (hed : ∀ r, r < rn → ed r < E) (hco : ∀ r, co r ≤ 100000) (x : Int32) : cj_Mi (S := Unit) l yM_dead cM_dead 6 (some .int) 0 D kd [.ref (ad 0), .int x] (wM kd ad E rn ch n con ow ge cl ed co hz lo pr) (fun r _ => r = f_dead E rn ed hz x) (fun _ => wM kd ad E rn ch n con ow ge cl ed co hz lo pr) := by
  refine cj_ofi (by decide) (Nat.le_of_ble_eq_true rfl) ?_
  intro p e s m below meth c A ls X hr V hl
  obtain ⟨⟨hx, hb, hml, hown, hts⟩, hK, hlk⟩ := id X
  have hl : lv_has ls 6 [(0, .ref (ad 0)), (1, .int x)] := hl
  refine lv_iconst (v := nI 0) hx hb dM_dead_0 (by decide) ?_
  refine lv_istore_n (lv' := [(2, .int (nI 0)), (0, .ref (ad 0)), (1, .int x)]) hx hb dM_dead_1 rfl hl (by decide) rfl (fun ls hl => ?_)
  refine lv_lconst (v := 0) hx hb dM_dead_2 (by decide) ?_
  refine lv_lstore_n (lv' := [(3, .long 0), (2, .int (nI 0)), (0, .ref (ad 0)), (1, .int x)]) hx hb dM_dead_3 rfl hl (by decide) rfl (fun ls hl => ?_)
  refine lv_iconst (v := nI 0) hx hb dM_dead_4 (by decide) ?_
  refine lv_istore (lv' := [(5, .int (nI 0)), (3, .long 0), (2, .int (nI 0)), (0, .ref (ad 0)), (1, .int x)]) hx hb dM_dead_5 hl (by decide) rfl (fun ls hl => ?_)
  by_cases hxe : cj_in x E
  ·
    obtain ⟨ea, hea, rfl⟩ := hxe
    have ix := cj_ix_t hea (show E < 2 ^ 31 by omega)
    refine lp_M_dead X hR ea (by omega) (fun r h => by have := hed r h; omega) rn 0 _ _ ls (by omega) V (lv_sub hl [0, 2, 1, 3, 4] rfl) (fun H locs ls V hl => ?_)
    refine lv_iload_n hx hb dM_dead_72 rfl (lv_at hl 1 rfl) ?_
    exact cj_reti () X hr V (by simp only [f_dead, ix]) dM_dead_73
  ·
    have ix := cj_ix_f hxe
    refine lp_M_dead0 X hR x (fun r h e => hxe ⟨ed r, hed r h, e.symm⟩) rn 0 _ _ ls (by omega) V (lv_sub hl [0, 2, 1, 3, 4] rfl) (fun H locs ls V hl => ?_)
    refine lv_iload_n hx hb dM_dead_72 rfl (lv_at hl 1 rfl) ?_
    exact cj_reti () X hr V (by simp only [f_dead, ix]) dM_dead_73
set_option maxRecDepth 100000 in
set_option maxHeartbeats 4000000 in
theorem lp_M_about {p : Program} {l : Launch} {e : Env} {s : State} {m : MethodId} {args : Array Value} {below : List Frame} {meth : Method} {c : Code} {Q : State → Prop} {D : va_G} {kd : Nat → ClassId} {A : Nat → Prop} {H0 : Heap} {ad : Nat → Nat} {E : Nat} {rn : Nat} {ch : Int32} {n : Nat → Nat} {con : Nat → Int32} {ow : Nat → Nat} {ge : Nat → Bool} {cl : Nat → Bool} {ed : Nat → Nat} {co : Nat → Nat} {hz : Nat → Int64} {lo : Nat → Nat} {pr : Nat → Int32} (X : cj_X p s m args c meth cM_about 5 RM D kd) (j : Nat) (hj : j < 14) (y : Int32) : ∀ (d i : Nat) (H : Heap) (locs : List Loc) (ls : Array Slot), i + d = 40 → cj_V D A H0 (wM kd ad E rn ch n con ow ge cl ed co hz lo pr) H locs → lv_has ls 5 [(4, .int (nI i)), (3, .int (nI (cj_cnt (cj_tb (hz j)) i))), (0, .ref (ad 0)), (1, .int (nI j)), (2, .int y)] → (∀ (H : Heap) (locs : List Loc) (ls : Array Slot), cj_V D A H0 (wM kd ad E rn ch n con ow ge cl ed co hz lo pr) H locs → lv_has ls 5 [(4, .int (nI 40)), (3, .int (nI (cj_cnt (cj_tb (hz j)) 40))), (0, .ref (ad 0)), (1, .int (nI j)), (2, .int y)] → W p l e (cj_rm 1) s m args below meth c H locs 0 0 Q (F0 m 60 ls [])) → W p l e (cj_rm 1) s m args below meth c H locs 0 0 Q (F0 m 29 ls []) := by
  obtain ⟨⟨hx, hb, hml, hown, hts⟩, hK, hlk⟩ := id X
  intro d
  induction d with
  | zero =>
    intro i H locs ls hi V hl kont
    refine lv_iload hx hb dM_about_29 (lv_at hl 0 rfl) ?_
    refine lv_bipush (v := nI 40) hx hb dM_about_31 (by decide) ?_
    refine cj_n_ge (tgt := 60) hx hb dM_about_33 (by decide) (by omega) (by omega) (fun c_1 => ?_) (fun c_1 => ?_)
    ·
      obtain rfl : i = 40 := by omega
      exact kont _ _ _ V (lv_sub hl [0, 1, 2, 3, 4] rfl)
    ·
      exact absurd c_1 (by omega)
  | succ d ih =>
    intro i H locs ls hi V hl kont
    refine lv_iload hx hb dM_about_29 (lv_at hl 0 rfl) ?_
    refine lv_bipush (v := nI 40) hx hb dM_about_31 (by decide) ?_
    refine cj_n_ge (tgt := 60) hx hb dM_about_33 (by decide) (by omega) (by omega) (fun c_1 => ?_) (fun c_1 => ?_)
    ·
      exact absurd c_1 (by omega)
    ·
      refine lv_iload_n hx hb dM_about_36 rfl (lv_at hl 1 rfl) ?_
      refine lv_aload_n hx hb dM_about_37 rfl (lv_at hl 2 rfl) ?_
      refine lv_iload_n hx hb dM_about_38 rfl (lv_at hl 3 rfl) ?_
      refine lv_iload hx hb dM_about_39 (lv_at hl 0 rfl) ?_
      refine cj_cvi X V (c_M_isHit l D kd ad j i (by omega) (by omega)) 0 2 rfl rfl rfl ml_M_61 im_M_isHit se_M_isHit in_M cd_M_isHit hd_M_isHit ⟨by decide, by decide⟩ ⟨Nat.le_refl _, Nat.le_refl _⟩ hl.1 rfl (Nat.le_of_ble_eq_true rfl) dM_about_41 (fun r_9 u_9 H locs hw V => ?_)
      obtain rfl := hw
      refine cj_b_eq (tgt := 51) hx hb dM_about_44 (by decide) (fun c_2 => ?_) (fun c_2 => ?_)
      ·
        refine lv_iconst (v := nI 0) hx hb dM_about_51 (by decide) ?_
        refine cj_iaddN hx hb dM_about_52 ?_
        refine lv_istore_n (lv' := [(3, .int (nI ((cj_cnt (cj_tb (hz j)) i) + 0))), (4, .int (nI i)), (0, .ref (ad 0)), (1, .int (nI j)), (2, .int y)]) hx hb dM_about_53 rfl hl (by decide) rfl (fun ls hl => ?_)
        refine lv_iinc (v := nI (i + 1)) (lv' := [(4, .int (nI (i + 1))), (3, .int (nI ((cj_cnt (cj_tb (hz j)) i) + 0))), (0, .ref (ad 0)), (1, .int (nI j)), (2, .int y)]) hx hb dM_about_54 hl (k := 1) rfl (cj_inc _) (by decide) rfl (fun ls hl => ?_)
        refine lv_goto (tgt := 29) hx hb dM_about_57 (by decide) ?_
        exact ih (i + 1) _ _ ls (by omega) V (lv_sub hl [0, 1, 2, 3, 4] (by rw [cj_cs_f c_2]; rfl)) kont
      ·
        refine lv_iconst (v := nI 1) hx hb dM_about_47 (by decide) ?_
        refine lv_goto (tgt := 52) hx hb dM_about_48 (by decide) ?_
        refine cj_iaddN hx hb dM_about_52 ?_
        refine lv_istore_n (lv' := [(3, .int (nI ((cj_cnt (cj_tb (hz j)) i) + 1))), (4, .int (nI i)), (0, .ref (ad 0)), (1, .int (nI j)), (2, .int y)]) hx hb dM_about_53 rfl hl (by decide) rfl (fun ls hl => ?_)
        refine lv_iinc (v := nI (i + 1)) (lv' := [(4, .int (nI (i + 1))), (3, .int (nI ((cj_cnt (cj_tb (hz j)) i) + 1))), (0, .ref (ad 0)), (1, .int (nI j)), (2, .int y)]) hx hb dM_about_54 hl (k := 1) rfl (cj_inc _) (by decide) rfl (fun ls hl => ?_)
        refine lv_goto (tgt := 29) hx hb dM_about_57 (by decide) ?_
        exact ih (i + 1) _ _ ls (by omega) V (lv_sub hl [0, 1, 2, 3, 4] (by rw [cj_cs_t c_2]; rfl)) kont
set_option maxRecDepth 100000 in
set_option maxHeartbeats 4000000 in
theorem c_M_about (l : Launch) (D : va_G) (kd : Nat → ClassId) (ad : Nat → Nat) {E : Nat} {rn : Nat} {ch : Int32} {n : Nat → Nat} {con : Nat → Int32} {ow : Nat → Nat} {ge : Nat → Bool} {cl : Nat → Bool} {ed : Nat → Nat} {co : Nat → Nat} {hz : Nat → Int64} {lo : Nat → Nat} {pr : Nat → Int32} (hE : E ≤ 8) (hn : ∀ i, n i ≤ 40) (hR : rn ≤ 14) (hed : ∀ r, r < rn → ed r < E) (hco : ∀ r, co r ≤ 100000) (hhz : ∀ r, r < rn → ∀ i, 40 ≤ i → cj_tb (hz r) i = false) (x y : Int32) : cj_Mi (S := Unit) l yM_about cM_about 5 (some .int) 1 D kd [.ref (ad 0), .int x, .int y] (wM kd ad E rn ch n con ow ge cl ed co hz lo pr) (fun r _ => r = f_about rn ed co hz x y) (fun _ => wM kd ad E rn ch n con ow ge cl ed co hz lo pr) := by
  refine cj_ofi (by decide) (Nat.le_of_ble_eq_true rfl) ?_
  intro p e s m below meth c A ls X hr V hl
  obtain ⟨⟨hx, hb, hml, hown, hts⟩, hK, hlk⟩ := id X
  have hl : lv_has ls 5 [(0, .ref (ad 0)), (1, .int x), (2, .int y)] := hl
  refine lv_iload_n hx hb dM_about_0 rfl (lv_at hl 1 rfl) ?_
  refine lv_aload_n hx hb dM_about_1 rfl (lv_at hl 0 rfl) ?_
  refine gM 1 X V fl_M_50 (by decide) rfl dM_about_2 ?_
  refine cj_csi X V (c_M_in l D kd ad x rn (by omega)) ml_M_46 st_M_in in_M cd_M_in hd_M_in ⟨by decide, by decide⟩ ⟨Nat.le_refl _, Nat.le_refl _⟩ hl.1 rfl (Nat.le_of_ble_eq_true rfl) dM_about_5 (fun r_9 u_9 H locs hw V => ?_)
  rcases hw with ⟨rfl, j_1, hj_1, rfl⟩ | ⟨rfl, hj_1⟩
  ·
    have ij_1 := cj_ix_t hj_1 (show rn < 2 ^ 31 by omega)
    refine lv_if_ne (tgt := 13) hx hb dM_about_8 (by decide) (fun _ => ?_) (fun h => absurd h (by decide))
    refine lv_iload_n hx hb dM_about_13 rfl (lv_at hl 2 rfl) ?_
    refine lv_if_ne (tgt := 24) hx hb dM_about_14 (by decide) (fun c_3 => ?_) (fun c_3 => ?_)
    ·
      refine lv_iconst (v := nI 0) hx hb dM_about_24 (by decide) ?_
      refine lv_istore_n (lv' := [(3, .int (nI 0)), (0, .ref (ad 0)), (1, .int (nI j_1)), (2, .int y)]) hx hb dM_about_25 rfl hl (by decide) rfl (fun ls hl => ?_)
      refine lv_iconst (v := nI 0) hx hb dM_about_26 (by decide) ?_
      refine lv_istore (lv' := [(4, .int (nI 0)), (3, .int (nI 0)), (0, .ref (ad 0)), (1, .int (nI j_1)), (2, .int y)]) hx hb dM_about_27 hl (by decide) rfl (fun ls hl => ?_)
      refine lp_M_about X j_1 (by omega) y 40 0 _ _ ls (by omega) V (lv_sub hl [0, 1, 2, 3, 4] rfl) (fun H locs ls V hl => ?_)
      refine lv_iload_n hx hb dM_about_60 rfl (lv_at hl 4 rfl) ?_
      refine lv_iconst (v := nI 1) hx hb dM_about_61 (by decide) ?_
      refine lv_icmp_ne (tgt := 74) hx hb dM_about_62 (by decide) (fun c_4 => ?_) (fun c_4 => ?_)
      ·
        refine lv_iload_n hx hb dM_about_74 rfl (lv_at hl 4 rfl) ?_
        refine lv_iconst (v := nI 2) hx hb dM_about_75 (by decide) ?_
        refine lv_icmp_ne (tgt := 83) hx hb dM_about_76 (by decide) (fun c_5 => ?_) (fun c_5 => ?_)
        ·
          refine lv_iconst (v := (-1)) hx hb dM_about_83 (by decide) ?_
          exact cj_reti () X hr V (by simp only [f_about, ij_1]; rw [if_neg (show ¬ y = nI 0 from c_3)]; rw [if_neg (show ¬ y = nI 1 from c_4)]; rw [if_neg (show ¬ y = nI 2 from c_5)]) dM_about_84
        ·
          refine lv_iload_n hx hb dM_about_79 rfl (lv_at hl 1 rfl) ?_
          refine lv_goto (tgt := 84) hx hb dM_about_80 (by decide) ?_
          exact cj_reti () X hr V (by simp only [f_about, ij_1]; rw [if_neg (show ¬ y = nI 0 from c_3)]; rw [if_neg (show ¬ y = nI 1 from c_4)]; rw [if_pos (show y = nI 2 from c_5)]; rw [cj_pop40 (hhz j_1 (by omega))]) dM_about_84
      ·
        refine lv_aload_n hx hb dM_about_65 rfl (lv_at hl 2 rfl) ?_
        refine gM 9 X V fl_M_29 (by decide) rfl dM_about_66 ?_
        refine lv_iload_n hx hb dM_about_69 rfl (lv_at hl 3 rfl) ?_
        refine rM_co X V (by omega) dM_about_70 ?_
        have f_e_6 := hco j_1
        refine lv_goto (tgt := 84) hx hb dM_about_71 (by decide) ?_
        exact cj_reti () X hr V (by simp only [f_about, ij_1]; rw [if_neg (show ¬ y = nI 0 from c_3)]; rw [if_pos (show y = nI 1 from c_4)]) dM_about_84
    ·
      refine lv_aload_n hx hb dM_about_17 rfl (lv_at hl 0 rfl) ?_
      refine gM 8 X V fl_M_26 (by decide) rfl dM_about_18 ?_
      refine lv_iload_n hx hb dM_about_21 rfl (lv_at hl 1 rfl) ?_
      refine rM_ed X V (by omega) dM_about_22 ?_
      have f_e_7 := hed j_1 (by omega)
      exact cj_reti () X hr V (by simp only [f_about, ij_1]; rw [if_pos (show y = nI 0 from c_3)]) dM_about_23
  ·
    have ij_1 := cj_ix_f hj_1
    refine lv_if_ne (tgt := 13) hx hb dM_about_8 (by decide) (fun h => absurd (by decide) h) (fun _ => ?_)
    refine lv_iconst (v := (-1)) hx hb dM_about_11 (by decide) ?_
    exact cj_reti () X hr V (by simp only [f_about, ij_1]) dM_about_12
