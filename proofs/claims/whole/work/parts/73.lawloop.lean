set_option maxRecDepth 100000 in
set_option maxHeartbeats 4000000 in
theorem law_loop {p : Program} {l : Launch} {e : Env} {s : State} {m : MethodId} {below : List Frame} {meth : Method} {c : Code} {b L : Nat} {xs : Nat → Int32} {D : va_G} {kd : Nat → ClassId} {ac am : Nat → Nat} (hL : L ≤ 2560) (C0 : lw_At p s m meth c b L xs) (X : cj_X p s m #[Value.ref b] c meth code 4 RL D kd) : ∀ (d i : Nat) (H : Heap) (locs : List Loc) (ls : Array Slot), i ≤ L → L < i + 5 * d + 5 → lv_has ls 4 [(3, .int (nI i)), (2, .ref (am 0)), (1, .ref (ac 0)), (0, .ref b)] → lw_W D kd (fun q : Nat => s.heap.size ≤ q) s.heap ac am H locs → W p l e room_1 s m #[Value.ref b] below meth c H locs 600000 7302250 (lw_Z below #[Value.ref b] s) (F0 m 18 ls []) := by
  obtain ⟨hx, hb, hr, hml, hown, hts, hX, hbl, hlocks, hgv⟩ := id C0
  have hbA : ¬ (fun q : Nat => s.heap.size ≤ q) b := Nat.not_le.mpr hbl
  intro d
  induction d with
  | zero =>
    intro i H locs ls hiL hd hl LW
    have hS : va_S (fun q : Nat => s.heap.size ≤ q) s.heap H locs := by
      obtain ⟨E, n, cl, con, ow, rn, ed, co, hz, mp, pr, cn, hs, wg, rs, ch, con2, ow2, ge, lo, pr2, I, V⟩ := LW
      exact V.2.2.1
    refine lv_iload_n hx hb dL_law_18 rfl (lv_at hl 0 rfl) ?_
    refine lv_aload_n hx hb dL_law_19 rfl (lv_at hl 3 rfl) ?_
    refine va_slen hx hb hX hbl hbA hS dL_law_20 ?_
    refine lv_iconst (v := nI 5) hx hb dL_law_21 (by decide) ?_
    refine lv_isub hx hb dL_law_22 ?_
    refine lv_icmp_gt (tgt := 684) hx hb dL_law_23 (by decide) (fun c_1 => ?_) (fun c_1 => ?_)
    · refine lv_iconst (v := 1) hx hb dL_law_684 (by decide) ?_
      refine va_forget (fun q hq => hS.2.2 q hq) ?_
      exact lw_ret hx hb hr hlocks dL_law_685
    · exact absurd ((cj_len hL (by omega)).2 c_1) (by omega)
  | succ d ih =>
    intro i H locs ls hiL hd hl LW
    have hS : va_S (fun q : Nat => s.heap.size ≤ q) s.heap H locs := by
      obtain ⟨E, n, cl, con, ow, rn, ed, co, hz, mp, pr, cn, hs, wg, rs, ch, con2, ow2, ge, lo, pr2, I, V⟩ := LW
      exact V.2.2.1
    refine lv_iload_n hx hb dL_law_18 rfl (lv_at hl 0 rfl) ?_
    refine lv_aload_n hx hb dL_law_19 rfl (lv_at hl 3 rfl) ?_
    refine va_slen hx hb hX hbl hbA hS dL_law_20 ?_
    refine lv_iconst (v := nI 5) hx hb dL_law_21 (by decide) ?_
    refine lv_isub hx hb dL_law_22 ?_
    refine lv_icmp_gt (tgt := 684) hx hb dL_law_23 (by decide) (fun c_1 => ?_) (fun c_1 => ?_)
    · refine lv_iconst (v := 1) hx hb dL_law_684 (by decide) ?_
      refine va_forget (fun q hq => hS.2.2 q hq) ?_
      exact lw_ret hx hb hr hlocks dL_law_685
    · have hi := (cj_len hL (by omega)).2 c_1
      have kont : ∀ (H : Heap) (locs : List Loc), lw_W D kd (fun q : Nat => s.heap.size ≤ q) s.heap ac am H locs → W p l e room_1 s m #[Value.ref b] below meth c H locs 600000 7302250 (lw_Z below #[Value.ref b] s) (F0 m 678 ls []) := by
        intro H locs LW
        refine lv_iinc (v := nI (i + 5)) (lv' := [(3, .int (nI (i + 5))), (2, .ref (am 0)), (1, .ref (ac 0)), (0, .ref b)]) hx hb dL_law_678 hl (k := 0) rfl (cj_inc5 _) (by decide) rfl (fun ls hl => ?_)
        refine lv_goto (tgt := 18) hx hb dL_law_681 (by decide) ?_
        exact ih (i + 5) _ _ ls (by omega) (by omega) hl LW
      refine lv_aload_n hx hb dL_law_26 rfl (lv_at hl 3 rfl) ?_
      refine lv_iload_n hx hb dL_law_27 rfl (lv_at hl 0 rfl) ?_
      refine va_sld hx hb hX hbl hbA hS (vp_in_nI (show i < L by omega) (by omega)) dL_law_28 ?_
      refine lv_bipush (v := nI 15) hx hb dL_law_29 (by decide) ?_
      refine lv_iand hx hb dL_law_31 ?_
      obtain ⟨j, hj, ej⟩ := pk_andE (xs (nI i).toNatClampNeg) (m := nI 15) 4 (by decide)
      refine cj_ti ej ?_
      rcases (show j = 0 ∨ j = 1 ∨ j = 2 ∨ j = 3 ∨ j = 4 ∨ j = 5 ∨ j = 6 ∨ j = 7 ∨ j = 8 ∨ j = 9 ∨ j = 10 ∨ j = 11 ∨ j = 12 ∨ j = 13 ∨ j = 14 ∨ j = 15 by omega) with rfl | rfl | rfl | rfl | rfl | rfl | rfl | rfl | rfl | rfl | rfl | rfl | rfl | rfl | rfl | rfl
      · refine lv_tableIn (off := 80) (tgt := 112) hx hb dL_law_32 (by decide) (by decide) (by decide) (by decide) ?_
        exact law_0 hL C0 X hi hl LW kont
      · refine lv_tableIn (off := 93) (tgt := 125) hx hb dL_law_32 (by decide) (by decide) (by decide) (by decide) ?_
        exact law_1 hL C0 X hi hl LW kont
      · refine lv_tableIn (off := 162) (tgt := 194) hx hb dL_law_32 (by decide) (by decide) (by decide) (by decide) ?_
        exact law_2 hL C0 X hi hl LW kont
      · refine lv_tableIn (off := 185) (tgt := 217) hx hb dL_law_32 (by decide) (by decide) (by decide) (by decide) ?_
        exact law_3 hL C0 X hi hl LW kont
      · refine lv_tableIn (off := 218) (tgt := 250) hx hb dL_law_32 (by decide) (by decide) (by decide) (by decide) ?_
        exact law_4 hL C0 X hi hl LW kont
      · refine lv_tableIn (off := 251) (tgt := 283) hx hb dL_law_32 (by decide) (by decide) (by decide) (by decide) ?_
        exact law_5 hL C0 X hi hl LW kont
      · refine lv_tableIn (off := 284) (tgt := 316) hx hb dL_law_32 (by decide) (by decide) (by decide) (by decide) ?_
        exact law_6 hL C0 X hi hl LW kont
      · refine lv_tableIn (off := 317) (tgt := 349) hx hb dL_law_32 (by decide) (by decide) (by decide) (by decide) ?_
        exact law_7 hL C0 X hi hl LW kont
      · refine lv_tableIn (off := 350) (tgt := 382) hx hb dL_law_32 (by decide) (by decide) (by decide) (by decide) ?_
        exact law_8 hL C0 X hi hl LW kont
      · refine lv_tableIn (off := 393) (tgt := 425) hx hb dL_law_32 (by decide) (by decide) (by decide) (by decide) ?_
        exact law_9 hL C0 X hi hl LW kont
      · refine lv_tableIn (off := 452) (tgt := 484) hx hb dL_law_32 (by decide) (by decide) (by decide) (by decide) ?_
        exact law_10 hL C0 X hi hl LW kont
      · refine lv_tableIn (off := 511) (tgt := 543) hx hb dL_law_32 (by decide) (by decide) (by decide) (by decide) ?_
        exact law_11 hL C0 X hi hl LW kont
      · refine lv_tableIn (off := 554) (tgt := 586) hx hb dL_law_32 (by decide) (by decide) (by decide) (by decide) ?_
        exact law_12 hL C0 X hi hl LW kont
      · refine lv_tableIn (off := 577) (tgt := 609) hx hb dL_law_32 (by decide) (by decide) (by decide) (by decide) ?_
        exact law_13 hL C0 X hi hl LW kont
      · refine lv_tableIn (off := 600) (tgt := 632) hx hb dL_law_32 (by decide) (by decide) (by decide) (by decide) ?_
        exact law_14 hL C0 X hi hl LW kont
      · refine lv_tableIn (off := 613) (tgt := 645) hx hb dL_law_32 (by decide) (by decide) (by decide) (by decide) ?_
        exact law_15 hL C0 X hi hl LW kont
theorem cj_I0 : cj_I 0 0 (fun _ => 0) (fun _ => 0) (fun _ => 0) (fun _ => 0) (fun _ _ => 0) (fun _ _ => 0) (fun _ => nI 0) (fun _ => 0) (fun _ => false) := by
  refine ⟨by decide, fun _ => Nat.zero_le _, by decide, fun r h => absurd h (Nat.not_lt_zero _), fun _ => Nat.zero_le _, fun _ => (show 0 < 4 by decide), fun r h => absurd h (Nat.not_lt_zero _), fun _ _ _ _ => rfl, fun ea o i _ _ => ?_⟩
  rw [cj_tb_0, decide_eq_false (Nat.not_lt_zero _)]
  rfl
set_option maxRecDepth 100000 in
set_option maxHeartbeats 4000000 in
/-- THE LAW, from its entry -/
theorem whole_start {p : Program} {e : Env} {s : State} {m : MethodId} {below : List Frame} {meth : Method} {c : Code} (l : Launch) {b L : Nat} {xs : Nat → Int32} (hL : L ≤ 2560) (C0 : lw_At p s m meth c b L xs) : W p l e room_1 s m #[Value.ref b] below meth c s.heap [] 0 0 (lw_Z below #[Value.ref b] s) (entryFrame m ([Value.ref b] : List Value).toArray 4) := by
  obtain ⟨hx, hb, hr, hml, hown, hts, hX, hbl, hlocks, hgv⟩ := id C0
  have hA : ∀ q : Nat, s.heap.size ≤ q → (fun q : Nat => s.heap.size ≤ q) q := fun _ h => h
  obtain ⟨c0, iS0, hKn0⟩ := u_known (C := RD) (T := TD) (N := 4) (n := 4) hts (fun w h => cw_lw (wsD w h)) (hts _ (cw_lw it_D))
  obtain ⟨c1, iS1, hKn1⟩ := u_known (C := RC) (T := TC) (N := 13) (n := 13) hts (fun w h => cw_lw (wsC w h)) (hts _ (cw_lw it_C))
  obtain ⟨c2, iS2, hKn2⟩ := u_known (C := RM) (T := TM) (N := 13) (n := 13) hts (fun w h => cw_lw (wsM w h)) (hts _ (cw_lw it_M))
  obtain ⟨D, hKc⟩ : ∃ D : va_G, ∀ (k : Nat) (q : vw_C), cj_cl[k]? = some q → u_Kn s q.1 q.2.1 q.2.2 (D.1 k) (D.2 k) := by
    refine ⟨(fun k => if k = 0 then c0 else if k = 1 then c1 else c2, fun k => if k = 0 then iS0 else if k = 1 then iS1 else iS2), ?_⟩
    intro k q hq
    match k, hq with
    | 0, hq => cases hq; exact hKn0
    | 1, hq => cases hq; exact hKn1
    | 2, hq => cases hq; exact hKn2
    | k + 3, hq => simp [cj_cl] at hq
  have ha1 : (Cond.arrayOver (.array .int)).before #[Value.ref b] s = true := hts _ (by decide +kernel)
  have ha2 : (Cond.arrayOver (.array .long)).before #[Value.ref b] s = true := hts _ (by decide +kernel)
  obtain ⟨d0, k0, m0, e01, e02, e03⟩ := Cond.arrayClass_spec (hts _ (cw_lw ac_int))
  obtain ⟨d1, k1, m1, e11, e12, e13⟩ := Cond.arrayClass_spec (hts _ (cw_lw ac_boolean))
  obtain ⟨d2, k2, m2, e21, e22, e23⟩ := Cond.arrayClass_spec (hts _ (cw_lw ac_long))
  obtain ⟨m3, d3, k3, -, -, e32, e33, e31⟩ := arrayOverA_spec ha1
  obtain ⟨m4, d4, k4, -, -, e42, e43, e41⟩ := arrayOverA_spec ha2
  obtain ⟨kd, hKt⟩ : ∃ kd : Nat → ClassId, ∀ (k : Nat) (q : ClassId × FieldType), (cj_tys kd)[k]? = some q → ArrOfT s q.1 q.2 ∧ va_RA s q.1 q.2 := by
    refine ⟨fun k => if k = 0 then d0 else if k = 1 then d1 else if k = 2 then d2 else if k = 3 then d3 else d4, ?_⟩
    intro k q hq
    match k, hq with
    | 0, hq => cases hq; exact ⟨fun n z => ⟨fun k h => (by cases h), k0, e02, m0, e03⟩, e01⟩
    | 1, hq => cases hq; exact ⟨fun n z => ⟨fun k h => (by cases h), k1, e12, m1, e13⟩, e11⟩
    | 2, hq => cases hq; exact ⟨fun n z => ⟨fun k h => (by cases h), k2, e22, m2, e23⟩, e21⟩
    | 3, hq => cases hq; exact ⟨fun n z => ⟨fun k h => (by cases h), k3, e32, m3, e33⟩, e31⟩
    | 4, hq => cases hq; exact ⟨fun n z => ⟨fun k h => (by cases h), k4, e42, m4, e43⟩, e41⟩
    | k + 5, hq => simp [cj_tys] at hq
  have X : cj_X p s m #[Value.ref b] c meth code 4 RL D kd := ⟨⟨hx, hb, hml, hown, fun w h => hts w (cw_lw h)⟩, ⟨hKc, hKt⟩, hlocks⟩
  have V : cj_V D (fun q : Nat => s.heap.size ≤ q) s.heap [] s.heap [] := ⟨fun k q h => by simp at h, ⟨fun i j p q h => by simp at h, fun k q h => by simp at h⟩, va_S.rf, hA⟩
  have hl := lv_entry ([.ref b]) (n := 4) (Nat.le_of_ble_eq_true rfl)
  rw [lg_entry_eq]
  generalize (lg_sl ([.ref b]) ++ List.replicate (4 - (lg_sl ([.ref b])).length) Slot.unset).toArray = ls at hl ⊢
  have hl : lv_has ls 4 [(0, .ref b)] := hl
  refine cj_newo (fs := [.int 0, .null, .null, .null, .null, .int 0, .null, .null, .null, .null, .null, .null, .int 0]) X V 1 rfl wsC tyC tyC_ok cl_L_7 it_C in_C (fun j hj => by rcases (show j = 0 ∨ j = 1 ∨ j = 2 ∨ j = 3 ∨ j = 4 ∨ j = 5 ∨ j = 6 ∨ j = 7 ∨ j = 8 ∨ j = 9 ∨ j = 10 ∨ j = 11 ∨ j = 12 by omega) with rfl | rfl | rfl | rfl | rfl | rfl | rfl | rfl | rfl | rfl | rfl | rfl | rfl <;> rfl) (by decide) (by decide) dL_law_0 (fun q1 H V => ?_)
  refine lv_dup hx hb dL_law_3 rfl ?_
  refine cj_callc (w0 := [(q1, .inr (1, [.int 0, .null, .null, .null, .null, .int 0, .null, .null, .null, .null, .null, .null, .int 0]))]) (wr := []) X V ha1 ha2 (c_C_init l D kd q1) rfl rfl ml_L_9 im_C_init in_C cd_C_init rfl hd_C_init ⟨by decide, by decide⟩ ⟨by decide, by decide⟩ hl.1 rfl (Nat.le_of_ble_eq_true rfl) dL_law_4 (fun ac H locs hu V1 => ?_)
  subst hu
  have V := cj_nV V1
  refine lv_astore_n (lv' := [(1, .ref (ac 0)), (0, .ref b)]) hx hb dL_law_7 rfl hl (by decide) rfl (fun ls hl => ?_)
  refine cj_newo (fs := [.int 0, .int 0, .int 0, .null, .null, .null, .null, .null, .null, .null, .null, .null, .null]) X V 2 rfl wsM tyM tyM_ok cl_L_10 it_M in_M (fun j hj => by rcases (show j = 0 ∨ j = 1 ∨ j = 2 ∨ j = 3 ∨ j = 4 ∨ j = 5 ∨ j = 6 ∨ j = 7 ∨ j = 8 ∨ j = 9 ∨ j = 10 ∨ j = 11 ∨ j = 12 by omega) with rfl | rfl | rfl | rfl | rfl | rfl | rfl | rfl | rfl | rfl | rfl | rfl | rfl <;> rfl) (by decide) (by decide) dL_law_8 (fun q2 H V => ?_)
  refine lv_dup hx hb dL_law_11 rfl ?_
  refine cj_callc X (cj_comm V) ha1 ha2 (c_M_init l D kd q2) rfl rfl ml_L_12 im_M_init in_M cd_M_init rfl hd_M_init ⟨by decide, by decide⟩ ⟨by decide, by decide⟩ hl.1 rfl (Nat.le_of_ble_eq_true rfl) dL_law_12 (fun um H locs hu V2 => ?_)
  subst hu
  have V := cj_comm V2
  refine lv_astore_n (lv' := [(2, .ref (cj_ad um 0)), (1, .ref (ac 0)), (0, .ref b)]) hx hb dL_law_15 rfl hl (by decide) rfl (fun ls hl => ?_)
  refine lv_iconst (v := nI 0) hx hb dL_law_16 (by decide) ?_
  refine lv_istore_n (lv' := [(3, .int (nI 0)), (2, .ref (cj_ad um 0)), (1, .ref (ac 0)), (0, .ref b)]) hx hb dL_law_17 rfl hl (by decide) rfl (fun ls hl => ?_)
  refine W.widen (k := 600000) (n := 7302250) (by decide) (by decide) ?_
  exact law_loop (ac := ac) (am := cj_ad um) hL C0 X 512 0 _ _ ls (Nat.zero_le _) (by omega) hl ⟨_, _, _, _, _, _, _, _, _, _, _, _, _, _, _, _, _, _, _, _, _, cj_I0, V⟩
