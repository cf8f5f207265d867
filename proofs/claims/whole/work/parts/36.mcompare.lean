set_option maxRecDepth 100000 in
set_option maxHeartbeats 4000000 in
theorem lp_M_cmp2 {p : Program} {l : Launch} {e : Env} {s : State} {m : MethodId} {args : Array Value} {below : List Frame} {meth : Method} {c : Code} {Q : State → Prop} {D : va_G} {kd : Nat → ClassId} {A : Nat → Prop} {H0 : Heap} {ad : Nat → Nat} {E : Nat} {rn : Nat} {ch : Int32} {n : Nat → Nat} {con : Nat → Int32} {ow : Nat → Nat} {ge : Nat → Bool} {cl : Nat → Bool} {ed : Nat → Nat} {co : Nat → Nat} {hz : Nat → Int64} {pr : Nat → Int32} (X : cj_X p s m args c meth cM_compare 11 RM D kd) (fa ga : Nat) (hf : fa < 8) (hg : ga < 8) (hnf : n fa ≤ 40) (hng : n ga ≤ 40) (ra : Nat) (hra : ra ≤ n fa) : ∀ (a : Nat) (lo : Nat → Nat) (H : Heap) (locs : List Loc) (ls : Array Slot), a ≤ n ga + 1 → cj_J2 (fun i => con (40 * fa + i)) (fun i => con (40 * ga + i)) (n fa) (n ga) (cj_m2 lo) ra a → cj_V D A H0 (wM kd ad E rn ch n con ow ge cl ed co hz lo pr) H locs → lv_has ls 11 [(6, .int (cj_p a)), (5, .int (nI ra)), (4, .int (nI (n ga))), (3, .int (nI (n fa))), (0, .ref (ad 0)), (1, .int (nI fa)), (2, .int (nI ga))] → (∀ (lo : Nat → Nat) (H : Heap) (locs : List Loc) (ls : Array Slot), cj_J2 (fun i => con (40 * fa + i)) (fun i => con (40 * ga + i)) (n fa) (n ga) (cj_m2 lo) ra 0 → cj_V D A H0 (wM kd ad E rn ch n con ow ge cl ed co hz lo pr) H locs → lv_has ls 11 [(5, .int (nI ra)), (4, .int (nI (n ga))), (3, .int (nI (n fa))), (0, .ref (ad 0)), (1, .int (nI fa)), (2, .int (nI ga))] → W p l e (cj_rm 1) s m args below meth c H locs 0 0 Q (F0 m 187 ls [])) → W p l e (cj_rm 1) s m args below meth c H locs 0 0 Q (F0 m 41 ls []) := by
  obtain ⟨⟨hx, hb, hml, hown, hts⟩, hK, hlk⟩ := id X
  intro a
  induction a with
  | zero =>
    intro lo H locs ls hag hJ V hl kont
    rw [cj_p0] at hl
    refine lv_iload hx hb dM_compare_41 (lv_at hl 0 rfl) ?_
    refine lv_if_lt (tgt := 187) hx hb dM_compare_43 (by decide) (fun _ => ?_) (fun h => absurd (by decide) h)
    exact kont _ _ _ _ hJ V (lv_sub hl [1, 2, 3, 4, 5, 6] rfl)
  | succ a ih =>
    intro lo H locs ls hag hJ V hl kont
    rw [cj_ps] at hl
    refine lv_iload hx hb dM_compare_41 (lv_at hl 0 rfl) ?_
    refine cj_z_lt (tgt := 187) hx hb dM_compare_43 (by omega) (by decide) ?_
    refine lv_iconst (v := nI 0) hx hb dM_compare_46 (by decide) ?_
    refine lv_istore (lv' := [(7, .int (nI 0)), (6, .int (nI a)), (5, .int (nI ra)), (4, .int (nI (n ga))), (3, .int (nI (n fa))), (0, .ref (ad 0)), (1, .int (nI fa)), (2, .int (nI ga))]) hx hb dM_compare_47 hl (by decide) rfl (fun ls hl => ?_)
    refine lv_iload hx hb dM_compare_49 (lv_at hl 2 rfl) ?_
    refine lv_iload_n hx hb dM_compare_51 rfl (lv_at hl 4 rfl) ?_
    refine cj_n_ge (tgt := 166) hx hb dM_compare_52 (by decide) (by omega) (by omega) (fun c_2 => ?_) (fun c_2 => ?_)
    ·
      refine lv_aload_n hx hb dM_compare_166 rfl (lv_at hl 5 rfl) ?_
      refine gM 11 X V fl_M_36 (by decide) rfl dM_compare_167 ?_
      refine lv_bipush (v := nI 41) hx hb dM_compare_170 (by decide) ?_
      refine lv_iload hx hb dM_compare_172 (lv_at hl 2 rfl) ?_
      refine cj_imulN hx hb dM_compare_174 ?_
      refine lv_iload hx hb dM_compare_175 (lv_at hl 1 rfl) ?_
      refine cj_iaddN hx hb dM_compare_177 ?_
      refine lv_iload hx hb dM_compare_178 (lv_at hl 0 rfl) ?_
      refine sM_lo X V (by omega) dM_compare_180 (fun H locs V => ?_)
      refine lv_iinc (v := cj_p a) (lv' := [(6, .int (cj_p a)), (7, .int (nI 0)), (5, .int (nI ra)), (4, .int (nI (n ga))), (3, .int (nI (n fa))), (0, .ref (ad 0)), (1, .int (nI fa)), (2, .int (nI ga))]) hx hb dM_compare_181 hl (k := 1) rfl (cj_dp _) (by decide) rfl (fun ls hl => ?_)
      refine lv_goto (tgt := 41) hx hb dM_compare_184 (by decide) ?_
      exact ih _ _ _ ls (by omega) (cj_m_step hng (by omega) hJ (by rw [show ra = n fa by omega, cj_T_h])) V (lv_sub hl [0, 2, 3, 4, 5, 6, 7] rfl) kont
    ·
      refine lv_iload hx hb dM_compare_55 (lv_at hl 1 rfl) ?_
      refine lv_iload hx hb dM_compare_57 (lv_at hl 3 rfl) ?_
      refine cj_n_ge (tgt := 166) hx hb dM_compare_59 (by decide) (by omega) (by omega) (fun c_3 => ?_) (fun c_3 => ?_)
      ·
        refine lv_aload_n hx hb dM_compare_166 rfl (lv_at hl 5 rfl) ?_
        refine gM 11 X V fl_M_36 (by decide) rfl dM_compare_167 ?_
        refine lv_bipush (v := nI 41) hx hb dM_compare_170 (by decide) ?_
        refine lv_iload hx hb dM_compare_172 (lv_at hl 2 rfl) ?_
        refine cj_imulN hx hb dM_compare_174 ?_
        refine lv_iload hx hb dM_compare_175 (lv_at hl 1 rfl) ?_
        refine cj_iaddN hx hb dM_compare_177 ?_
        refine lv_iload hx hb dM_compare_178 (lv_at hl 0 rfl) ?_
        refine sM_lo X V (by omega) dM_compare_180 (fun H locs V => ?_)
        refine lv_iinc (v := cj_p a) (lv' := [(6, .int (cj_p a)), (7, .int (nI 0)), (5, .int (nI ra)), (4, .int (nI (n ga))), (3, .int (nI (n fa))), (0, .ref (ad 0)), (1, .int (nI fa)), (2, .int (nI ga))]) hx hb dM_compare_181 hl (k := 1) rfl (cj_dp _) (by decide) rfl (fun ls hl => ?_)
        refine lv_goto (tgt := 41) hx hb dM_compare_184 (by decide) ?_
        exact ih _ _ _ ls (by omega) (cj_m_step hng (by omega) hJ (by rw [show a = n ga by omega, cj_T_w])) V (lv_sub hl [0, 2, 3, 4, 5, 6, 7] rfl) kont
      ·
        have hA : lo (41 * (ra + 1) + a) = cj_T (fun i => con (40 * fa + i)) (fun i => con (40 * ga + i)) (n fa) (n ga) (ra + 1) a := hJ.1 (ra + 1) (Nat.le_refl _) (by omega) a (by omega)
        have hB : lo (41 * ra + a + 1) = cj_T (fun i => con (40 * fa + i)) (fun i => con (40 * ga + i)) (n fa) (n ga) ra (a + 1) := hJ.2 (a + 1) (Nat.le_refl _) (by omega)
        have hC : lo (41 * (ra + 1) + a + 1) = cj_T (fun i => con (40 * fa + i)) (fun i => con (40 * ga + i)) (n fa) (n ga) (ra + 1) (a + 1) := hJ.1 (ra + 1) (Nat.le_refl _) (by omega) (a + 1) (by omega)
        have tA : cj_T (fun i => con (40 * fa + i)) (fun i => con (40 * ga + i)) (n fa) (n ga) (ra + 1) a ≤ 40 := cj_T_le40 hnf (by omega) (by omega)
        have tB : cj_T (fun i => con (40 * fa + i)) (fun i => con (40 * ga + i)) (n fa) (n ga) ra (a + 1) ≤ 40 := cj_T_le40 hnf (by omega) (by omega)
        have tC : cj_T (fun i => con (40 * fa + i)) (fun i => con (40 * ga + i)) (n fa) (n ga) (ra + 1) (a + 1) ≤ 40 := cj_T_le40 hnf (by omega) (by omega)
        have t3 := cj_T_three (a := fun i => con (40 * fa + i)) (b := fun i => con (40 * ga + i)) (show ra < n fa by omega) (show a < n ga by omega)
        refine lv_aload_n hx hb dM_compare_62 rfl (lv_at hl 5 rfl) ?_
        refine gM 11 X V fl_M_36 (by decide) rfl dM_compare_63 ?_
        refine lv_bipush (v := nI 41) hx hb dM_compare_66 (by decide) ?_
        refine lv_iload hx hb dM_compare_68 (lv_at hl 2 rfl) ?_
        refine lv_iconst (v := nI 1) hx hb dM_compare_70 (by decide) ?_
        refine cj_iaddN hx hb dM_compare_71 ?_
        refine cj_imulN hx hb dM_compare_72 ?_
        refine lv_iload hx hb dM_compare_73 (lv_at hl 1 rfl) ?_
        refine cj_iaddN hx hb dM_compare_75 ?_
        refine rM_lo X V (by omega) dM_compare_76 ?_
        refine lv_istore (lv' := [(8, .int (nI (lo ((41 * (ra + 1)) + a)))), (7, .int (nI 0)), (6, .int (nI a)), (5, .int (nI ra)), (4, .int (nI (n ga))), (3, .int (nI (n fa))), (0, .ref (ad 0)), (1, .int (nI fa)), (2, .int (nI ga))]) hx hb dM_compare_77 hl (by decide) rfl (fun ls hl => ?_)
        refine lv_aload_n hx hb dM_compare_79 rfl (lv_at hl 6 rfl) ?_
        refine gM 11 X V fl_M_36 (by decide) rfl dM_compare_80 ?_
        refine lv_bipush (v := nI 41) hx hb dM_compare_83 (by decide) ?_
        refine lv_iload hx hb dM_compare_85 (lv_at hl 3 rfl) ?_
        refine cj_imulN hx hb dM_compare_87 ?_
        refine lv_iload hx hb dM_compare_88 (lv_at hl 2 rfl) ?_
        refine cj_iaddN hx hb dM_compare_90 ?_
        refine lv_iconst (v := nI 1) hx hb dM_compare_91 (by decide) ?_
        refine cj_iaddN hx hb dM_compare_92 ?_
        refine rM_lo X V (by omega) dM_compare_93 ?_
        refine lv_istore (lv' := [(9, .int (nI (lo (((41 * ra) + a) + 1)))), (8, .int (nI (lo ((41 * (ra + 1)) + a)))), (7, .int (nI 0)), (6, .int (nI a)), (5, .int (nI ra)), (4, .int (nI (n ga))), (3, .int (nI (n fa))), (0, .ref (ad 0)), (1, .int (nI fa)), (2, .int (nI ga))]) hx hb dM_compare_94 hl (by decide) rfl (fun ls hl => ?_)
        refine lv_aload_n hx hb dM_compare_96 rfl (lv_at hl 7 rfl) ?_
        refine lv_iload_n hx hb dM_compare_97 rfl (lv_at hl 8 rfl) ?_
        refine lv_iload hx hb dM_compare_98 (lv_at hl 4 rfl) ?_
        refine lv_iload_n hx hb dM_compare_100 rfl (lv_at hl 9 rfl) ?_
        refine lv_iload hx hb dM_compare_101 (lv_at hl 3 rfl) ?_
        refine cj_cvi X V (c_M_isAlike l D kd ad fa ra ga a (by omega) (by omega) (by omega) (by omega)) 0 2 rfl rfl rfl ml_M_64 im_M_isAlike se_M_isAlike in_M cd_M_isAlike hd_M_isAlike ⟨by decide, by decide⟩ ⟨Nat.le_refl _, Nat.le_refl _⟩ hl.1 rfl (Nat.le_of_ble_eq_true rfl) dM_compare_103 (fun r_9 u_9 H locs hw V => ?_)
        obtain rfl := hw
        refine cj_b_eq (tgt := 131) hx hb dM_compare_106 (by decide) (fun c_4 => ?_) (fun c_4 => ?_)
        ·
          refine lv_iconst (v := nI 0) hx hb dM_compare_131 (by decide) ?_
          refine lv_istore (lv' := [(10, .int (nI 0)), (9, .int (nI (lo (((41 * ra) + a) + 1)))), (8, .int (nI (lo ((41 * (ra + 1)) + a)))), (7, .int (nI 0)), (6, .int (nI a)), (5, .int (nI ra)), (4, .int (nI (n ga))), (3, .int (nI (n fa))), (0, .ref (ad 0)), (1, .int (nI fa)), (2, .int (nI ga))]) hx hb dM_compare_132 hl (by decide) rfl (fun ls hl => ?_)
          refine lv_iload hx hb dM_compare_134 (lv_at hl 2 rfl) ?_
          refine lv_iload hx hb dM_compare_136 (lv_at hl 1 rfl) ?_
          refine cj_n_le (tgt := 146) hx hb dM_compare_138 (by decide) (by omega) (by omega) (fun c_5 => ?_) (fun c_5 => ?_)
          ·
            refine lv_iload hx hb dM_compare_146 (lv_at hl 1 rfl) ?_
            refine lv_istore (lv' := [(7, .int (nI (lo (((41 * ra) + a) + 1)))), (10, .int (nI 0)), (9, .int (nI (lo (((41 * ra) + a) + 1)))), (8, .int (nI (lo ((41 * (ra + 1)) + a)))), (6, .int (nI a)), (5, .int (nI ra)), (4, .int (nI (n ga))), (3, .int (nI (n fa))), (0, .ref (ad 0)), (1, .int (nI fa)), (2, .int (nI ga))]) hx hb dM_compare_148 hl (by decide) rfl (fun ls hl => ?_)
            refine lv_iload hx hb dM_compare_150 (lv_at hl 1 rfl) ?_
            refine lv_iload hx hb dM_compare_152 (lv_at hl 0 rfl) ?_
            refine cj_n_le (tgt := 162) hx hb dM_compare_154 (by decide) (by omega) (by omega) (fun c_6 => ?_) (fun c_6 => ?_)
            ·
              refine lv_iload hx hb dM_compare_162 (lv_at hl 0 rfl) ?_
              refine lv_istore (lv' := [(7, .int (nI (lo (((41 * ra) + a) + 1)))), (10, .int (nI 0)), (9, .int (nI (lo (((41 * ra) + a) + 1)))), (8, .int (nI (lo ((41 * (ra + 1)) + a)))), (6, .int (nI a)), (5, .int (nI ra)), (4, .int (nI (n ga))), (3, .int (nI (n fa))), (0, .ref (ad 0)), (1, .int (nI fa)), (2, .int (nI ga))]) hx hb dM_compare_164 hl (by decide) rfl (fun ls hl => ?_)
              refine lv_aload_n hx hb dM_compare_166 rfl (lv_at hl 8 rfl) ?_
              refine gM 11 X V fl_M_36 (by decide) rfl dM_compare_167 ?_
              refine lv_bipush (v := nI 41) hx hb dM_compare_170 (by decide) ?_
              refine lv_iload hx hb dM_compare_172 (lv_at hl 5 rfl) ?_
              refine cj_imulN hx hb dM_compare_174 ?_
              refine lv_iload hx hb dM_compare_175 (lv_at hl 4 rfl) ?_
              refine cj_iaddN hx hb dM_compare_177 ?_
              refine lv_iload hx hb dM_compare_178 (lv_at hl 0 rfl) ?_
              refine sM_lo X V (by omega) dM_compare_180 (fun H locs V => ?_)
              refine lv_iinc (v := cj_p a) (lv' := [(6, .int (cj_p a)), (7, .int (nI (lo (((41 * ra) + a) + 1)))), (10, .int (nI 0)), (9, .int (nI (lo (((41 * ra) + a) + 1)))), (8, .int (nI (lo ((41 * (ra + 1)) + a)))), (5, .int (nI ra)), (4, .int (nI (n ga))), (3, .int (nI (n fa))), (0, .ref (ad 0)), (1, .int (nI fa)), (2, .int (nI ga))]) hx hb dM_compare_181 hl (k := 4) rfl (cj_dp _) (by decide) rfl (fun ls hl => ?_)
              refine lv_goto (tgt := 41) hx hb dM_compare_184 (by decide) ?_
              exact ih _ _ _ ls (by omega) (cj_m_step hng (by omega) hJ (by have t4 := t3.2 (of_decide_eq_false c_4); omega)) V (lv_sub hl [0, 5, 6, 7, 8, 9, 10] rfl) kont
            ·
              refine lv_iload hx hb dM_compare_157 (lv_at hl 1 rfl) ?_
              refine lv_goto (tgt := 164) hx hb dM_compare_159 (by decide) ?_
              refine lv_istore (lv' := [(7, .int (nI 0)), (10, .int (nI 0)), (9, .int (nI (lo (((41 * ra) + a) + 1)))), (8, .int (nI (lo ((41 * (ra + 1)) + a)))), (6, .int (nI a)), (5, .int (nI ra)), (4, .int (nI (n ga))), (3, .int (nI (n fa))), (0, .ref (ad 0)), (1, .int (nI fa)), (2, .int (nI ga))]) hx hb dM_compare_164 hl (by decide) rfl (fun ls hl => ?_)
              refine lv_aload_n hx hb dM_compare_166 rfl (lv_at hl 8 rfl) ?_
              refine gM 11 X V fl_M_36 (by decide) rfl dM_compare_167 ?_
              refine lv_bipush (v := nI 41) hx hb dM_compare_170 (by decide) ?_
              refine lv_iload hx hb dM_compare_172 (lv_at hl 5 rfl) ?_
              refine cj_imulN hx hb dM_compare_174 ?_
              refine lv_iload hx hb dM_compare_175 (lv_at hl 4 rfl) ?_
              refine cj_iaddN hx hb dM_compare_177 ?_
              refine lv_iload hx hb dM_compare_178 (lv_at hl 0 rfl) ?_
              refine sM_lo X V (by omega) dM_compare_180 (fun H locs V => ?_)
              refine lv_iinc (v := cj_p a) (lv' := [(6, .int (cj_p a)), (7, .int (nI 0)), (10, .int (nI 0)), (9, .int (nI (lo (((41 * ra) + a) + 1)))), (8, .int (nI (lo ((41 * (ra + 1)) + a)))), (5, .int (nI ra)), (4, .int (nI (n ga))), (3, .int (nI (n fa))), (0, .ref (ad 0)), (1, .int (nI fa)), (2, .int (nI ga))]) hx hb dM_compare_181 hl (k := 4) rfl (cj_dp _) (by decide) rfl (fun ls hl => ?_)
              refine lv_goto (tgt := 41) hx hb dM_compare_184 (by decide) ?_
              exact ih _ _ _ ls (by omega) (cj_m_step hng (by omega) hJ (by have t4 := t3.2 (of_decide_eq_false c_4); omega)) V (lv_sub hl [0, 5, 6, 7, 8, 9, 10] rfl) kont
          ·
            refine lv_iload hx hb dM_compare_141 (lv_at hl 2 rfl) ?_
            refine lv_goto (tgt := 148) hx hb dM_compare_143 (by decide) ?_
            refine lv_istore (lv' := [(7, .int (nI (lo ((41 * (ra + 1)) + a)))), (10, .int (nI 0)), (9, .int (nI (lo (((41 * ra) + a) + 1)))), (8, .int (nI (lo ((41 * (ra + 1)) + a)))), (6, .int (nI a)), (5, .int (nI ra)), (4, .int (nI (n ga))), (3, .int (nI (n fa))), (0, .ref (ad 0)), (1, .int (nI fa)), (2, .int (nI ga))]) hx hb dM_compare_148 hl (by decide) rfl (fun ls hl => ?_)
            refine lv_iload hx hb dM_compare_150 (lv_at hl 1 rfl) ?_
            refine lv_iload hx hb dM_compare_152 (lv_at hl 0 rfl) ?_
            refine cj_n_le (tgt := 162) hx hb dM_compare_154 (by decide) (by omega) (by omega) (fun c_7 => ?_) (fun c_7 => ?_)
            ·
              refine lv_iload hx hb dM_compare_162 (lv_at hl 0 rfl) ?_
              refine lv_istore (lv' := [(7, .int (nI (lo ((41 * (ra + 1)) + a)))), (10, .int (nI 0)), (9, .int (nI (lo (((41 * ra) + a) + 1)))), (8, .int (nI (lo ((41 * (ra + 1)) + a)))), (6, .int (nI a)), (5, .int (nI ra)), (4, .int (nI (n ga))), (3, .int (nI (n fa))), (0, .ref (ad 0)), (1, .int (nI fa)), (2, .int (nI ga))]) hx hb dM_compare_164 hl (by decide) rfl (fun ls hl => ?_)
              refine lv_aload_n hx hb dM_compare_166 rfl (lv_at hl 8 rfl) ?_
              refine gM 11 X V fl_M_36 (by decide) rfl dM_compare_167 ?_
              refine lv_bipush (v := nI 41) hx hb dM_compare_170 (by decide) ?_
              refine lv_iload hx hb dM_compare_172 (lv_at hl 5 rfl) ?_
              refine cj_imulN hx hb dM_compare_174 ?_
              refine lv_iload hx hb dM_compare_175 (lv_at hl 4 rfl) ?_
              refine cj_iaddN hx hb dM_compare_177 ?_
              refine lv_iload hx hb dM_compare_178 (lv_at hl 0 rfl) ?_
              refine sM_lo X V (by omega) dM_compare_180 (fun H locs V => ?_)
              refine lv_iinc (v := cj_p a) (lv' := [(6, .int (cj_p a)), (7, .int (nI (lo ((41 * (ra + 1)) + a)))), (10, .int (nI 0)), (9, .int (nI (lo (((41 * ra) + a) + 1)))), (8, .int (nI (lo ((41 * (ra + 1)) + a)))), (5, .int (nI ra)), (4, .int (nI (n ga))), (3, .int (nI (n fa))), (0, .ref (ad 0)), (1, .int (nI fa)), (2, .int (nI ga))]) hx hb dM_compare_181 hl (k := 4) rfl (cj_dp _) (by decide) rfl (fun ls hl => ?_)
              refine lv_goto (tgt := 41) hx hb dM_compare_184 (by decide) ?_
              exact ih _ _ _ ls (by omega) (cj_m_step hng (by omega) hJ (by have t4 := t3.2 (of_decide_eq_false c_4); omega)) V (lv_sub hl [0, 5, 6, 7, 8, 9, 10] rfl) kont
            ·
              refine lv_iload hx hb dM_compare_157 (lv_at hl 1 rfl) ?_
              refine lv_goto (tgt := 164) hx hb dM_compare_159 (by decide) ?_
              refine lv_istore (lv' := [(7, .int (nI 0)), (10, .int (nI 0)), (9, .int (nI (lo (((41 * ra) + a) + 1)))), (8, .int (nI (lo ((41 * (ra + 1)) + a)))), (6, .int (nI a)), (5, .int (nI ra)), (4, .int (nI (n ga))), (3, .int (nI (n fa))), (0, .ref (ad 0)), (1, .int (nI fa)), (2, .int (nI ga))]) hx hb dM_compare_164 hl (by decide) rfl (fun ls hl => ?_)
              refine lv_aload_n hx hb dM_compare_166 rfl (lv_at hl 8 rfl) ?_
              refine gM 11 X V fl_M_36 (by decide) rfl dM_compare_167 ?_
              refine lv_bipush (v := nI 41) hx hb dM_compare_170 (by decide) ?_
              refine lv_iload hx hb dM_compare_172 (lv_at hl 5 rfl) ?_
              refine cj_imulN hx hb dM_compare_174 ?_
              refine lv_iload hx hb dM_compare_175 (lv_at hl 4 rfl) ?_
              refine cj_iaddN hx hb dM_compare_177 ?_
              refine lv_iload hx hb dM_compare_178 (lv_at hl 0 rfl) ?_
              refine sM_lo X V (by omega) dM_compare_180 (fun H locs V => ?_)
              refine lv_iinc (v := cj_p a) (lv' := [(6, .int (cj_p a)), (7, .int (nI 0)), (10, .int (nI 0)), (9, .int (nI (lo (((41 * ra) + a) + 1)))), (8, .int (nI (lo ((41 * (ra + 1)) + a)))), (5, .int (nI ra)), (4, .int (nI (n ga))), (3, .int (nI (n fa))), (0, .ref (ad 0)), (1, .int (nI fa)), (2, .int (nI ga))]) hx hb dM_compare_181 hl (k := 4) rfl (cj_dp _) (by decide) rfl (fun ls hl => ?_)
              refine lv_goto (tgt := 41) hx hb dM_compare_184 (by decide) ?_
              exact ih _ _ _ ls (by omega) (cj_m_step hng (by omega) hJ (by have t4 := t3.2 (of_decide_eq_false c_4); omega)) V (lv_sub hl [0, 5, 6, 7, 8, 9, 10] rfl) kont
        ·
          refine lv_aload_n hx hb dM_compare_109 rfl (lv_at hl 7 rfl) ?_
          refine gM 11 X V fl_M_36 (by decide) rfl dM_compare_110 ?_
          refine lv_bipush (v := nI 41) hx hb dM_compare_113 (by decide) ?_
          refine lv_iload hx hb dM_compare_115 (lv_at hl 4 rfl) ?_
          refine lv_iconst (v := nI 1) hx hb dM_compare_117 (by decide) ?_
          refine cj_iaddN hx hb dM_compare_118 ?_
          refine cj_imulN hx hb dM_compare_119 ?_
          refine lv_iload hx hb dM_compare_120 (lv_at hl 3 rfl) ?_
          refine cj_iaddN hx hb dM_compare_122 ?_
          refine lv_iconst (v := nI 1) hx hb dM_compare_123 (by decide) ?_
          refine cj_iaddN hx hb dM_compare_124 ?_
          refine rM_lo X V (by omega) dM_compare_125 ?_
          refine lv_iconst (v := nI 1) hx hb dM_compare_126 (by decide) ?_
          refine cj_iaddN hx hb dM_compare_127 ?_
          refine lv_goto (tgt := 132) hx hb dM_compare_128 (by decide) ?_
          refine lv_istore (lv' := [(10, .int (nI ((lo (((41 * (ra + 1)) + a) + 1)) + 1))), (9, .int (nI (lo (((41 * ra) + a) + 1)))), (8, .int (nI (lo ((41 * (ra + 1)) + a)))), (7, .int (nI 0)), (6, .int (nI a)), (5, .int (nI ra)), (4, .int (nI (n ga))), (3, .int (nI (n fa))), (0, .ref (ad 0)), (1, .int (nI fa)), (2, .int (nI ga))]) hx hb dM_compare_132 hl (by decide) rfl (fun ls hl => ?_)
          refine lv_iload hx hb dM_compare_134 (lv_at hl 2 rfl) ?_
          refine lv_iload hx hb dM_compare_136 (lv_at hl 1 rfl) ?_
          refine cj_n_le (tgt := 146) hx hb dM_compare_138 (by decide) (by omega) (by omega) (fun c_8 => ?_) (fun c_8 => ?_)
          ·
            refine lv_iload hx hb dM_compare_146 (lv_at hl 1 rfl) ?_
            refine lv_istore (lv' := [(7, .int (nI (lo (((41 * ra) + a) + 1)))), (10, .int (nI ((lo (((41 * (ra + 1)) + a) + 1)) + 1))), (9, .int (nI (lo (((41 * ra) + a) + 1)))), (8, .int (nI (lo ((41 * (ra + 1)) + a)))), (6, .int (nI a)), (5, .int (nI ra)), (4, .int (nI (n ga))), (3, .int (nI (n fa))), (0, .ref (ad 0)), (1, .int (nI fa)), (2, .int (nI ga))]) hx hb dM_compare_148 hl (by decide) rfl (fun ls hl => ?_)
            refine lv_iload hx hb dM_compare_150 (lv_at hl 1 rfl) ?_
            refine lv_iload hx hb dM_compare_152 (lv_at hl 0 rfl) ?_
            refine cj_n_le (tgt := 162) hx hb dM_compare_154 (by decide) (by omega) (by omega) (fun c_9 => ?_) (fun c_9 => ?_)
            ·
              refine lv_iload hx hb dM_compare_162 (lv_at hl 0 rfl) ?_
              refine lv_istore (lv' := [(7, .int (nI (lo (((41 * ra) + a) + 1)))), (10, .int (nI ((lo (((41 * (ra + 1)) + a) + 1)) + 1))), (9, .int (nI (lo (((41 * ra) + a) + 1)))), (8, .int (nI (lo ((41 * (ra + 1)) + a)))), (6, .int (nI a)), (5, .int (nI ra)), (4, .int (nI (n ga))), (3, .int (nI (n fa))), (0, .ref (ad 0)), (1, .int (nI fa)), (2, .int (nI ga))]) hx hb dM_compare_164 hl (by decide) rfl (fun ls hl => ?_)
              refine lv_aload_n hx hb dM_compare_166 rfl (lv_at hl 8 rfl) ?_
              refine gM 11 X V fl_M_36 (by decide) rfl dM_compare_167 ?_
              refine lv_bipush (v := nI 41) hx hb dM_compare_170 (by decide) ?_
              refine lv_iload hx hb dM_compare_172 (lv_at hl 5 rfl) ?_
              refine cj_imulN hx hb dM_compare_174 ?_
              refine lv_iload hx hb dM_compare_175 (lv_at hl 4 rfl) ?_
              refine cj_iaddN hx hb dM_compare_177 ?_
              refine lv_iload hx hb dM_compare_178 (lv_at hl 0 rfl) ?_
              refine sM_lo X V (by omega) dM_compare_180 (fun H locs V => ?_)
              refine lv_iinc (v := cj_p a) (lv' := [(6, .int (cj_p a)), (7, .int (nI (lo (((41 * ra) + a) + 1)))), (10, .int (nI ((lo (((41 * (ra + 1)) + a) + 1)) + 1))), (9, .int (nI (lo (((41 * ra) + a) + 1)))), (8, .int (nI (lo ((41 * (ra + 1)) + a)))), (5, .int (nI ra)), (4, .int (nI (n ga))), (3, .int (nI (n fa))), (0, .ref (ad 0)), (1, .int (nI fa)), (2, .int (nI ga))]) hx hb dM_compare_181 hl (k := 4) rfl (cj_dp _) (by decide) rfl (fun ls hl => ?_)
              refine lv_goto (tgt := 41) hx hb dM_compare_184 (by decide) ?_
              exact ih _ _ _ ls (by omega) (cj_m_step hng (by omega) hJ (by have t4 := t3.1 (of_decide_eq_true c_4); omega)) V (lv_sub hl [0, 5, 6, 7, 8, 9, 10] rfl) kont
            ·
              refine lv_iload hx hb dM_compare_157 (lv_at hl 1 rfl) ?_
              refine lv_goto (tgt := 164) hx hb dM_compare_159 (by decide) ?_
              refine lv_istore (lv' := [(7, .int (nI ((lo (((41 * (ra + 1)) + a) + 1)) + 1))), (10, .int (nI ((lo (((41 * (ra + 1)) + a) + 1)) + 1))), (9, .int (nI (lo (((41 * ra) + a) + 1)))), (8, .int (nI (lo ((41 * (ra + 1)) + a)))), (6, .int (nI a)), (5, .int (nI ra)), (4, .int (nI (n ga))), (3, .int (nI (n fa))), (0, .ref (ad 0)), (1, .int (nI fa)), (2, .int (nI ga))]) hx hb dM_compare_164 hl (by decide) rfl (fun ls hl => ?_)
              refine lv_aload_n hx hb dM_compare_166 rfl (lv_at hl 8 rfl) ?_
              refine gM 11 X V fl_M_36 (by decide) rfl dM_compare_167 ?_
              refine lv_bipush (v := nI 41) hx hb dM_compare_170 (by decide) ?_
              refine lv_iload hx hb dM_compare_172 (lv_at hl 5 rfl) ?_
              refine cj_imulN hx hb dM_compare_174 ?_
              refine lv_iload hx hb dM_compare_175 (lv_at hl 4 rfl) ?_
              refine cj_iaddN hx hb dM_compare_177 ?_
              refine lv_iload hx hb dM_compare_178 (lv_at hl 0 rfl) ?_
              refine sM_lo X V (by omega) dM_compare_180 (fun H locs V => ?_)
              refine lv_iinc (v := cj_p a) (lv' := [(6, .int (cj_p a)), (7, .int (nI ((lo (((41 * (ra + 1)) + a) + 1)) + 1))), (10, .int (nI ((lo (((41 * (ra + 1)) + a) + 1)) + 1))), (9, .int (nI (lo (((41 * ra) + a) + 1)))), (8, .int (nI (lo ((41 * (ra + 1)) + a)))), (5, .int (nI ra)), (4, .int (nI (n ga))), (3, .int (nI (n fa))), (0, .ref (ad 0)), (1, .int (nI fa)), (2, .int (nI ga))]) hx hb dM_compare_181 hl (k := 4) rfl (cj_dp _) (by decide) rfl (fun ls hl => ?_)
              refine lv_goto (tgt := 41) hx hb dM_compare_184 (by decide) ?_
              exact ih _ _ _ ls (by omega) (cj_m_step hng (by omega) hJ (by have t4 := t3.1 (of_decide_eq_true c_4); omega)) V (lv_sub hl [0, 5, 6, 7, 8, 9, 10] rfl) kont
          ·
            refine lv_iload hx hb dM_compare_141 (lv_at hl 2 rfl) ?_
            refine lv_goto (tgt := 148) hx hb dM_compare_143 (by decide) ?_
            refine lv_istore (lv' := [(7, .int (nI (lo ((41 * (ra + 1)) + a)))), (10, .int (nI ((lo (((41 * (ra + 1)) + a) + 1)) + 1))), (9, .int (nI (lo (((41 * ra) + a) + 1)))), (8, .int (nI (lo ((41 * (ra + 1)) + a)))), (6, .int (nI a)), (5, .int (nI ra)), (4, .int (nI (n ga))), (3, .int (nI (n fa))), (0, .ref (ad 0)), (1, .int (nI fa)), (2, .int (nI ga))]) hx hb dM_compare_148 hl (by decide) rfl (fun ls hl => ?_)
            refine lv_iload hx hb dM_compare_150 (lv_at hl 1 rfl) ?_
            refine lv_iload hx hb dM_compare_152 (lv_at hl 0 rfl) ?_
            refine cj_n_le (tgt := 162) hx hb dM_compare_154 (by decide) (by omega) (by omega) (fun c_10 => ?_) (fun c_10 => ?_)
            ·
              refine lv_iload hx hb dM_compare_162 (lv_at hl 0 rfl) ?_
              refine lv_istore (lv' := [(7, .int (nI (lo ((41 * (ra + 1)) + a)))), (10, .int (nI ((lo (((41 * (ra + 1)) + a) + 1)) + 1))), (9, .int (nI (lo (((41 * ra) + a) + 1)))), (8, .int (nI (lo ((41 * (ra + 1)) + a)))), (6, .int (nI a)), (5, .int (nI ra)), (4, .int (nI (n ga))), (3, .int (nI (n fa))), (0, .ref (ad 0)), (1, .int (nI fa)), (2, .int (nI ga))]) hx hb dM_compare_164 hl (by decide) rfl (fun ls hl => ?_)
              refine lv_aload_n hx hb dM_compare_166 rfl (lv_at hl 8 rfl) ?_
              refine gM 11 X V fl_M_36 (by decide) rfl dM_compare_167 ?_
              refine lv_bipush (v := nI 41) hx hb dM_compare_170 (by decide) ?_
              refine lv_iload hx hb dM_compare_172 (lv_at hl 5 rfl) ?_
              refine cj_imulN hx hb dM_compare_174 ?_
              refine lv_iload hx hb dM_compare_175 (lv_at hl 4 rfl) ?_
              refine cj_iaddN hx hb dM_compare_177 ?_
              refine lv_iload hx hb dM_compare_178 (lv_at hl 0 rfl) ?_
              refine sM_lo X V (by omega) dM_compare_180 (fun H locs V => ?_)
              refine lv_iinc (v := cj_p a) (lv' := [(6, .int (cj_p a)), (7, .int (nI (lo ((41 * (ra + 1)) + a)))), (10, .int (nI ((lo (((41 * (ra + 1)) + a) + 1)) + 1))), (9, .int (nI (lo (((41 * ra) + a) + 1)))), (8, .int (nI (lo ((41 * (ra + 1)) + a)))), (5, .int (nI ra)), (4, .int (nI (n ga))), (3, .int (nI (n fa))), (0, .ref (ad 0)), (1, .int (nI fa)), (2, .int (nI ga))]) hx hb dM_compare_181 hl (k := 4) rfl (cj_dp _) (by decide) rfl (fun ls hl => ?_)
              refine lv_goto (tgt := 41) hx hb dM_compare_184 (by decide) ?_
              exact ih _ _ _ ls (by omega) (cj_m_step hng (by omega) hJ (by have t4 := t3.1 (of_decide_eq_true c_4); omega)) V (lv_sub hl [0, 5, 6, 7, 8, 9, 10] rfl) kont
            ·
              refine lv_iload hx hb dM_compare_157 (lv_at hl 1 rfl) ?_
              refine lv_goto (tgt := 164) hx hb dM_compare_159 (by decide) ?_
              refine lv_istore (lv' := [(7, .int (nI ((lo (((41 * (ra + 1)) + a) + 1)) + 1))), (10, .int (nI ((lo (((41 * (ra + 1)) + a) + 1)) + 1))), (9, .int (nI (lo (((41 * ra) + a) + 1)))), (8, .int (nI (lo ((41 * (ra + 1)) + a)))), (6, .int (nI a)), (5, .int (nI ra)), (4, .int (nI (n ga))), (3, .int (nI (n fa))), (0, .ref (ad 0)), (1, .int (nI fa)), (2, .int (nI ga))]) hx hb dM_compare_164 hl (by decide) rfl (fun ls hl => ?_)
              refine lv_aload_n hx hb dM_compare_166 rfl (lv_at hl 8 rfl) ?_
              refine gM 11 X V fl_M_36 (by decide) rfl dM_compare_167 ?_
              refine lv_bipush (v := nI 41) hx hb dM_compare_170 (by decide) ?_
              refine lv_iload hx hb dM_compare_172 (lv_at hl 5 rfl) ?_
              refine cj_imulN hx hb dM_compare_174 ?_
              refine lv_iload hx hb dM_compare_175 (lv_at hl 4 rfl) ?_
              refine cj_iaddN hx hb dM_compare_177 ?_
              refine lv_iload hx hb dM_compare_178 (lv_at hl 0 rfl) ?_
              refine sM_lo X V (by omega) dM_compare_180 (fun H locs V => ?_)
              refine lv_iinc (v := cj_p a) (lv' := [(6, .int (cj_p a)), (7, .int (nI ((lo (((41 * (ra + 1)) + a) + 1)) + 1))), (10, .int (nI ((lo (((41 * (ra + 1)) + a) + 1)) + 1))), (9, .int (nI (lo (((41 * ra) + a) + 1)))), (8, .int (nI (lo ((41 * (ra + 1)) + a)))), (5, .int (nI ra)), (4, .int (nI (n ga))), (3, .int (nI (n fa))), (0, .ref (ad 0)), (1, .int (nI fa)), (2, .int (nI ga))]) hx hb dM_compare_181 hl (k := 4) rfl (cj_dp _) (by decide) rfl (fun ls hl => ?_)
              refine lv_goto (tgt := 41) hx hb dM_compare_184 (by decide) ?_
              exact ih _ _ _ ls (by omega) (cj_m_step hng (by omega) hJ (by have t4 := t3.1 (of_decide_eq_true c_4); omega)) V (lv_sub hl [0, 5, 6, 7, 8, 9, 10] rfl) kont
set_option maxRecDepth 100000 in
set_option maxHeartbeats 4000000 in
theorem lp_M_cmp1 {p : Program} {l : Launch} {e : Env} {s : State} {m : MethodId} {args : Array Value} {below : List Frame} {meth : Method} {c : Code} {Q : State → Prop} {D : va_G} {kd : Nat → ClassId} {A : Nat → Prop} {H0 : Heap} {ad : Nat → Nat} {E : Nat} {rn : Nat} {ch : Int32} {n : Nat → Nat} {con : Nat → Int32} {ow : Nat → Nat} {ge : Nat → Bool} {cl : Nat → Bool} {ed : Nat → Nat} {co : Nat → Nat} {hz : Nat → Int64} {pr : Nat → Int32} (X : cj_X p s m args c meth cM_compare 11 RM D kd) (fa ga : Nat) (hf : fa < 8) (hg : ga < 8) (hnf : n fa ≤ 40) (hng : n ga ≤ 40) : ∀ (a : Nat) (lo : Nat → Nat) (H : Heap) (locs : List Loc) (ls : Array Slot), a ≤ n fa + 1 → cj_J (fun i => con (40 * fa + i)) (fun i => con (40 * ga + i)) (n fa) (n ga) (cj_m2 lo) a → cj_V D A H0 (wM kd ad E rn ch n con ow ge cl ed co hz lo pr) H locs → lv_has ls 11 [(5, .int (cj_p a)), (4, .int (nI (n ga))), (3, .int (nI (n fa))), (0, .ref (ad 0)), (1, .int (nI fa)), (2, .int (nI ga))] → (∀ (lo : Nat → Nat) (H : Heap) (locs : List Loc) (ls : Array Slot), cj_J (fun i => con (40 * fa + i)) (fun i => con (40 * ga + i)) (n fa) (n ga) (cj_m2 lo) 0 → cj_V D A H0 (wM kd ad E rn ch n con ow ge cl ed co hz lo pr) H locs → lv_has ls 11 [(4, .int (nI (n ga))), (3, .int (nI (n fa))), (0, .ref (ad 0)), (1, .int (nI fa)), (2, .int (nI ga))] → W p l e (cj_rm 1) s m args below meth c H locs 0 0 Q (F0 m 193 ls [])) → W p l e (cj_rm 1) s m args below meth c H locs 0 0 Q (F0 m 32 ls []) := by
  obtain ⟨⟨hx, hb, hml, hown, hts⟩, hK, hlk⟩ := id X
  intro a
  induction a with
  | zero =>
    intro lo H locs ls haf hJ V hl kont
    rw [cj_p0] at hl
    refine lv_iload hx hb dM_compare_32 (lv_at hl 0 rfl) ?_
    refine lv_if_lt (tgt := 193) hx hb dM_compare_34 (by decide) (fun _ => ?_) (fun h => absurd (by decide) h)
    exact kont _ _ _ _ hJ V (lv_sub hl [1, 2, 3, 4, 5] rfl)
  | succ a ih =>
    intro lo H locs ls haf hJ V hl kont
    rw [cj_ps] at hl
    refine lv_iload hx hb dM_compare_32 (lv_at hl 0 rfl) ?_
    refine cj_z_lt (tgt := 193) hx hb dM_compare_34 (by omega) (by decide) ?_
    refine lv_iload hx hb dM_compare_37 (lv_at hl 1 rfl) ?_
    refine lv_istore (lv' := [(6, .int (nI (n ga))), (5, .int (nI a)), (4, .int (nI (n ga))), (3, .int (nI (n fa))), (0, .ref (ad 0)), (1, .int (nI fa)), (2, .int (nI ga))]) hx hb dM_compare_39 hl (by decide) rfl (fun ls hl => ?_)
    refine lp_M_cmp2 X fa ga hf hg hnf hng a (by omega) (n ga + 1) _ _ _ ls (Nat.le_refl _) (cj_m_start hJ) V (lv_sub hl [0, 1, 2, 3, 4, 5, 6] (by rw [cj_ps]; rfl)) (fun lo H locs ls hJ V hl => ?_)
    refine lv_iinc (v := cj_p a) (lv' := [(5, .int (cj_p a)), (4, .int (nI (n ga))), (3, .int (nI (n fa))), (0, .ref (ad 0)), (1, .int (nI fa)), (2, .int (nI ga))]) hx hb dM_compare_187 hl (k := 0) rfl (cj_dp _) (by decide) rfl (fun ls hl => ?_)
    refine lv_goto (tgt := 32) hx hb dM_compare_190 (by decide) ?_
    exact ih _ _ _ ls (by omega) (cj_J2_end hJ) V (lv_sub hl [0, 1, 2, 3, 4, 5] rfl) kont
set_option maxRecDepth 100000 in
set_option maxHeartbeats 4000000 in
theorem lp_M_ch2 {p : Program} {l : Launch} {e : Env} {s : State} {m : MethodId} {args : Array Value} {below : List Frame} {meth : Method} {c : Code} {Q : State → Prop} {D : va_G} {kd : Nat → ClassId} {A : Nat → Prop} {H0 : Heap} {ad : Nat → Nat} {E : Nat} {rn : Nat} {ch : Int32} {n : Nat → Nat} {con : Nat → Int32} {ow : Nat → Nat} {ge : Nat → Bool} {cl : Nat → Bool} {ed : Nat → Nat} {co : Nat → Nat} {hz : Nat → Int64} {lo : Nat → Nat} (X : cj_X p s m args c meth cM_compare 11 RM D kd) (fa ga : Nat) (hf : fa < 8) (hg : ga < 8) (hnf : n fa ≤ 40) (hng : n ga ≤ 40) (hJ : cj_J (fun i => con (40 * fa + i)) (fun i => con (40 * ga + i)) (n fa) (n ga) (cj_m2 lo) 0) (ra fr : Nat) (hra : ra < n fa) (hfr : fr ≤ n ga) : ∀ (d i : Nat) (pr : Nat → Int32) (H : Heap) (locs : List Loc) (ls : Array Slot), i + d = n ga → pr ra = (-1) → cj_V D A H0 (wM kd ad E rn ch n con ow ge cl ed co hz lo pr) H locs → lv_has ls 11 [(7, .int (nI i)), (6, .int (nI ra)), (5, .int (nI fr)), (4, .int (nI (n ga))), (3, .int (nI (n fa))), (0, .ref (ad 0)), (1, .int (nI fa)), (2, .int (nI ga))] → (∀ (pr9 : Nat → Int32) (H : Heap) (locs : List Loc) (ls : Array Slot), pr9 ra = oI (cj_f2 (cj_P (fun i => con (40 * fa + i)) (fun i => con (40 * ga + i)) (n fa) (n ga) ra fr) d i) → (∀ k, k ≠ ra → pr9 k = pr k) → cj_V D A H0 (wM kd ad E rn ch n con ow ge cl ed co hz lo pr9) H locs → lv_has ls 11 [(6, .int (nI ra)), (5, .int (nI fr)), (4, .int (nI (n ga))), (3, .int (nI (n fa))), (0, .ref (ad 0)), (1, .int (nI fa)), (2, .int (nI ga))] → W p l e (cj_rm 1) s m args below meth c H locs 0 0 Q (F0 m 298 ls [])) → W p l e (cj_rm 1) s m args below meth c H locs 0 0 Q (F0 m 217 ls []) := by
  obtain ⟨⟨hx, hb, hml, hown, hts⟩, hK, hlk⟩ := id X
  intro d
  induction d with
  | zero =>
    intro i pr H locs ls hi hpr V hl kont
    refine lv_iload hx hb dM_compare_217 (lv_at hl 0 rfl) ?_
    refine lv_iload hx hb dM_compare_219 (lv_at hl 3 rfl) ?_
    refine cj_n_ge (tgt := 298) hx hb dM_compare_221 (by decide) (by omega) (by omega) (fun c_1 => ?_) (fun c_1 => ?_)
    ·
      exact kont _ _ _ _ hpr (fun _ _ => rfl) V (lv_sub hl [1, 2, 3, 4, 5, 6, 7] rfl)
    ·
      exact absurd c_1 (by omega)
  | succ d ih =>
    intro i pr H locs ls hi hpr V hl kont
    refine lv_iload hx hb dM_compare_217 (lv_at hl 0 rfl) ?_
    refine lv_iload hx hb dM_compare_219 (lv_at hl 3 rfl) ?_
    refine cj_n_ge (tgt := 298) hx hb dM_compare_221 (by decide) (by omega) (by omega) (fun c_1 => ?_) (fun c_1 => ?_)
    ·
      exact absurd c_1 (by omega)
    ·
      refine lv_aload_n hx hb dM_compare_224 rfl (lv_at hl 5 rfl) ?_
      refine gM 12 X V fl_M_39 (by decide) rfl dM_compare_225 ?_
      refine lv_iload hx hb dM_compare_228 (lv_at hl 1 rfl) ?_
      refine rM_pr X V (by omega) dM_compare_230 ?_
      refine cj_ti hpr ?_
      refine lv_iconst (v := (-1)) hx hb dM_compare_231 (by decide) ?_
      refine lv_icmp_ne (tgt := 298) hx hb dM_compare_232 (by decide) (fun h => absurd rfl h) (fun _ => ?_)
      refine lv_aload_n hx hb dM_compare_235 rfl (lv_at hl 5 rfl) ?_
      refine lv_iload_n hx hb dM_compare_236 rfl (lv_at hl 6 rfl) ?_
      refine lv_iload hx hb dM_compare_237 (lv_at hl 1 rfl) ?_
      refine lv_iload_n hx hb dM_compare_239 rfl (lv_at hl 7 rfl) ?_
      refine lv_iload hx hb dM_compare_240 (lv_at hl 0 rfl) ?_
      refine cj_cvi X V (c_M_isAlike l D kd ad fa ra ga i (by omega) (by omega) (by omega) (by omega)) 0 2 rfl rfl rfl ml_M_64 im_M_isAlike se_M_isAlike in_M cd_M_isAlike hd_M_isAlike ⟨by decide, by decide⟩ ⟨Nat.le_refl _, Nat.le_refl _⟩ hl.1 rfl (Nat.le_of_ble_eq_true rfl) dM_compare_242 (fun r_9 u_9 H locs hw V => ?_)
      obtain rfl := hw
      refine cj_b_eq (tgt := 292) hx hb dM_compare_245 (by decide) (fun c_3 => ?_) (fun c_3 => ?_)
      ·
        refine lv_iinc (v := nI (i + 1)) (lv' := [(7, .int (nI (i + 1))), (6, .int (nI ra)), (5, .int (nI fr)), (4, .int (nI (n ga))), (3, .int (nI (n fa))), (0, .ref (ad 0)), (1, .int (nI fa)), (2, .int (nI ga))]) hx hb dM_compare_292 hl (k := 0) rfl (cj_inc _) (by decide) rfl (fun ls hl => ?_)
        refine lv_goto (tgt := 217) hx hb dM_compare_295 (by decide) ?_
        have hp : cj_P (fun i => con (40 * fa + i)) (fun i => con (40 * ga + i)) (n fa) (n ga) ra fr i = false := by unfold cj_P; rw [c_3]; rfl
        exact ih (i + 1) _ _ _ ls (by omega) hpr V (lv_sub hl [0, 1, 2, 3, 4, 5, 6, 7] rfl) (fun pr9 H locs ls h1 h2 => kont pr9 H locs ls (by rw [cj_f2_f hp]; exact h1) h2)
      ·
        refine lv_aload_n hx hb dM_compare_248 rfl (lv_at hl 5 rfl) ?_
        refine gM 11 X V fl_M_36 (by decide) rfl dM_compare_249 ?_
        refine lv_bipush (v := nI 41) hx hb dM_compare_252 (by decide) ?_
        refine lv_iload hx hb dM_compare_254 (lv_at hl 1 rfl) ?_
        refine lv_iconst (v := nI 1) hx hb dM_compare_256 (by decide) ?_
        refine cj_iaddN hx hb dM_compare_257 ?_
        refine cj_imulN hx hb dM_compare_258 ?_
        refine lv_iload hx hb dM_compare_259 (lv_at hl 0 rfl) ?_
        refine cj_iaddN hx hb dM_compare_261 ?_
        refine lv_iconst (v := nI 1) hx hb dM_compare_262 (by decide) ?_
        refine cj_iaddN hx hb dM_compare_263 ?_
        refine rM_lo X V (by omega) dM_compare_264 ?_
        have eC : lo (41 * (ra + 1) + i + 1) = cj_T (fun i => con (40 * fa + i)) (fun i => con (40 * ga + i)) (n fa) (n ga) (ra + 1) (i + 1) := hJ (ra + 1) (by omega) (by omega) (i + 1) (by omega)
        have tC : cj_T (fun i => con (40 * fa + i)) (fun i => con (40 * ga + i)) (n fa) (n ga) (ra + 1) (i + 1) ≤ 40 := cj_T_le40 hnf (by omega) (by omega)
        refine lv_iconst (v := nI 1) hx hb dM_compare_265 (by decide) ?_
        refine cj_iaddN hx hb dM_compare_266 ?_
        refine lv_aload_n hx hb dM_compare_267 rfl (lv_at hl 5 rfl) ?_
        refine gM 11 X V fl_M_36 (by decide) rfl dM_compare_268 ?_
        refine lv_bipush (v := nI 41) hx hb dM_compare_271 (by decide) ?_
        refine lv_iload hx hb dM_compare_273 (lv_at hl 1 rfl) ?_
        refine cj_imulN hx hb dM_compare_275 ?_
        refine lv_iload hx hb dM_compare_276 (lv_at hl 2 rfl) ?_
        refine cj_iaddN hx hb dM_compare_278 ?_
        refine rM_lo X V (by omega) dM_compare_279 ?_
        have eF : lo (41 * ra + fr) = cj_T (fun i => con (40 * fa + i)) (fun i => con (40 * ga + i)) (n fa) (n ga) ra fr := hJ ra (by omega) (by omega) fr (by omega)
        have tF : cj_T (fun i => con (40 * fa + i)) (fun i => con (40 * ga + i)) (n fa) (n ga) ra fr ≤ 40 := cj_T_le40 hnf (by omega) (by omega)
        refine cj_n_ne (tgt := 292) hx hb dM_compare_280 (by decide) (by omega) (by omega) (fun c_4 => ?_) (fun c_4 => ?_)
        ·
          refine lv_iinc (v := nI (i + 1)) (lv' := [(7, .int (nI (i + 1))), (6, .int (nI ra)), (5, .int (nI fr)), (4, .int (nI (n ga))), (3, .int (nI (n fa))), (0, .ref (ad 0)), (1, .int (nI fa)), (2, .int (nI ga))]) hx hb dM_compare_292 hl (k := 0) rfl (cj_inc _) (by decide) rfl (fun ls hl => ?_)
          refine lv_goto (tgt := 217) hx hb dM_compare_295 (by decide) ?_
          have hp : cj_P (fun i => con (40 * fa + i)) (fun i => con (40 * ga + i)) (n fa) (n ga) ra fr i = false := by unfold cj_P; rw [c_3, decide_eq_false (show ¬ (cj_T (fun i => con (40 * fa + i)) (fun i => con (40 * ga + i)) (n fa) (n ga) (ra + 1) (i + 1) + 1 = cj_T (fun i => con (40 * fa + i)) (fun i => con (40 * ga + i)) (n fa) (n ga) ra fr) by omega)]; rfl
          exact ih (i + 1) _ _ _ ls (by omega) hpr V (lv_sub hl [0, 1, 2, 3, 4, 5, 6, 7] rfl) (fun pr9 H locs ls h1 h2 => kont pr9 H locs ls (by rw [cj_f2_f hp]; exact h1) h2)
        ·
          refine lv_aload_n hx hb dM_compare_283 rfl (lv_at hl 5 rfl) ?_
          refine gM 12 X V fl_M_39 (by decide) rfl dM_compare_284 ?_
          refine lv_iload hx hb dM_compare_287 (lv_at hl 1 rfl) ?_
          refine lv_iload hx hb dM_compare_289 (lv_at hl 0 rfl) ?_
          refine sM_pr X V (by omega) dM_compare_291 (fun H locs V => ?_)
          refine lv_iinc (v := nI (i + 1)) (lv' := [(7, .int (nI (i + 1))), (6, .int (nI ra)), (5, .int (nI fr)), (4, .int (nI (n ga))), (3, .int (nI (n fa))), (0, .ref (ad 0)), (1, .int (nI fa)), (2, .int (nI ga))]) hx hb dM_compare_292 hl (k := 0) rfl (cj_inc _) (by decide) rfl (fun ls hl => ?_)
          refine lv_goto (tgt := 217) hx hb dM_compare_295 (by decide) ?_
          have hp : cj_P (fun i => con (40 * fa + i)) (fun i => con (40 * ga + i)) (n fa) (n ga) ra fr i = true := by unfold cj_P; rw [c_3, decide_eq_true (show cj_T (fun i => con (40 * fa + i)) (fun i => con (40 * ga + i)) (n fa) (n ga) (ra + 1) (i + 1) + 1 = cj_T (fun i => con (40 * fa + i)) (fun i => con (40 * ga + i)) (n fa) (n ga) ra fr by omega)]; rfl
          refine lv_iload hx hb dM_compare_217 (lv_at hl 0 rfl) ?_
          refine lv_iload hx hb dM_compare_219 (lv_at hl 3 rfl) ?_
          refine cj_n_ge (tgt := 298) hx hb dM_compare_221 (by decide) (by omega) (by omega) (fun c_5 => ?_) (fun c_5 => ?_)
          ·
            exact kont _ _ _ _ (by rw [va_up_self, cj_f2_t hp]; rfl) (fun k hk => va_up_ne _ _ hk) V (lv_sub hl [1, 2, 3, 4, 5, 6, 7] rfl)
          ·
            refine lv_aload_n hx hb dM_compare_224 rfl (lv_at hl 5 rfl) ?_
            refine gM 12 X V fl_M_39 (by decide) rfl dM_compare_225 ?_
            refine lv_iload hx hb dM_compare_228 (lv_at hl 1 rfl) ?_
            refine rM_pr X V (by omega) dM_compare_230 ?_
            rw [va_up_self]
            refine lv_iconst (v := (-1)) hx hb dM_compare_231 (by decide) ?_
            refine lv_icmp_ne (tgt := 298) hx hb dM_compare_232 (by decide) (fun _ => ?_) (fun h => absurd h (cj_nm1 (by omega)))
            exact kont _ _ _ _ (by rw [va_up_self, cj_f2_t hp]; rfl) (fun k hk => va_up_ne _ _ hk) V (lv_sub hl [1, 2, 3, 4, 5, 6, 7] rfl)
set_option maxRecDepth 100000 in
set_option maxHeartbeats 4000000 in
theorem lp_M_ch1 {p : Program} {l : Launch} {e : Env} {s : State} {m : MethodId} {args : Array Value} {below : List Frame} {meth : Method} {c : Code} {Q : State → Prop} {D : va_G} {kd : Nat → ClassId} {A : Nat → Prop} {H0 : Heap} {ad : Nat → Nat} {E : Nat} {rn : Nat} {ch : Int32} {n : Nat → Nat} {con : Nat → Int32} {ow : Nat → Nat} {ge : Nat → Bool} {cl : Nat → Bool} {ed : Nat → Nat} {co : Nat → Nat} {hz : Nat → Int64} {lo : Nat → Nat} (X : cj_X p s m args c meth cM_compare 11 RM D kd) (fa ga : Nat) (hf : fa < 8) (hg : ga < 8) (hnf : n fa ≤ 40) (hng : n ga ≤ 40) (hJ : cj_J (fun i => con (40 * fa + i)) (fun i => con (40 * ga + i)) (n fa) (n ga) (cj_m2 lo) 0) : ∀ (d i : Nat) (pr : Nat → Int32) (H : Heap) (locs : List Loc) (ls : Array Slot), i + d = n fa → (∀ j, j < i → pr j = oI (cj_pp (fun i => con (40 * fa + i)) (fun i => con (40 * ga + i)) (n fa) (n ga) j)) → cj_V D A H0 (wM kd ad E rn ch n con ow ge cl ed co hz lo pr) H locs → lv_has ls 11 [(6, .int (nI i)), (5, .int (nI (cj_pf (fun i => con (40 * fa + i)) (fun i => con (40 * ga + i)) (n fa) (n ga) i))), (4, .int (nI (n ga))), (3, .int (nI (n fa))), (0, .ref (ad 0)), (1, .int (nI fa)), (2, .int (nI ga))] → (∀ (pr : Nat → Int32) (H : Heap) (locs : List Loc) (ls : Array Slot), (∀ j, j < n fa → pr j = oI (cj_pp (fun i => con (40 * fa + i)) (fun i => con (40 * ga + i)) (n fa) (n ga) j)) → cj_V D A H0 (wM kd ad E rn ch n con ow ge cl ed co hz lo pr) H locs → lv_has ls 11 [(6, .int (nI (n fa))), (5, .int (nI (cj_pf (fun i => con (40 * fa + i)) (fun i => con (40 * ga + i)) (n fa) (n ga) (n fa)))), (4, .int (nI (n ga))), (3, .int (nI (n fa))), (0, .ref (ad 0)), (1, .int (nI fa)), (2, .int (nI ga))] → W p l e (cj_rm 1) s m args below meth c H locs 0 0 Q (F0 m 331 ls [])) → W p l e (cj_rm 1) s m args below meth c H locs 0 0 Q (F0 m 199 ls []) := by
  obtain ⟨⟨hx, hb, hml, hown, hts⟩, hK, hlk⟩ := id X
  intro d
  induction d with
  | zero =>
    intro i pr H locs ls hi hP V hl kont
    have hpf := cj_pf_le (a := fun i => con (40 * fa + i)) (b := fun i => con (40 * ga + i)) (h := n fa) (w := n ga) i
    refine lv_iload hx hb dM_compare_199 (lv_at hl 0 rfl) ?_
    refine lv_iload_n hx hb dM_compare_201 rfl (lv_at hl 3 rfl) ?_
    refine cj_n_ge (tgt := 331) hx hb dM_compare_202 (by decide) (by omega) (by omega) (fun c_1 => ?_) (fun c_1 => ?_)
    ·
      obtain rfl : i = n fa := by omega
      exact kont _ _ _ _ hP V (lv_sub hl [0, 1, 2, 3, 4, 5, 6] rfl)
    ·
      exact absurd c_1 (by omega)
  | succ d ih =>
    intro i pr H locs ls hi hP V hl kont
    have hpf := cj_pf_le (a := fun i => con (40 * fa + i)) (b := fun i => con (40 * ga + i)) (h := n fa) (w := n ga) i
    refine lv_iload hx hb dM_compare_199 (lv_at hl 0 rfl) ?_
    refine lv_iload_n hx hb dM_compare_201 rfl (lv_at hl 3 rfl) ?_
    refine cj_n_ge (tgt := 331) hx hb dM_compare_202 (by decide) (by omega) (by omega) (fun c_1 => ?_) (fun c_1 => ?_)
    ·
      exact absurd c_1 (by omega)
    ·
      refine lv_aload_n hx hb dM_compare_205 rfl (lv_at hl 4 rfl) ?_
      refine gM 12 X V fl_M_39 (by decide) rfl dM_compare_206 ?_
      refine lv_iload hx hb dM_compare_209 (lv_at hl 0 rfl) ?_
      refine lv_iconst (v := (-1)) hx hb dM_compare_211 (by decide) ?_
      refine sM_pr X V (by omega) dM_compare_212 (fun H locs V => ?_)
      refine lv_iload hx hb dM_compare_213 (lv_at hl 1 rfl) ?_
      refine lv_istore (lv' := [(7, .int (nI (cj_pf (fun i => con (40 * fa + i)) (fun i => con (40 * ga + i)) (n fa) (n ga) i))), (6, .int (nI i)), (5, .int (nI (cj_pf (fun i => con (40 * fa + i)) (fun i => con (40 * ga + i)) (n fa) (n ga) i))), (4, .int (nI (n ga))), (3, .int (nI (n fa))), (0, .ref (ad 0)), (1, .int (nI fa)), (2, .int (nI ga))]) hx hb dM_compare_215 hl (by decide) rfl (fun ls hl => ?_)
      refine lp_M_ch2 X fa ga hf hg hnf hng hJ i (cj_pf (fun i => con (40 * fa + i)) (fun i => con (40 * ga + i)) (n fa) (n ga) i) (by omega) hpf (n ga - cj_pf (fun i => con (40 * fa + i)) (fun i => con (40 * ga + i)) (n fa) (n ga) i) (cj_pf (fun i => con (40 * fa + i)) (fun i => con (40 * ga + i)) (n fa) (n ga) i) _ _ _ ls (by omega) (va_up_self _ _ _) V (lv_sub hl [0, 1, 2, 3, 4, 5, 6, 7] rfl) (fun pr9 H locs ls h1 h2 V hl => ?_)
      rw [cj_pick (by omega) hpf] at h1
      have h1 : pr9 i = oI (cj_pp (fun i => con (40 * fa + i)) (fun i => con (40 * ga + i)) (n fa) (n ga) i) := h1
      have hP9 := cj_fo hP h1 h2
      rcases hk : cj_pp (fun i => con (40 * fa + i)) (fun i => con (40 * ga + i)) (n fa) (n ga) i with _ | q
      ·
        have h3 : pr9 i = (-1) := by rw [h1, hk]; rfl
        refine lv_aload_n hx hb dM_compare_298 rfl (lv_at hl 4 rfl) ?_
        refine gM 12 X V fl_M_39 (by decide) rfl dM_compare_299 ?_
        refine lv_iload hx hb dM_compare_302 (lv_at hl 0 rfl) ?_
        refine rM_pr X V (by omega) dM_compare_304 ?_
        refine cj_ti h3 ?_
        refine lv_iconst (v := (-1)) hx hb dM_compare_305 (by decide) ?_
        refine lv_icmp_ne (tgt := 314) hx hb dM_compare_306 (by decide) (fun h => absurd rfl h) (fun _ => ?_)
        refine lv_iload hx hb dM_compare_309 (lv_at hl 1 rfl) ?_
        refine lv_goto (tgt := 323) hx hb dM_compare_311 (by decide) ?_
        refine lv_istore (lv' := [(5, .int (nI (cj_pf (fun i => con (40 * fa + i)) (fun i => con (40 * ga + i)) (n fa) (n ga) i))), (6, .int (nI i)), (4, .int (nI (n ga))), (3, .int (nI (n fa))), (0, .ref (ad 0)), (1, .int (nI fa)), (2, .int (nI ga))]) hx hb dM_compare_323 hl (by decide) rfl (fun ls hl => ?_)
        refine lv_iinc (v := nI (i + 1)) (lv' := [(6, .int (nI (i + 1))), (5, .int (nI (cj_pf (fun i => con (40 * fa + i)) (fun i => con (40 * ga + i)) (n fa) (n ga) i))), (4, .int (nI (n ga))), (3, .int (nI (n fa))), (0, .ref (ad 0)), (1, .int (nI fa)), (2, .int (nI ga))]) hx hb dM_compare_325 hl (k := 1) rfl (cj_inc _) (by decide) rfl (fun ls hl => ?_)
        refine lv_goto (tgt := 199) hx hb dM_compare_328 (by decide) ?_
        exact ih (i + 1) _ _ _ ls (by omega) hP9 V (lv_sub hl [0, 1, 2, 3, 4, 5, 6] (by rw [cj_pf_n hk]; rfl)) kont
      ·
        have h3 : pr9 i = nI q := by rw [h1, hk]; rfl
        have hq := cj_pp_lt hk
        refine lv_aload_n hx hb dM_compare_298 rfl (lv_at hl 4 rfl) ?_
        refine gM 12 X V fl_M_39 (by decide) rfl dM_compare_299 ?_
        refine lv_iload hx hb dM_compare_302 (lv_at hl 0 rfl) ?_
        refine rM_pr X V (by omega) dM_compare_304 ?_
        refine cj_ti h3 ?_
        refine lv_iconst (v := (-1)) hx hb dM_compare_305 (by decide) ?_
        refine lv_icmp_ne (tgt := 314) hx hb dM_compare_306 (by decide) (fun _ => ?_) (fun h => absurd h (cj_nm1 (by omega)))
        refine lv_aload_n hx hb dM_compare_314 rfl (lv_at hl 4 rfl) ?_
        refine gM 12 X V fl_M_39 (by decide) rfl dM_compare_315 ?_
        refine lv_iload hx hb dM_compare_318 (lv_at hl 0 rfl) ?_
        refine rM_pr X V (by omega) dM_compare_320 ?_
        refine cj_ti h3 ?_
        refine lv_iconst (v := nI 1) hx hb dM_compare_321 (by decide) ?_
        refine cj_iaddN hx hb dM_compare_322 ?_
        refine lv_istore (lv' := [(5, .int (nI (q + 1))), (6, .int (nI i)), (4, .int (nI (n ga))), (3, .int (nI (n fa))), (0, .ref (ad 0)), (1, .int (nI fa)), (2, .int (nI ga))]) hx hb dM_compare_323 hl (by decide) rfl (fun ls hl => ?_)
        refine lv_iinc (v := nI (i + 1)) (lv' := [(6, .int (nI (i + 1))), (5, .int (nI (q + 1))), (4, .int (nI (n ga))), (3, .int (nI (n fa))), (0, .ref (ad 0)), (1, .int (nI fa)), (2, .int (nI ga))]) hx hb dM_compare_325 hl (k := 1) rfl (cj_inc _) (by decide) rfl (fun ls hl => ?_)
        refine lv_goto (tgt := 199) hx hb dM_compare_328 (by decide) ?_
        exact ih (i + 1) _ _ _ ls (by omega) hP9 V (lv_sub hl [0, 1, 2, 3, 4, 5, 6] (by rw [cj_pf_s hk]; rfl)) kont
set_option maxRecDepth 100000 in
set_option maxHeartbeats 4000000 in
theorem c_M_compare (l : Launch) (D : va_G) (kd : Nat → ClassId) (ad : Nat → Nat) {E : Nat} {rn : Nat} {ch : Int32} {n : Nat → Nat} {con : Nat → Int32} {ow : Nat → Nat} {ge : Nat → Bool} {cl : Nat → Bool} {ed : Nat → Nat} {co : Nat → Nat} {hz : Nat → Int64} {lo : Nat → Nat} {pr : Nat → Int32} (fa ga : Nat) (hf : fa < 8) (hg : ga < 8) (hn : ∀ i, n i ≤ 40) : cj_Mv (S := (Nat → Nat) × (Nat → Int32)) l yM_compare cM_compare 11 none 1 D kd [.ref (ad 0), .int (nI fa), .int (nI ga)] (wM kd ad E rn ch n con ow ge cl ed co hz lo pr) (fun u => ∀ j, j < n fa → u.2 j = oI (cj_pp (fun i => con (40 * fa + i)) (fun i => con (40 * ga + i)) (n fa) (n ga) j)) (fun u => wM kd ad E rn ch n con ow ge (va_up (va_up cl fa true) ga true) ed co hz u.1 u.2) := by
  refine cj_ofv (by decide) (Nat.le_of_ble_eq_true rfl) ?_
  intro p e s m below meth c A ls X hr V hl
  obtain ⟨⟨hx, hb, hml, hown, hts⟩, hK, hlk⟩ := id X
  have hl : lv_has ls 11 [(0, .ref (ad 0)), (1, .int (nI fa)), (2, .int (nI ga))] := hl
  refine lv_aload_n hx hb dM_compare_0 rfl (lv_at hl 0 rfl) ?_
  refine gM 7 X V fl_M_23 (by decide) rfl dM_compare_1 ?_
  refine lv_iload_n hx hb dM_compare_4 rfl (lv_at hl 1 rfl) ?_
  refine lv_iconst (v := nI 1) hx hb dM_compare_5 (by decide) ?_
  refine sM_cl (x := true) X V (by omega) dM_compare_6 (fun H locs V => ?_)
  refine lv_aload_n hx hb dM_compare_7 rfl (lv_at hl 0 rfl) ?_
  refine gM 7 X V fl_M_23 (by decide) rfl dM_compare_8 ?_
  refine lv_iload_n hx hb dM_compare_11 rfl (lv_at hl 2 rfl) ?_
  refine lv_iconst (v := nI 1) hx hb dM_compare_12 (by decide) ?_
  refine sM_cl (x := true) X V (by omega) dM_compare_13 (fun H locs V => ?_)
  refine lv_aload_n hx hb dM_compare_14 rfl (lv_at hl 0 rfl) ?_
  refine gM 3 X V fl_M_7 (by decide) rfl dM_compare_15 ?_
  refine lv_iload_n hx hb dM_compare_18 rfl (lv_at hl 1 rfl) ?_
  refine rM_n X V (by omega) dM_compare_19 ?_
  refine lv_istore_n (lv' := [(3, .int (nI (n fa))), (0, .ref (ad 0)), (1, .int (nI fa)), (2, .int (nI ga))]) hx hb dM_compare_20 rfl hl (by decide) rfl (fun ls hl => ?_)
  refine lv_aload_n hx hb dM_compare_21 rfl (lv_at hl 1 rfl) ?_
  refine gM 3 X V fl_M_7 (by decide) rfl dM_compare_22 ?_
  refine lv_iload_n hx hb dM_compare_25 rfl (lv_at hl 3 rfl) ?_
  refine rM_n X V (by omega) dM_compare_26 ?_
  refine lv_istore (lv' := [(4, .int (nI (n ga))), (3, .int (nI (n fa))), (0, .ref (ad 0)), (1, .int (nI fa)), (2, .int (nI ga))]) hx hb dM_compare_27 hl (by decide) rfl (fun ls hl => ?_)
  refine lv_iload_n hx hb dM_compare_29 rfl (lv_at hl 1 rfl) ?_
  refine lv_istore (lv' := [(5, .int (nI (n fa))), (4, .int (nI (n ga))), (3, .int (nI (n fa))), (0, .ref (ad 0)), (1, .int (nI fa)), (2, .int (nI ga))]) hx hb dM_compare_30 hl (by decide) rfl (fun ls hl => ?_)
  refine lp_M_cmp1 X fa ga hf hg (hn fa) (hn ga) (n fa + 1) _ _ _ ls (Nat.le_refl _) cj_m_first V (lv_sub hl [0, 1, 2, 3, 4, 5] (by rw [cj_ps]; rfl)) (fun lo H locs ls hJ V hl => ?_)
  refine lv_iconst (v := nI 0) hx hb dM_compare_193 (by decide) ?_
  refine lv_istore (lv' := [(5, .int (nI 0)), (4, .int (nI (n ga))), (3, .int (nI (n fa))), (0, .ref (ad 0)), (1, .int (nI fa)), (2, .int (nI ga))]) hx hb dM_compare_194 hl (by decide) rfl (fun ls hl => ?_)
  refine lv_iconst (v := nI 0) hx hb dM_compare_196 (by decide) ?_
  refine lv_istore (lv' := [(6, .int (nI 0)), (5, .int (nI 0)), (4, .int (nI (n ga))), (3, .int (nI (n fa))), (0, .ref (ad 0)), (1, .int (nI fa)), (2, .int (nI ga))]) hx hb dM_compare_197 hl (by decide) rfl (fun ls hl => ?_)
  refine lp_M_ch1 X fa ga hf hg (hn fa) (hn ga) hJ (n fa) 0 _ _ _ ls (by omega) (fun _ h => absurd h (Nat.not_lt_zero _)) V (lv_sub hl [0, 1, 2, 3, 4, 5, 6] rfl) (fun pr H locs ls hP V hl => ?_)
  exact cj_retv (lo, pr) X hr V hP dM_compare_331
