set_option maxRecDepth 100000 in
set_option maxHeartbeats 4000000 in
theorem law_0 {p : Program} {l : Launch} {e : Env} {s : State} {m : MethodId} {below : List Frame} {meth : Method} {c : Code} {b L : Nat} {xs : Nat → Int32} {D : va_G} {kd : Nat → ClassId} {ac am : Nat → Nat} {H : Heap} {locs : List Loc} {ls : Array Slot} {i : Nat} (hL : L ≤ 2560) (C0 : lw_At p s m meth c b L xs) (X : cj_X p s m #[Value.ref b] c meth code 4 RL D kd) (hi : i + 5 ≤ L) (hl : lv_has ls 4 [(3, .int (nI i)), (2, .ref (am 0)), (1, .ref (ac 0)), (0, .ref b)]) (LW : lw_W D kd (fun q : Nat => s.heap.size ≤ q) s.heap ac am H locs) (kont : ∀ (H : Heap) (locs : List Loc), lw_W D kd (fun q : Nat => s.heap.size ≤ q) s.heap ac am H locs → W p l e room_1 s m #[Value.ref b] below meth c H locs 600000 7302250 (lw_Z below #[Value.ref b] s) (F0 m 678 ls [])) : W p l e room_1 s m #[Value.ref b] below meth c H locs 600000 7302250 (lw_Z below #[Value.ref b] s) (F0 m 112 ls []) := by
  obtain ⟨hx, hb, hr, hml, hown, hts, hX, hbl, hlocks, hgv⟩ := C0
  have hbA : ¬ (fun q : Nat => s.heap.size ≤ q) b := Nat.not_le.mpr hbl
  obtain ⟨E, n, cl, con, ow, rn, ed, co, hz, mp, pr, cn, hs, wg, rs, ch, con2, ow2, ge, lo, pr2, I, V⟩ := LW
  refine lv_aload_n hx hb dL_law_112 rfl (lv_at hl 2 rfl) ?_
  refine cj_lC X V (c_C_edition l D kd ac I.1 ) 0 1 rfl rfl rfl ml_L_13 im_C_edition se_C_edition in_C cd_C_edition hd_C_edition ⟨by decide, by decide⟩ ⟨by decide, by decide⟩ hl.1 rfl (Nat.le_of_ble_eq_true rfl) dL_law_113 (fun r_C uc H locs hwc V => ?_)
  refine lv_aload_n hx hb dL_law_116 rfl (lv_at hl 1 rfl) ?_
  refine cj_lM X V (c_M_edition l D kd am I.1 ) 0 2 rfl rfl rfl ml_L_17 im_M_edition se_M_edition in_M cd_M_edition hd_M_edition ⟨by decide, by decide⟩ ⟨by decide, by decide⟩ hl.1 rfl (Nat.le_of_ble_eq_true rfl) dL_law_117 (fun r_M um H locs hwm V => ?_)
  obtain ⟨rfl, rfl⟩ := hwc
  obtain ⟨rfl, rfl⟩ := hwm
  refine lv_icmp_eq (tgt := 678) hx hb dL_law_120 (by decide) (fun _ => ?_) (fun h => absurd rfl h)
  exact kont _ _ ⟨_, _, _, _, _, _, _, _, _, _, _, _, _, _, _, _, _, _, _, _, _, cj_I_edition I, V⟩
set_option maxRecDepth 100000 in
set_option maxHeartbeats 4000000 in
theorem law_1 {p : Program} {l : Launch} {e : Env} {s : State} {m : MethodId} {below : List Frame} {meth : Method} {c : Code} {b L : Nat} {xs : Nat → Int32} {D : va_G} {kd : Nat → ClassId} {ac am : Nat → Nat} {H : Heap} {locs : List Loc} {ls : Array Slot} {i : Nat} (hL : L ≤ 2560) (C0 : lw_At p s m meth c b L xs) (X : cj_X p s m #[Value.ref b] c meth code 4 RL D kd) (hi : i + 5 ≤ L) (hl : lv_has ls 4 [(3, .int (nI i)), (2, .ref (am 0)), (1, .ref (ac 0)), (0, .ref b)]) (LW : lw_W D kd (fun q : Nat => s.heap.size ≤ q) s.heap ac am H locs) (kont : ∀ (H : Heap) (locs : List Loc), lw_W D kd (fun q : Nat => s.heap.size ≤ q) s.heap ac am H locs → W p l e room_1 s m #[Value.ref b] below meth c H locs 600000 7302250 (lw_Z below #[Value.ref b] s) (F0 m 678 ls [])) : W p l e room_1 s m #[Value.ref b] below meth c H locs 600000 7302250 (lw_Z below #[Value.ref b] s) (F0 m 125 ls []) := by
  obtain ⟨hx, hb, hr, hml, hown, hts, hX, hbl, hlocks, hgv⟩ := C0
  have hbA : ¬ (fun q : Nat => s.heap.size ≤ q) b := Nat.not_le.mpr hbl
  obtain ⟨E, n, cl, con, ow, rn, ed, co, hz, mp, pr, cn, hs, wg, rs, ch, con2, ow2, ge, lo, pr2, I, V⟩ := LW
  refine lv_aload_n hx hb dL_law_125 rfl (lv_at hl 2 rfl) ?_
  refine lv_aload_n hx hb dL_law_126 rfl (lv_at hl 3 rfl) ?_
  refine lv_iload_n hx hb dL_law_127 rfl (lv_at hl 0 rfl) ?_
  refine lv_iconst (v := nI 1) hx hb dL_law_128 (by decide) ?_
  refine cj_iaddN hx hb dL_law_129 ?_
  refine cj_sld hx hb hX hbl hbA V (by omega) (by omega) dL_law_130 ?_
  refine lv_aload_n hx hb dL_law_131 rfl (lv_at hl 3 rfl) ?_
  refine lv_iload_n hx hb dL_law_132 rfl (lv_at hl 0 rfl) ?_
  refine lv_iconst (v := nI 2) hx hb dL_law_133 (by decide) ?_
  refine cj_iaddN hx hb dL_law_134 ?_
  refine cj_sld hx hb hX hbl hbA V (by omega) (by omega) dL_law_135 ?_
  refine lv_aload_n hx hb dL_law_136 rfl (lv_at hl 3 rfl) ?_
  refine lv_iload_n hx hb dL_law_137 rfl (lv_at hl 0 rfl) ?_
  refine lv_iconst (v := nI 3) hx hb dL_law_138 (by decide) ?_
  refine cj_iaddN hx hb dL_law_139 ?_
  refine cj_sld hx hb hX hbl hbA V (by omega) (by omega) dL_law_140 ?_
  refine lv_aload_n hx hb dL_law_141 rfl (lv_at hl 3 rfl) ?_
  refine lv_iload_n hx hb dL_law_142 rfl (lv_at hl 0 rfl) ?_
  refine lv_iconst (v := nI 4) hx hb dL_law_143 (by decide) ?_
  refine cj_iaddN hx hb dL_law_144 ?_
  refine cj_sld hx hb hX hbl hbA V (by omega) (by omega) dL_law_145 ?_
  refine cj_bool hx hb dL_law_146 dL_law_149 dL_law_150 dL_law_153 ?_
  refine cj_lC X V (c_C_line l D kd ac I.1 I.2.1 I.2.2.1 I.2.2.2.1 I.2.2.2.2.1 (xs (i + 1)) (xs (i + 2)) (xs (i + 3)) (!decide (xs (i + 4) = 0))) 0 1 rfl rfl rfl ml_L_18 im_C_line se_C_line in_C cd_C_line hd_C_line ⟨by decide, by decide⟩ ⟨by decide, by decide⟩ hl.1 rfl (Nat.le_of_ble_eq_true rfl) dL_law_154 (fun r_C uc H locs hwc V => ?_)
  refine lv_aload_n hx hb dL_law_157 rfl (lv_at hl 1 rfl) ?_
  refine lv_aload_n hx hb dL_law_158 rfl (lv_at hl 3 rfl) ?_
  refine lv_iload_n hx hb dL_law_159 rfl (lv_at hl 0 rfl) ?_
  refine lv_iconst (v := nI 1) hx hb dL_law_160 (by decide) ?_
  refine cj_iaddN hx hb dL_law_161 ?_
  refine cj_sld hx hb hX hbl hbA V (by omega) (by omega) dL_law_162 ?_
  refine lv_aload_n hx hb dL_law_163 rfl (lv_at hl 3 rfl) ?_
  refine lv_iload_n hx hb dL_law_164 rfl (lv_at hl 0 rfl) ?_
  refine lv_iconst (v := nI 2) hx hb dL_law_165 (by decide) ?_
  refine cj_iaddN hx hb dL_law_166 ?_
  refine cj_sld hx hb hX hbl hbA V (by omega) (by omega) dL_law_167 ?_
  refine lv_aload_n hx hb dL_law_168 rfl (lv_at hl 3 rfl) ?_
  refine lv_iload_n hx hb dL_law_169 rfl (lv_at hl 0 rfl) ?_
  refine lv_iconst (v := nI 3) hx hb dL_law_170 (by decide) ?_
  refine cj_iaddN hx hb dL_law_171 ?_
  refine cj_sld hx hb hX hbl hbA V (by omega) (by omega) dL_law_172 ?_
  refine lv_aload_n hx hb dL_law_173 rfl (lv_at hl 3 rfl) ?_
  refine lv_iload_n hx hb dL_law_174 rfl (lv_at hl 0 rfl) ?_
  refine lv_iconst (v := nI 4) hx hb dL_law_175 (by decide) ?_
  refine cj_iaddN hx hb dL_law_176 ?_
  refine cj_sld hx hb hX hbl hbA V (by omega) (by omega) dL_law_177 ?_
  refine cj_bool hx hb dL_law_178 dL_law_181 dL_law_182 dL_law_185 ?_
  refine cj_lM X V (c_M_line l D kd am I.1 I.2.1 I.2.2.1 I.2.2.2.1 I.2.2.2.2.1 (xs (i + 1)) (xs (i + 2)) (xs (i + 3)) (!decide (xs (i + 4) = 0))) 0 2 rfl rfl rfl ml_L_22 im_M_line se_M_line in_M cd_M_line hd_M_line ⟨by decide, by decide⟩ ⟨by decide, by decide⟩ hl.1 rfl (Nat.le_of_ble_eq_true rfl) dL_law_186 (fun r_M um H locs hwm V => ?_)
  obtain ⟨rfl, rfl⟩ := hwc
  obtain ⟨rfl, rfl⟩ := hwm
  refine lv_icmp_eq (tgt := 678) hx hb dL_law_189 (by decide) (fun _ => ?_) (fun h => absurd rfl h)
  exact kont _ _ ⟨_, _, _, _, _, _, _, _, _, _, _, _, _, _, _, _, _, _, _, _, _, cj_I_line I _ _ _ _, V⟩
set_option maxRecDepth 100000 in
set_option maxHeartbeats 4000000 in
theorem law_2 {p : Program} {l : Launch} {e : Env} {s : State} {m : MethodId} {below : List Frame} {meth : Method} {c : Code} {b L : Nat} {xs : Nat → Int32} {D : va_G} {kd : Nat → ClassId} {ac am : Nat → Nat} {H : Heap} {locs : List Loc} {ls : Array Slot} {i : Nat} (hL : L ≤ 2560) (C0 : lw_At p s m meth c b L xs) (X : cj_X p s m #[Value.ref b] c meth code 4 RL D kd) (hi : i + 5 ≤ L) (hl : lv_has ls 4 [(3, .int (nI i)), (2, .ref (am 0)), (1, .ref (ac 0)), (0, .ref b)]) (LW : lw_W D kd (fun q : Nat => s.heap.size ≤ q) s.heap ac am H locs) (kont : ∀ (H : Heap) (locs : List Loc), lw_W D kd (fun q : Nat => s.heap.size ≤ q) s.heap ac am H locs → W p l e room_1 s m #[Value.ref b] below meth c H locs 600000 7302250 (lw_Z below #[Value.ref b] s) (F0 m 678 ls [])) : W p l e room_1 s m #[Value.ref b] below meth c H locs 600000 7302250 (lw_Z below #[Value.ref b] s) (F0 m 194 ls []) := by
  obtain ⟨hx, hb, hr, hml, hown, hts, hX, hbl, hlocks, hgv⟩ := C0
  have hbA : ¬ (fun q : Nat => s.heap.size ≤ q) b := Nat.not_le.mpr hbl
  obtain ⟨E, n, cl, con, ow, rn, ed, co, hz, mp, pr, cn, hs, wg, rs, ch, con2, ow2, ge, lo, pr2, I, V⟩ := LW
  refine lv_aload_n hx hb dL_law_194 rfl (lv_at hl 2 rfl) ?_
  refine lv_aload_n hx hb dL_law_195 rfl (lv_at hl 3 rfl) ?_
  refine lv_iload_n hx hb dL_law_196 rfl (lv_at hl 0 rfl) ?_
  refine lv_iconst (v := nI 1) hx hb dL_law_197 (by decide) ?_
  refine cj_iaddN hx hb dL_law_198 ?_
  refine cj_sld hx hb hX hbl hbA V (by omega) (by omega) dL_law_199 ?_
  refine cj_lC X V (c_C_lines l D kd ac I.1 I.2.1 I.2.2.1 I.2.2.2.1 I.2.2.2.2.1 (xs (i + 1))) 0 1 rfl rfl rfl ml_L_23 im_C_lines se_C_lines in_C cd_C_lines hd_C_lines ⟨by decide, by decide⟩ ⟨by decide, by decide⟩ hl.1 rfl (Nat.le_of_ble_eq_true rfl) dL_law_200 (fun r_C uc H locs hwc V => ?_)
  refine lv_aload_n hx hb dL_law_203 rfl (lv_at hl 1 rfl) ?_
  refine lv_aload_n hx hb dL_law_204 rfl (lv_at hl 3 rfl) ?_
  refine lv_iload_n hx hb dL_law_205 rfl (lv_at hl 0 rfl) ?_
  refine lv_iconst (v := nI 1) hx hb dL_law_206 (by decide) ?_
  refine cj_iaddN hx hb dL_law_207 ?_
  refine cj_sld hx hb hX hbl hbA V (by omega) (by omega) dL_law_208 ?_
  refine cj_lM X V (c_M_lines l D kd am I.1 I.2.1 I.2.2.1 I.2.2.2.1 I.2.2.2.2.1 (xs (i + 1))) 0 2 rfl rfl rfl ml_L_27 im_M_lines se_M_lines in_M cd_M_lines hd_M_lines ⟨by decide, by decide⟩ ⟨by decide, by decide⟩ hl.1 rfl (Nat.le_of_ble_eq_true rfl) dL_law_209 (fun r_M um H locs hwm V => ?_)
  obtain rfl := hwc
  obtain rfl := hwm
  refine lv_icmp_eq (tgt := 678) hx hb dL_law_212 (by decide) (fun _ => ?_) (fun h => absurd rfl h)
  exact kont _ _ ⟨_, _, _, _, _, _, _, _, _, _, _, _, _, _, _, _, _, _, _, _, _, I, V⟩
set_option maxRecDepth 100000 in
set_option maxHeartbeats 4000000 in
theorem law_3 {p : Program} {l : Launch} {e : Env} {s : State} {m : MethodId} {below : List Frame} {meth : Method} {c : Code} {b L : Nat} {xs : Nat → Int32} {D : va_G} {kd : Nat → ClassId} {ac am : Nat → Nat} {H : Heap} {locs : List Loc} {ls : Array Slot} {i : Nat} (hL : L ≤ 2560) (C0 : lw_At p s m meth c b L xs) (X : cj_X p s m #[Value.ref b] c meth code 4 RL D kd) (hi : i + 5 ≤ L) (hl : lv_has ls 4 [(3, .int (nI i)), (2, .ref (am 0)), (1, .ref (ac 0)), (0, .ref b)]) (LW : lw_W D kd (fun q : Nat => s.heap.size ≤ q) s.heap ac am H locs) (kont : ∀ (H : Heap) (locs : List Loc), lw_W D kd (fun q : Nat => s.heap.size ≤ q) s.heap ac am H locs → W p l e room_1 s m #[Value.ref b] below meth c H locs 600000 7302250 (lw_Z below #[Value.ref b] s) (F0 m 678 ls [])) : W p l e room_1 s m #[Value.ref b] below meth c H locs 600000 7302250 (lw_Z below #[Value.ref b] s) (F0 m 217 ls []) := by
  obtain ⟨hx, hb, hr, hml, hown, hts, hX, hbl, hlocks, hgv⟩ := C0
  have hbA : ¬ (fun q : Nat => s.heap.size ≤ q) b := Nat.not_le.mpr hbl
  obtain ⟨E, n, cl, con, ow, rn, ed, co, hz, mp, pr, cn, hs, wg, rs, ch, con2, ow2, ge, lo, pr2, I, V⟩ := LW
  refine lv_aload_n hx hb dL_law_217 rfl (lv_at hl 2 rfl) ?_
  refine lv_aload_n hx hb dL_law_218 rfl (lv_at hl 3 rfl) ?_
  refine lv_iload_n hx hb dL_law_219 rfl (lv_at hl 0 rfl) ?_
  refine lv_iconst (v := nI 1) hx hb dL_law_220 (by decide) ?_
  refine cj_iaddN hx hb dL_law_221 ?_
  refine cj_sld hx hb hX hbl hbA V (by omega) (by omega) dL_law_222 ?_
  refine lv_aload_n hx hb dL_law_223 rfl (lv_at hl 3 rfl) ?_
  refine lv_iload_n hx hb dL_law_224 rfl (lv_at hl 0 rfl) ?_
  refine lv_iconst (v := nI 2) hx hb dL_law_225 (by decide) ?_
  refine cj_iaddN hx hb dL_law_226 ?_
  refine cj_sld hx hb hX hbl hbA V (by omega) (by omega) dL_law_227 ?_
  refine cj_lC X V (c_C_run l D kd ac I.1 I.2.1 I.2.2.1 I.2.2.2.1 I.2.2.2.2.1 (xs (i + 1)) (xs (i + 2))) 0 1 rfl rfl rfl ml_L_28 im_C_run se_C_run in_C cd_C_run hd_C_run ⟨by decide, by decide⟩ ⟨by decide, by decide⟩ hl.1 rfl (Nat.le_of_ble_eq_true rfl) dL_law_228 (fun r_C uc H locs hwc V => ?_)
  refine lv_aload_n hx hb dL_law_231 rfl (lv_at hl 1 rfl) ?_
  refine lv_aload_n hx hb dL_law_232 rfl (lv_at hl 3 rfl) ?_
  refine lv_iload_n hx hb dL_law_233 rfl (lv_at hl 0 rfl) ?_
  refine lv_iconst (v := nI 1) hx hb dL_law_234 (by decide) ?_
  refine cj_iaddN hx hb dL_law_235 ?_
  refine cj_sld hx hb hX hbl hbA V (by omega) (by omega) dL_law_236 ?_
  refine lv_aload_n hx hb dL_law_237 rfl (lv_at hl 3 rfl) ?_
  refine lv_iload_n hx hb dL_law_238 rfl (lv_at hl 0 rfl) ?_
  refine lv_iconst (v := nI 2) hx hb dL_law_239 (by decide) ?_
  refine cj_iaddN hx hb dL_law_240 ?_
  refine cj_sld hx hb hX hbl hbA V (by omega) (by omega) dL_law_241 ?_
  refine cj_lM X V (c_M_run l D kd am I.1 I.2.1 I.2.2.1 I.2.2.2.1 I.2.2.2.2.1 (xs (i + 1)) (xs (i + 2))) 0 2 rfl rfl rfl ml_L_32 im_M_run se_M_run in_M cd_M_run hd_M_run ⟨by decide, by decide⟩ ⟨by decide, by decide⟩ hl.1 rfl (Nat.le_of_ble_eq_true rfl) dL_law_242 (fun r_M um H locs hwm V => ?_)
  obtain ⟨rfl, rfl⟩ := hwc
  obtain ⟨rfl, rfl⟩ := hwm
  refine lv_icmp_eq (tgt := 678) hx hb dL_law_245 (by decide) (fun _ => ?_) (fun h => absurd rfl h)
  exact kont _ _ ⟨_, _, _, _, _, _, _, _, _, _, _, _, _, _, _, _, _, _, _, _, _, cj_I_add I (cj_ok_run _ _), V⟩
set_option maxRecDepth 100000 in
set_option maxHeartbeats 4000000 in
theorem law_4 {p : Program} {l : Launch} {e : Env} {s : State} {m : MethodId} {below : List Frame} {meth : Method} {c : Code} {b L : Nat} {xs : Nat → Int32} {D : va_G} {kd : Nat → ClassId} {ac am : Nat → Nat} {H : Heap} {locs : List Loc} {ls : Array Slot} {i : Nat} (hL : L ≤ 2560) (C0 : lw_At p s m meth c b L xs) (X : cj_X p s m #[Value.ref b] c meth code 4 RL D kd) (hi : i + 5 ≤ L) (hl : lv_has ls 4 [(3, .int (nI i)), (2, .ref (am 0)), (1, .ref (ac 0)), (0, .ref b)]) (LW : lw_W D kd (fun q : Nat => s.heap.size ≤ q) s.heap ac am H locs) (kont : ∀ (H : Heap) (locs : List Loc), lw_W D kd (fun q : Nat => s.heap.size ≤ q) s.heap ac am H locs → W p l e room_1 s m #[Value.ref b] below meth c H locs 600000 7302250 (lw_Z below #[Value.ref b] s) (F0 m 678 ls [])) : W p l e room_1 s m #[Value.ref b] below meth c H locs 600000 7302250 (lw_Z below #[Value.ref b] s) (F0 m 250 ls []) := by
  obtain ⟨hx, hb, hr, hml, hown, hts, hX, hbl, hlocks, hgv⟩ := C0
  have hbA : ¬ (fun q : Nat => s.heap.size ≤ q) b := Nat.not_le.mpr hbl
  obtain ⟨E, n, cl, con, ow, rn, ed, co, hz, mp, pr, cn, hs, wg, rs, ch, con2, ow2, ge, lo, pr2, I, V⟩ := LW
  refine lv_aload_n hx hb dL_law_250 rfl (lv_at hl 2 rfl) ?_
  refine lv_aload_n hx hb dL_law_251 rfl (lv_at hl 3 rfl) ?_
  refine lv_iload_n hx hb dL_law_252 rfl (lv_at hl 0 rfl) ?_
  refine lv_iconst (v := nI 1) hx hb dL_law_253 (by decide) ?_
  refine cj_iaddN hx hb dL_law_254 ?_
  refine cj_sld hx hb hX hbl hbA V (by omega) (by omega) dL_law_255 ?_
  refine lv_aload_n hx hb dL_law_256 rfl (lv_at hl 3 rfl) ?_
  refine lv_iload_n hx hb dL_law_257 rfl (lv_at hl 0 rfl) ?_
  refine lv_iconst (v := nI 2) hx hb dL_law_258 (by decide) ?_
  refine cj_iaddN hx hb dL_law_259 ?_
  refine cj_sld hx hb hX hbl hbA V (by omega) (by omega) dL_law_260 ?_
  refine cj_lC X V (c_C_hit l D kd ac I.1 I.2.1 I.2.2.1 I.2.2.2.1 I.2.2.2.2.1 (xs (i + 1)) (xs (i + 2))) 0 1 rfl rfl rfl ml_L_33 im_C_hit se_C_hit in_C cd_C_hit hd_C_hit ⟨by decide, by decide⟩ ⟨by decide, by decide⟩ hl.1 rfl (Nat.le_of_ble_eq_true rfl) dL_law_261 (fun r_C uc H locs hwc V => ?_)
  refine lv_aload_n hx hb dL_law_264 rfl (lv_at hl 1 rfl) ?_
  refine lv_aload_n hx hb dL_law_265 rfl (lv_at hl 3 rfl) ?_
  refine lv_iload_n hx hb dL_law_266 rfl (lv_at hl 0 rfl) ?_
  refine lv_iconst (v := nI 1) hx hb dL_law_267 (by decide) ?_
  refine cj_iaddN hx hb dL_law_268 ?_
  refine cj_sld hx hb hX hbl hbA V (by omega) (by omega) dL_law_269 ?_
  refine lv_aload_n hx hb dL_law_270 rfl (lv_at hl 3 rfl) ?_
  refine lv_iload_n hx hb dL_law_271 rfl (lv_at hl 0 rfl) ?_
  refine lv_iconst (v := nI 2) hx hb dL_law_272 (by decide) ?_
  refine cj_iaddN hx hb dL_law_273 ?_
  refine cj_sld hx hb hX hbl hbA V (by omega) (by omega) dL_law_274 ?_
  refine cj_lM X V (c_M_hit l D kd am I.1 I.2.1 I.2.2.1 I.2.2.2.1 I.2.2.2.2.1 (xs (i + 1)) (xs (i + 2))) 0 2 rfl rfl rfl ml_L_37 im_M_hit se_M_hit in_M cd_M_hit hd_M_hit ⟨by decide, by decide⟩ ⟨by decide, by decide⟩ hl.1 rfl (Nat.le_of_ble_eq_true rfl) dL_law_275 (fun r_M um H locs hwm V => ?_)
  obtain ⟨rfl, rfl⟩ := hwc
  obtain ⟨rfl, rfl⟩ := hwm
  refine lv_icmp_eq (tgt := 678) hx hb dL_law_278 (by decide) (fun _ => ?_) (fun h => absurd rfl h)
  exact kont _ _ ⟨_, _, _, _, _, _, _, _, _, _, _, _, _, _, _, _, _, _, _, _, _, cj_I_hit I _ _, V⟩
set_option maxRecDepth 100000 in
set_option maxHeartbeats 4000000 in
theorem law_5 {p : Program} {l : Launch} {e : Env} {s : State} {m : MethodId} {below : List Frame} {meth : Method} {c : Code} {b L : Nat} {xs : Nat → Int32} {D : va_G} {kd : Nat → ClassId} {ac am : Nat → Nat} {H : Heap} {locs : List Loc} {ls : Array Slot} {i : Nat} (hL : L ≤ 2560) (C0 : lw_At p s m meth c b L xs) (X : cj_X p s m #[Value.ref b] c meth code 4 RL D kd) (hi : i + 5 ≤ L) (hl : lv_has ls 4 [(3, .int (nI i)), (2, .ref (am 0)), (1, .ref (ac 0)), (0, .ref b)]) (LW : lw_W D kd (fun q : Nat => s.heap.size ≤ q) s.heap ac am H locs) (kont : ∀ (H : Heap) (locs : List Loc), lw_W D kd (fun q : Nat => s.heap.size ≤ q) s.heap ac am H locs → W p l e room_1 s m #[Value.ref b] below meth c H locs 600000 7302250 (lw_Z below #[Value.ref b] s) (F0 m 678 ls [])) : W p l e room_1 s m #[Value.ref b] below meth c H locs 600000 7302250 (lw_Z below #[Value.ref b] s) (F0 m 283 ls []) := by
  obtain ⟨hx, hb, hr, hml, hown, hts, hX, hbl, hlocks, hgv⟩ := C0
  have hbA : ¬ (fun q : Nat => s.heap.size ≤ q) b := Nat.not_le.mpr hbl
  obtain ⟨E, n, cl, con, ow, rn, ed, co, hz, mp, pr, cn, hs, wg, rs, ch, con2, ow2, ge, lo, pr2, I, V⟩ := LW
  refine lv_aload_n hx hb dL_law_283 rfl (lv_at hl 2 rfl) ?_
  refine lv_aload_n hx hb dL_law_284 rfl (lv_at hl 3 rfl) ?_
  refine lv_iload_n hx hb dL_law_285 rfl (lv_at hl 0 rfl) ?_
  refine lv_iconst (v := nI 1) hx hb dL_law_286 (by decide) ?_
  refine cj_iaddN hx hb dL_law_287 ?_
  refine cj_sld hx hb hX hbl hbA V (by omega) (by omega) dL_law_288 ?_
  refine lv_aload_n hx hb dL_law_289 rfl (lv_at hl 3 rfl) ?_
  refine lv_iload_n hx hb dL_law_290 rfl (lv_at hl 0 rfl) ?_
  refine lv_iconst (v := nI 2) hx hb dL_law_291 (by decide) ?_
  refine cj_iaddN hx hb dL_law_292 ?_
  refine cj_sld hx hb hX hbl hbA V (by omega) (by omega) dL_law_293 ?_
  refine cj_lC X V (c_C_covered l D kd ac I.1 I.2.1 I.2.2.1 I.2.2.2.1 I.2.2.2.2.1 (xs (i + 1)) (xs (i + 2))) 0 1 rfl rfl rfl ml_L_38 im_C_covered se_C_covered in_C cd_C_covered hd_C_covered ⟨by decide, by decide⟩ ⟨by decide, by decide⟩ hl.1 rfl (Nat.le_of_ble_eq_true rfl) dL_law_294 (fun r_C uc H locs hwc V => ?_)
  refine lv_aload_n hx hb dL_law_297 rfl (lv_at hl 1 rfl) ?_
  refine lv_aload_n hx hb dL_law_298 rfl (lv_at hl 3 rfl) ?_
  refine lv_iload_n hx hb dL_law_299 rfl (lv_at hl 0 rfl) ?_
  refine lv_iconst (v := nI 1) hx hb dL_law_300 (by decide) ?_
  refine cj_iaddN hx hb dL_law_301 ?_
  refine cj_sld hx hb hX hbl hbA V (by omega) (by omega) dL_law_302 ?_
  refine lv_aload_n hx hb dL_law_303 rfl (lv_at hl 3 rfl) ?_
  refine lv_iload_n hx hb dL_law_304 rfl (lv_at hl 0 rfl) ?_
  refine lv_iconst (v := nI 2) hx hb dL_law_305 (by decide) ?_
  refine cj_iaddN hx hb dL_law_306 ?_
  refine cj_sld hx hb hX hbl hbA V (by omega) (by omega) dL_law_307 ?_
  refine cj_lM X V (c_M_covered l D kd am I.1 I.2.1 I.2.2.1 I.2.2.2.1 I.2.2.2.2.1 (xs (i + 1)) (xs (i + 2))) 0 2 rfl rfl rfl ml_L_41 im_M_covered se_M_covered in_M cd_M_covered hd_M_covered ⟨by decide, by decide⟩ ⟨by decide, by decide⟩ hl.1 rfl (Nat.le_of_ble_eq_true rfl) dL_law_308 (fun r_M um H locs hwm V => ?_)
  obtain rfl := hwc
  obtain rfl := hwm
  refine lv_icmp_eq (tgt := 678) hx hb dL_law_311 (by decide) (fun _ => ?_) (fun h => absurd rfl h)
  exact kont _ _ ⟨_, _, _, _, _, _, _, _, _, _, _, _, _, _, _, _, _, _, _, _, _, I, V⟩
set_option maxRecDepth 100000 in
set_option maxHeartbeats 4000000 in
theorem law_6 {p : Program} {l : Launch} {e : Env} {s : State} {m : MethodId} {below : List Frame} {meth : Method} {c : Code} {b L : Nat} {xs : Nat → Int32} {D : va_G} {kd : Nat → ClassId} {ac am : Nat → Nat} {H : Heap} {locs : List Loc} {ls : Array Slot} {i : Nat} (hL : L ≤ 2560) (C0 : lw_At p s m meth c b L xs) (X : cj_X p s m #[Value.ref b] c meth code 4 RL D kd) (hi : i + 5 ≤ L) (hl : lv_has ls 4 [(3, .int (nI i)), (2, .ref (am 0)), (1, .ref (ac 0)), (0, .ref b)]) (LW : lw_W D kd (fun q : Nat => s.heap.size ≤ q) s.heap ac am H locs) (kont : ∀ (H : Heap) (locs : List Loc), lw_W D kd (fun q : Nat => s.heap.size ≤ q) s.heap ac am H locs → W p l e room_1 s m #[Value.ref b] below meth c H locs 600000 7302250 (lw_Z below #[Value.ref b] s) (F0 m 678 ls [])) : W p l e room_1 s m #[Value.ref b] below meth c H locs 600000 7302250 (lw_Z below #[Value.ref b] s) (F0 m 316 ls []) := by
  obtain ⟨hx, hb, hr, hml, hown, hts, hX, hbl, hlocks, hgv⟩ := C0
  have hbA : ¬ (fun q : Nat => s.heap.size ≤ q) b := Nat.not_le.mpr hbl
  obtain ⟨E, n, cl, con, ow, rn, ed, co, hz, mp, pr, cn, hs, wg, rs, ch, con2, ow2, ge, lo, pr2, I, V⟩ := LW
  refine lv_aload_n hx hb dL_law_316 rfl (lv_at hl 2 rfl) ?_
  refine lv_aload_n hx hb dL_law_317 rfl (lv_at hl 3 rfl) ?_
  refine lv_iload_n hx hb dL_law_318 rfl (lv_at hl 0 rfl) ?_
  refine lv_iconst (v := nI 1) hx hb dL_law_319 (by decide) ?_
  refine cj_iaddN hx hb dL_law_320 ?_
  refine cj_sld hx hb hX hbl hbA V (by omega) (by omega) dL_law_321 ?_
  refine lv_aload_n hx hb dL_law_322 rfl (lv_at hl 3 rfl) ?_
  refine lv_iload_n hx hb dL_law_323 rfl (lv_at hl 0 rfl) ?_
  refine lv_iconst (v := nI 2) hx hb dL_law_324 (by decide) ?_
  refine cj_iaddN hx hb dL_law_325 ?_
  refine cj_sld hx hb hX hbl hbA V (by omega) (by omega) dL_law_326 ?_
  refine cj_lC X V (c_C_map l D kd ac I.1 I.2.1 I.2.2.1 I.2.2.2.1 I.2.2.2.2.1 (xs (i + 1)) (xs (i + 2))) 0 1 rfl rfl rfl ml_L_42 im_C_map se_C_map in_C cd_C_map hd_C_map ⟨by decide, by decide⟩ ⟨by decide, by decide⟩ hl.1 rfl (Nat.le_of_ble_eq_true rfl) dL_law_327 (fun r_C uc H locs hwc V => ?_)
  refine lv_aload_n hx hb dL_law_330 rfl (lv_at hl 1 rfl) ?_
  refine lv_aload_n hx hb dL_law_331 rfl (lv_at hl 3 rfl) ?_
  refine lv_iload_n hx hb dL_law_332 rfl (lv_at hl 0 rfl) ?_
  refine lv_iconst (v := nI 1) hx hb dL_law_333 (by decide) ?_
  refine cj_iaddN hx hb dL_law_334 ?_
  refine cj_sld hx hb hX hbl hbA V (by omega) (by omega) dL_law_335 ?_
  refine lv_aload_n hx hb dL_law_336 rfl (lv_at hl 3 rfl) ?_
  refine lv_iload_n hx hb dL_law_337 rfl (lv_at hl 0 rfl) ?_
  refine lv_iconst (v := nI 2) hx hb dL_law_338 (by decide) ?_
  refine cj_iaddN hx hb dL_law_339 ?_
  refine cj_sld hx hb hX hbl hbA V (by omega) (by omega) dL_law_340 ?_
  refine cj_lM X V (c_M_map l D kd am I.1 I.2.1 I.2.2.1 I.2.2.2.1 I.2.2.2.2.1 (xs (i + 1)) (xs (i + 2))) 0 2 rfl rfl rfl ml_L_45 im_M_map se_M_map in_M cd_M_map hd_M_map ⟨by decide, by decide⟩ ⟨by decide, by decide⟩ hl.1 rfl (Nat.le_of_ble_eq_true rfl) dL_law_341 (fun r_M um H locs hwm V => ?_)
  obtain ⟨v1, v2, v3, v4, v5, v6, v7⟩ := uc
  obtain ⟨z1, z2, z3, z4, z5, z6, z7⟩ := um
  rw [← o_map_eq I] at hwm
  obtain ⟨rfl, h1, h2, h3, h4, h5⟩ := hwc
  obtain ⟨rfl, g1, g2, g3, g4, g5⟩ := hwm
  dsimp only at h1 h2 h3 h4 h5 g1 g2 g3 g4 g5
  subst h1 h2 h3 h4 h5 g1 g2 g3 g4 g5
  refine lv_icmp_eq (tgt := 678) hx hb dL_law_344 (by decide) (fun _ => ?_) (fun h => absurd rfl h)
  exact kont _ _ ⟨_, _, _, _, _, _, _, _, _, _, _, _, _, _, _, _, _, _, _, _, _, cj_I_add I (cj_ok_map I _ _), V⟩
set_option maxRecDepth 100000 in
set_option maxHeartbeats 4000000 in
theorem law_7 {p : Program} {l : Launch} {e : Env} {s : State} {m : MethodId} {below : List Frame} {meth : Method} {c : Code} {b L : Nat} {xs : Nat → Int32} {D : va_G} {kd : Nat → ClassId} {ac am : Nat → Nat} {H : Heap} {locs : List Loc} {ls : Array Slot} {i : Nat} (hL : L ≤ 2560) (C0 : lw_At p s m meth c b L xs) (X : cj_X p s m #[Value.ref b] c meth code 4 RL D kd) (hi : i + 5 ≤ L) (hl : lv_has ls 4 [(3, .int (nI i)), (2, .ref (am 0)), (1, .ref (ac 0)), (0, .ref b)]) (LW : lw_W D kd (fun q : Nat => s.heap.size ≤ q) s.heap ac am H locs) (kont : ∀ (H : Heap) (locs : List Loc), lw_W D kd (fun q : Nat => s.heap.size ≤ q) s.heap ac am H locs → W p l e room_1 s m #[Value.ref b] below meth c H locs 600000 7302250 (lw_Z below #[Value.ref b] s) (F0 m 678 ls [])) : W p l e room_1 s m #[Value.ref b] below meth c H locs 600000 7302250 (lw_Z below #[Value.ref b] s) (F0 m 349 ls []) := by
  obtain ⟨hx, hb, hr, hml, hown, hts, hX, hbl, hlocks, hgv⟩ := C0
  have hbA : ¬ (fun q : Nat => s.heap.size ≤ q) b := Nat.not_le.mpr hbl
  obtain ⟨E, n, cl, con, ow, rn, ed, co, hz, mp, pr, cn, hs, wg, rs, ch, con2, ow2, ge, lo, pr2, I, V⟩ := LW
  refine lv_aload_n hx hb dL_law_349 rfl (lv_at hl 2 rfl) ?_
  refine lv_aload_n hx hb dL_law_350 rfl (lv_at hl 3 rfl) ?_
  refine lv_iload_n hx hb dL_law_351 rfl (lv_at hl 0 rfl) ?_
  refine lv_iconst (v := nI 1) hx hb dL_law_352 (by decide) ?_
  refine cj_iaddN hx hb dL_law_353 ?_
  refine cj_sld hx hb hX hbl hbA V (by omega) (by omega) dL_law_354 ?_
  refine lv_aload_n hx hb dL_law_355 rfl (lv_at hl 3 rfl) ?_
  refine lv_iload_n hx hb dL_law_356 rfl (lv_at hl 0 rfl) ?_
  refine lv_iconst (v := nI 2) hx hb dL_law_357 (by decide) ?_
  refine cj_iaddN hx hb dL_law_358 ?_
  refine cj_sld hx hb hX hbl hbA V (by omega) (by omega) dL_law_359 ?_
  refine cj_lC X V (c_C_join l D kd ac I.1 I.2.1 I.2.2.1 I.2.2.2.1 I.2.2.2.2.1 (xs (i + 1)) (xs (i + 2))) 0 1 rfl rfl rfl ml_L_46 im_C_join se_C_join in_C cd_C_join hd_C_join ⟨by decide, by decide⟩ ⟨by decide, by decide⟩ hl.1 rfl (Nat.le_of_ble_eq_true rfl) dL_law_360 (fun r_C uc H locs hwc V => ?_)
  refine lv_aload_n hx hb dL_law_363 rfl (lv_at hl 1 rfl) ?_
  refine lv_aload_n hx hb dL_law_364 rfl (lv_at hl 3 rfl) ?_
  refine lv_iload_n hx hb dL_law_365 rfl (lv_at hl 0 rfl) ?_
  refine lv_iconst (v := nI 1) hx hb dL_law_366 (by decide) ?_
  refine cj_iaddN hx hb dL_law_367 ?_
  refine cj_sld hx hb hX hbl hbA V (by omega) (by omega) dL_law_368 ?_
  refine lv_aload_n hx hb dL_law_369 rfl (lv_at hl 3 rfl) ?_
  refine lv_iload_n hx hb dL_law_370 rfl (lv_at hl 0 rfl) ?_
  refine lv_iconst (v := nI 2) hx hb dL_law_371 (by decide) ?_
  refine cj_iaddN hx hb dL_law_372 ?_
  refine cj_sld hx hb hX hbl hbA V (by omega) (by omega) dL_law_373 ?_
  refine cj_lM X V (c_M_join l D kd am I.1 I.2.1 I.2.2.1 I.2.2.2.1 I.2.2.2.2.1 (xs (i + 1)) (xs (i + 2))) 0 2 rfl rfl rfl ml_L_49 im_M_join se_M_join in_M cd_M_join hd_M_join ⟨by decide, by decide⟩ ⟨by decide, by decide⟩ hl.1 rfl (Nat.le_of_ble_eq_true rfl) dL_law_374 (fun r_M um H locs hwm V => ?_)
  obtain ⟨rfl, rfl⟩ := hwc
  obtain ⟨rfl, rfl⟩ := hwm
  refine lv_icmp_eq (tgt := 678) hx hb dL_law_377 (by decide) (fun _ => ?_) (fun h => absurd rfl h)
  exact kont _ _ ⟨_, _, _, _, _, _, _, _, _, _, _, _, _, _, _, _, _, _, _, _, _, cj_I_add I (cj_ok_join I _ _), V⟩
set_option maxRecDepth 100000 in
set_option maxHeartbeats 4000000 in
theorem law_8 {p : Program} {l : Launch} {e : Env} {s : State} {m : MethodId} {below : List Frame} {meth : Method} {c : Code} {b L : Nat} {xs : Nat → Int32} {D : va_G} {kd : Nat → ClassId} {ac am : Nat → Nat} {H : Heap} {locs : List Loc} {ls : Array Slot} {i : Nat} (hL : L ≤ 2560) (C0 : lw_At p s m meth c b L xs) (X : cj_X p s m #[Value.ref b] c meth code 4 RL D kd) (hi : i + 5 ≤ L) (hl : lv_has ls 4 [(3, .int (nI i)), (2, .ref (am 0)), (1, .ref (ac 0)), (0, .ref b)]) (LW : lw_W D kd (fun q : Nat => s.heap.size ≤ q) s.heap ac am H locs) (kont : ∀ (H : Heap) (locs : List Loc), lw_W D kd (fun q : Nat => s.heap.size ≤ q) s.heap ac am H locs → W p l e room_1 s m #[Value.ref b] below meth c H locs 600000 7302250 (lw_Z below #[Value.ref b] s) (F0 m 678 ls [])) : W p l e room_1 s m #[Value.ref b] below meth c H locs 600000 7302250 (lw_Z below #[Value.ref b] s) (F0 m 382 ls []) := by
  obtain ⟨hx, hb, hr, hml, hown, hts, hX, hbl, hlocks, hgv⟩ := C0
  have hbA : ¬ (fun q : Nat => s.heap.size ≤ q) b := Nat.not_le.mpr hbl
  obtain ⟨E, n, cl, con, ow, rn, ed, co, hz, mp, pr, cn, hs, wg, rs, ch, con2, ow2, ge, lo, pr2, I, V⟩ := LW
  refine lv_aload_n hx hb dL_law_382 rfl (lv_at hl 2 rfl) ?_
  refine lv_aload_n hx hb dL_law_383 rfl (lv_at hl 3 rfl) ?_
  refine lv_iload_n hx hb dL_law_384 rfl (lv_at hl 0 rfl) ?_
  refine lv_iconst (v := nI 1) hx hb dL_law_385 (by decide) ?_
  refine cj_iaddN hx hb dL_law_386 ?_
  refine cj_sld hx hb hX hbl hbA V (by omega) (by omega) dL_law_387 ?_
  refine lv_aload_n hx hb dL_law_388 rfl (lv_at hl 3 rfl) ?_
  refine lv_iload_n hx hb dL_law_389 rfl (lv_at hl 0 rfl) ?_
  refine lv_iconst (v := nI 2) hx hb dL_law_390 (by decide) ?_
  refine cj_iaddN hx hb dL_law_391 ?_
  refine cj_sld hx hb hX hbl hbA V (by omega) (by omega) dL_law_392 ?_
  refine lv_aload_n hx hb dL_law_393 rfl (lv_at hl 3 rfl) ?_
  refine lv_iload_n hx hb dL_law_394 rfl (lv_at hl 0 rfl) ?_
  refine lv_iconst (v := nI 3) hx hb dL_law_395 (by decide) ?_
  refine cj_iaddN hx hb dL_law_396 ?_
  refine cj_sld hx hb hX hbl hbA V (by omega) (by omega) dL_law_397 ?_
  refine cj_lC X V (c_C_same l D kd ac I.1 I.2.1 I.2.2.1 I.2.2.2.1 I.2.2.2.2.1 (xs (i + 1)) (xs (i + 2)) (xs (i + 3))) 0 1 rfl rfl rfl ml_L_50 im_C_same se_C_same in_C cd_C_same hd_C_same ⟨by decide, by decide⟩ ⟨by decide, by decide⟩ hl.1 rfl (Nat.le_of_ble_eq_true rfl) dL_law_398 (fun r_C uc H locs hwc V => ?_)
  refine lv_aload_n hx hb dL_law_401 rfl (lv_at hl 1 rfl) ?_
  refine lv_aload_n hx hb dL_law_402 rfl (lv_at hl 3 rfl) ?_
  refine lv_iload_n hx hb dL_law_403 rfl (lv_at hl 0 rfl) ?_
  refine lv_iconst (v := nI 1) hx hb dL_law_404 (by decide) ?_
  refine cj_iaddN hx hb dL_law_405 ?_
  refine cj_sld hx hb hX hbl hbA V (by omega) (by omega) dL_law_406 ?_
  refine lv_aload_n hx hb dL_law_407 rfl (lv_at hl 3 rfl) ?_
  refine lv_iload_n hx hb dL_law_408 rfl (lv_at hl 0 rfl) ?_
  refine lv_iconst (v := nI 2) hx hb dL_law_409 (by decide) ?_
  refine cj_iaddN hx hb dL_law_410 ?_
  refine cj_sld hx hb hX hbl hbA V (by omega) (by omega) dL_law_411 ?_
  refine lv_aload_n hx hb dL_law_412 rfl (lv_at hl 3 rfl) ?_
  refine lv_iload_n hx hb dL_law_413 rfl (lv_at hl 0 rfl) ?_
  refine lv_iconst (v := nI 3) hx hb dL_law_414 (by decide) ?_
  refine cj_iaddN hx hb dL_law_415 ?_
  refine cj_sld hx hb hX hbl hbA V (by omega) (by omega) dL_law_416 ?_
  refine cj_lM X V (c_M_same l D kd am I.1 I.2.1 I.2.2.1 I.2.2.2.1 I.2.2.2.2.1 (xs (i + 1)) (xs (i + 2)) (xs (i + 3))) 0 2 rfl rfl rfl ml_L_54 im_M_same se_M_same in_M cd_M_same hd_M_same ⟨by decide, by decide⟩ ⟨by decide, by decide⟩ hl.1 rfl (Nat.le_of_ble_eq_true rfl) dL_law_417 (fun r_M um H locs hwm V => ?_)
  obtain ⟨v1, v2, v3⟩ := uc
  obtain ⟨z1, z2, z3⟩ := um
  rw [← f_same_eq I] at hwm
  obtain ⟨rfl, h1⟩ := hwc
  obtain ⟨rfl, g1⟩ := hwm
  dsimp only at h1 g1
  subst h1 g1
  refine lv_icmp_eq (tgt := 678) hx hb dL_law_420 (by decide) (fun _ => ?_) (fun h => absurd rfl h)
  exact kont _ _ ⟨_, _, _, _, _, _, _, _, _, _, _, _, _, _, _, _, _, _, _, _, _, I, V⟩
set_option maxRecDepth 100000 in
set_option maxHeartbeats 4000000 in
theorem law_9 {p : Program} {l : Launch} {e : Env} {s : State} {m : MethodId} {below : List Frame} {meth : Method} {c : Code} {b L : Nat} {xs : Nat → Int32} {D : va_G} {kd : Nat → ClassId} {ac am : Nat → Nat} {H : Heap} {locs : List Loc} {ls : Array Slot} {i : Nat} (hL : L ≤ 2560) (C0 : lw_At p s m meth c b L xs) (X : cj_X p s m #[Value.ref b] c meth code 4 RL D kd) (hi : i + 5 ≤ L) (hl : lv_has ls 4 [(3, .int (nI i)), (2, .ref (am 0)), (1, .ref (ac 0)), (0, .ref b)]) (LW : lw_W D kd (fun q : Nat => s.heap.size ≤ q) s.heap ac am H locs) (kont : ∀ (H : Heap) (locs : List Loc), lw_W D kd (fun q : Nat => s.heap.size ≤ q) s.heap ac am H locs → W p l e room_1 s m #[Value.ref b] below meth c H locs 600000 7302250 (lw_Z below #[Value.ref b] s) (F0 m 678 ls [])) : W p l e room_1 s m #[Value.ref b] below meth c H locs 600000 7302250 (lw_Z below #[Value.ref b] s) (F0 m 425 ls []) := by
  obtain ⟨hx, hb, hr, hml, hown, hts, hX, hbl, hlocks, hgv⟩ := C0
  have hbA : ¬ (fun q : Nat => s.heap.size ≤ q) b := Nat.not_le.mpr hbl
  obtain ⟨E, n, cl, con, ow, rn, ed, co, hz, mp, pr, cn, hs, wg, rs, ch, con2, ow2, ge, lo, pr2, I, V⟩ := LW
  refine lv_aload_n hx hb dL_law_425 rfl (lv_at hl 2 rfl) ?_
  refine lv_aload_n hx hb dL_law_426 rfl (lv_at hl 3 rfl) ?_
  refine lv_iload_n hx hb dL_law_427 rfl (lv_at hl 0 rfl) ?_
  refine lv_iconst (v := nI 1) hx hb dL_law_428 (by decide) ?_
  refine cj_iaddN hx hb dL_law_429 ?_
  refine cj_sld hx hb hX hbl hbA V (by omega) (by omega) dL_law_430 ?_
  refine lv_aload_n hx hb dL_law_431 rfl (lv_at hl 3 rfl) ?_
  refine lv_iload_n hx hb dL_law_432 rfl (lv_at hl 0 rfl) ?_
  refine lv_iconst (v := nI 2) hx hb dL_law_433 (by decide) ?_
  refine cj_iaddN hx hb dL_law_434 ?_
  refine cj_sld hx hb hX hbl hbA V (by omega) (by omega) dL_law_435 ?_
  refine lv_aload_n hx hb dL_law_436 rfl (lv_at hl 3 rfl) ?_
  refine lv_iload_n hx hb dL_law_437 rfl (lv_at hl 0 rfl) ?_
  refine lv_iconst (v := nI 3) hx hb dL_law_438 (by decide) ?_
  refine cj_iaddN hx hb dL_law_439 ?_
  refine cj_sld hx hb hX hbl hbA V (by omega) (by omega) dL_law_440 ?_
  refine cj_bool hx hb dL_law_441 dL_law_444 dL_law_445 dL_law_448 ?_
  refine cj_lC X V (c_C_share l D kd ac I.1 I.2.1 I.2.2.1 I.2.2.2.1 I.2.2.2.2.1 (xs (i + 1)) (xs (i + 2)) (!decide (xs (i + 3) = 0))) 0 1 rfl rfl rfl ml_L_55 im_C_share se_C_share in_C cd_C_share hd_C_share ⟨by decide, by decide⟩ ⟨by decide, by decide⟩ hl.1 rfl (Nat.le_of_ble_eq_true rfl) dL_law_449 (fun r_C uc H locs hwc V => ?_)
  refine lv_aload_n hx hb dL_law_452 rfl (lv_at hl 1 rfl) ?_
  refine lv_aload_n hx hb dL_law_453 rfl (lv_at hl 3 rfl) ?_
  refine lv_iload_n hx hb dL_law_454 rfl (lv_at hl 0 rfl) ?_
  refine lv_iconst (v := nI 1) hx hb dL_law_455 (by decide) ?_
  refine cj_iaddN hx hb dL_law_456 ?_
  refine cj_sld hx hb hX hbl hbA V (by omega) (by omega) dL_law_457 ?_
  refine lv_aload_n hx hb dL_law_458 rfl (lv_at hl 3 rfl) ?_
  refine lv_iload_n hx hb dL_law_459 rfl (lv_at hl 0 rfl) ?_
  refine lv_iconst (v := nI 2) hx hb dL_law_460 (by decide) ?_
  refine cj_iaddN hx hb dL_law_461 ?_
  refine cj_sld hx hb hX hbl hbA V (by omega) (by omega) dL_law_462 ?_
  refine lv_aload_n hx hb dL_law_463 rfl (lv_at hl 3 rfl) ?_
  refine lv_iload_n hx hb dL_law_464 rfl (lv_at hl 0 rfl) ?_
  refine lv_iconst (v := nI 3) hx hb dL_law_465 (by decide) ?_
  refine cj_iaddN hx hb dL_law_466 ?_
  refine cj_sld hx hb hX hbl hbA V (by omega) (by omega) dL_law_467 ?_
  refine cj_bool hx hb dL_law_468 dL_law_471 dL_law_472 dL_law_475 ?_
  refine cj_lM X V (c_M_share l D kd am I.1 I.2.1 I.2.2.1 I.2.2.2.1 I.2.2.2.2.1 I.2.2.2.2.2.1 (xs (i + 1)) (xs (i + 2)) (!decide (xs (i + 3) = 0))) 0 2 rfl rfl rfl ml_L_59 im_M_share se_M_share in_M cd_M_share hd_M_share ⟨by decide, by decide⟩ ⟨by decide, by decide⟩ hl.1 rfl (Nat.le_of_ble_eq_true rfl) dL_law_476 (fun r_M um H locs hwm V => ?_)
  obtain rfl := hwc
  obtain rfl := hwm
  refine lv_icmp_eq (tgt := 678) hx hb dL_law_479 (by decide) (fun _ => ?_) (fun h => absurd (f_share_eq I _ _ _) h)
  exact kont _ _ ⟨_, _, _, _, _, _, _, _, _, _, _, _, _, _, _, _, _, _, _, _, _, I, V⟩
set_option maxRecDepth 100000 in
set_option maxHeartbeats 4000000 in
theorem law_10 {p : Program} {l : Launch} {e : Env} {s : State} {m : MethodId} {below : List Frame} {meth : Method} {c : Code} {b L : Nat} {xs : Nat → Int32} {D : va_G} {kd : Nat → ClassId} {ac am : Nat → Nat} {H : Heap} {locs : List Loc} {ls : Array Slot} {i : Nat} (hL : L ≤ 2560) (C0 : lw_At p s m meth c b L xs) (X : cj_X p s m #[Value.ref b] c meth code 4 RL D kd) (hi : i + 5 ≤ L) (hl : lv_has ls 4 [(3, .int (nI i)), (2, .ref (am 0)), (1, .ref (ac 0)), (0, .ref b)]) (LW : lw_W D kd (fun q : Nat => s.heap.size ≤ q) s.heap ac am H locs) (kont : ∀ (H : Heap) (locs : List Loc), lw_W D kd (fun q : Nat => s.heap.size ≤ q) s.heap ac am H locs → W p l e room_1 s m #[Value.ref b] below meth c H locs 600000 7302250 (lw_Z below #[Value.ref b] s) (F0 m 678 ls [])) : W p l e room_1 s m #[Value.ref b] below meth c H locs 600000 7302250 (lw_Z below #[Value.ref b] s) (F0 m 484 ls []) := by
  obtain ⟨hx, hb, hr, hml, hown, hts, hX, hbl, hlocks, hgv⟩ := C0
  have hbA : ¬ (fun q : Nat => s.heap.size ≤ q) b := Nat.not_le.mpr hbl
  obtain ⟨E, n, cl, con, ow, rn, ed, co, hz, mp, pr, cn, hs, wg, rs, ch, con2, ow2, ge, lo, pr2, I, V⟩ := LW
  refine lv_aload_n hx hb dL_law_484 rfl (lv_at hl 2 rfl) ?_
  refine lv_aload_n hx hb dL_law_485 rfl (lv_at hl 3 rfl) ?_
  refine lv_iload_n hx hb dL_law_486 rfl (lv_at hl 0 rfl) ?_
  refine lv_iconst (v := nI 1) hx hb dL_law_487 (by decide) ?_
  refine cj_iaddN hx hb dL_law_488 ?_
  refine cj_sld hx hb hX hbl hbA V (by omega) (by omega) dL_law_489 ?_
  refine lv_aload_n hx hb dL_law_490 rfl (lv_at hl 3 rfl) ?_
  refine lv_iload_n hx hb dL_law_491 rfl (lv_at hl 0 rfl) ?_
  refine lv_iconst (v := nI 2) hx hb dL_law_492 (by decide) ?_
  refine cj_iaddN hx hb dL_law_493 ?_
  refine cj_sld hx hb hX hbl hbA V (by omega) (by omega) dL_law_494 ?_
  refine lv_aload_n hx hb dL_law_495 rfl (lv_at hl 3 rfl) ?_
  refine lv_iload_n hx hb dL_law_496 rfl (lv_at hl 0 rfl) ?_
  refine lv_iconst (v := nI 3) hx hb dL_law_497 (by decide) ?_
  refine cj_iaddN hx hb dL_law_498 ?_
  refine cj_sld hx hb hX hbl hbA V (by omega) (by omega) dL_law_499 ?_
  refine cj_bool hx hb dL_law_500 dL_law_503 dL_law_504 dL_law_507 ?_
  refine cj_lC X V (c_C_fresh l D kd ac I.1 I.2.1 I.2.2.1 I.2.2.2.1 I.2.2.2.2.1 (xs (i + 1)) (xs (i + 2)) (!decide (xs (i + 3) = 0))) 0 1 rfl rfl rfl ml_L_60 im_C_fresh se_C_fresh in_C cd_C_fresh hd_C_fresh ⟨by decide, by decide⟩ ⟨by decide, by decide⟩ hl.1 rfl (Nat.le_of_ble_eq_true rfl) dL_law_508 (fun r_C uc H locs hwc V => ?_)
  refine lv_aload_n hx hb dL_law_511 rfl (lv_at hl 1 rfl) ?_
  refine lv_aload_n hx hb dL_law_512 rfl (lv_at hl 3 rfl) ?_
  refine lv_iload_n hx hb dL_law_513 rfl (lv_at hl 0 rfl) ?_
  refine lv_iconst (v := nI 1) hx hb dL_law_514 (by decide) ?_
  refine cj_iaddN hx hb dL_law_515 ?_
  refine cj_sld hx hb hX hbl hbA V (by omega) (by omega) dL_law_516 ?_
  refine lv_aload_n hx hb dL_law_517 rfl (lv_at hl 3 rfl) ?_
  refine lv_iload_n hx hb dL_law_518 rfl (lv_at hl 0 rfl) ?_
  refine lv_iconst (v := nI 2) hx hb dL_law_519 (by decide) ?_
  refine cj_iaddN hx hb dL_law_520 ?_
  refine cj_sld hx hb hX hbl hbA V (by omega) (by omega) dL_law_521 ?_
  refine lv_aload_n hx hb dL_law_522 rfl (lv_at hl 3 rfl) ?_
  refine lv_iload_n hx hb dL_law_523 rfl (lv_at hl 0 rfl) ?_
  refine lv_iconst (v := nI 3) hx hb dL_law_524 (by decide) ?_
  refine cj_iaddN hx hb dL_law_525 ?_
  refine cj_sld hx hb hX hbl hbA V (by omega) (by omega) dL_law_526 ?_
  refine cj_bool hx hb dL_law_527 dL_law_530 dL_law_531 dL_law_534 ?_
  refine cj_lM X V (c_M_fresh l D kd am I.1 I.2.1 I.2.2.1 I.2.2.2.1 I.2.2.2.2.1 (xs (i + 1)) (xs (i + 2)) (!decide (xs (i + 3) = 0))) 0 2 rfl rfl rfl ml_L_63 im_M_fresh se_M_fresh in_M cd_M_fresh hd_M_fresh ⟨by decide, by decide⟩ ⟨by decide, by decide⟩ hl.1 rfl (Nat.le_of_ble_eq_true rfl) dL_law_535 (fun r_M um H locs hwm V => ?_)
  obtain ⟨v1, v2, v3⟩ := uc
  obtain ⟨z1, z2, z3⟩ := um
  rw [← f_fresh_eq I] at hwm
  obtain ⟨rfl, h1⟩ := hwc
  obtain ⟨rfl, g1⟩ := hwm
  dsimp only at h1 g1
  subst h1 g1
  refine lv_icmp_eq (tgt := 678) hx hb dL_law_538 (by decide) (fun _ => ?_) (fun h => absurd rfl h)
  exact kont _ _ ⟨_, _, _, _, _, _, _, _, _, _, _, _, _, _, _, _, _, _, _, _, _, I, V⟩
set_option maxRecDepth 100000 in
set_option maxHeartbeats 4000000 in
theorem law_11 {p : Program} {l : Launch} {e : Env} {s : State} {m : MethodId} {below : List Frame} {meth : Method} {c : Code} {b L : Nat} {xs : Nat → Int32} {D : va_G} {kd : Nat → ClassId} {ac am : Nat → Nat} {H : Heap} {locs : List Loc} {ls : Array Slot} {i : Nat} (hL : L ≤ 2560) (C0 : lw_At p s m meth c b L xs) (X : cj_X p s m #[Value.ref b] c meth code 4 RL D kd) (hi : i + 5 ≤ L) (hl : lv_has ls 4 [(3, .int (nI i)), (2, .ref (am 0)), (1, .ref (ac 0)), (0, .ref b)]) (LW : lw_W D kd (fun q : Nat => s.heap.size ≤ q) s.heap ac am H locs) (kont : ∀ (H : Heap) (locs : List Loc), lw_W D kd (fun q : Nat => s.heap.size ≤ q) s.heap ac am H locs → W p l e room_1 s m #[Value.ref b] below meth c H locs 600000 7302250 (lw_Z below #[Value.ref b] s) (F0 m 678 ls [])) : W p l e room_1 s m #[Value.ref b] below meth c H locs 600000 7302250 (lw_Z below #[Value.ref b] s) (F0 m 543 ls []) := by
  obtain ⟨hx, hb, hr, hml, hown, hts, hX, hbl, hlocks, hgv⟩ := C0
  have hbA : ¬ (fun q : Nat => s.heap.size ≤ q) b := Nat.not_le.mpr hbl
  obtain ⟨E, n, cl, con, ow, rn, ed, co, hz, mp, pr, cn, hs, wg, rs, ch, con2, ow2, ge, lo, pr2, I, V⟩ := LW
  refine lv_aload_n hx hb dL_law_543 rfl (lv_at hl 2 rfl) ?_
  refine lv_aload_n hx hb dL_law_544 rfl (lv_at hl 3 rfl) ?_
  refine lv_iload_n hx hb dL_law_545 rfl (lv_at hl 0 rfl) ?_
  refine lv_iconst (v := nI 1) hx hb dL_law_546 (by decide) ?_
  refine cj_iaddN hx hb dL_law_547 ?_
  refine cj_sld hx hb hX hbl hbA V (by omega) (by omega) dL_law_548 ?_
  refine lv_aload_n hx hb dL_law_549 rfl (lv_at hl 3 rfl) ?_
  refine lv_iload_n hx hb dL_law_550 rfl (lv_at hl 0 rfl) ?_
  refine lv_iconst (v := nI 2) hx hb dL_law_551 (by decide) ?_
  refine cj_iaddN hx hb dL_law_552 ?_
  refine cj_sld hx hb hX hbl hbA V (by omega) (by omega) dL_law_553 ?_
  refine lv_aload_n hx hb dL_law_554 rfl (lv_at hl 3 rfl) ?_
  refine lv_iload_n hx hb dL_law_555 rfl (lv_at hl 0 rfl) ?_
  refine lv_iconst (v := nI 3) hx hb dL_law_556 (by decide) ?_
  refine cj_iaddN hx hb dL_law_557 ?_
  refine cj_sld hx hb hX hbl hbA V (by omega) (by omega) dL_law_558 ?_
  refine cj_lC X V (c_C_falls l D kd ac I.1 I.2.1 I.2.2.1 I.2.2.2.1 I.2.2.2.2.1 (xs (i + 1)) (xs (i + 2)) (xs (i + 3))) 0 1 rfl rfl rfl ml_L_64 im_C_falls se_C_falls in_C cd_C_falls hd_C_falls ⟨by decide, by decide⟩ ⟨by decide, by decide⟩ hl.1 rfl (Nat.le_of_ble_eq_true rfl) dL_law_559 (fun r_C uc H locs hwc V => ?_)
  refine lv_aload_n hx hb dL_law_562 rfl (lv_at hl 1 rfl) ?_
  refine lv_aload_n hx hb dL_law_563 rfl (lv_at hl 3 rfl) ?_
  refine lv_iload_n hx hb dL_law_564 rfl (lv_at hl 0 rfl) ?_
  refine lv_iconst (v := nI 1) hx hb dL_law_565 (by decide) ?_
  refine cj_iaddN hx hb dL_law_566 ?_
  refine cj_sld hx hb hX hbl hbA V (by omega) (by omega) dL_law_567 ?_
  refine lv_aload_n hx hb dL_law_568 rfl (lv_at hl 3 rfl) ?_
  refine lv_iload_n hx hb dL_law_569 rfl (lv_at hl 0 rfl) ?_
  refine lv_iconst (v := nI 2) hx hb dL_law_570 (by decide) ?_
  refine cj_iaddN hx hb dL_law_571 ?_
  refine cj_sld hx hb hX hbl hbA V (by omega) (by omega) dL_law_572 ?_
  refine lv_aload_n hx hb dL_law_573 rfl (lv_at hl 3 rfl) ?_
  refine lv_iload_n hx hb dL_law_574 rfl (lv_at hl 0 rfl) ?_
  refine lv_iconst (v := nI 3) hx hb dL_law_575 (by decide) ?_
  refine cj_iaddN hx hb dL_law_576 ?_
  refine cj_sld hx hb hX hbl hbA V (by omega) (by omega) dL_law_577 ?_
  refine cj_lM X V (c_M_falls l D kd am I.1 I.2.1 I.2.2.1 I.2.2.2.1 I.2.2.2.2.1 I.2.2.2.2.2.1 (xs (i + 1)) (xs (i + 2)) (xs (i + 3))) 0 2 rfl rfl rfl ml_L_67 im_M_falls se_M_falls in_M cd_M_falls hd_M_falls ⟨by decide, by decide⟩ ⟨by decide, by decide⟩ hl.1 rfl (Nat.le_of_ble_eq_true rfl) dL_law_578 (fun r_M um H locs hwm V => ?_)
  obtain rfl := hwc
  obtain rfl := hwm
  refine lv_icmp_eq (tgt := 678) hx hb dL_law_581 (by decide) (fun _ => ?_) (fun h => absurd (f_falls_eq I _ _ _) h)
  exact kont _ _ ⟨_, _, _, _, _, _, _, _, _, _, _, _, _, _, _, _, _, _, _, _, _, I, V⟩
set_option maxRecDepth 100000 in
set_option maxHeartbeats 4000000 in
theorem law_12 {p : Program} {l : Launch} {e : Env} {s : State} {m : MethodId} {below : List Frame} {meth : Method} {c : Code} {b L : Nat} {xs : Nat → Int32} {D : va_G} {kd : Nat → ClassId} {ac am : Nat → Nat} {H : Heap} {locs : List Loc} {ls : Array Slot} {i : Nat} (hL : L ≤ 2560) (C0 : lw_At p s m meth c b L xs) (X : cj_X p s m #[Value.ref b] c meth code 4 RL D kd) (hi : i + 5 ≤ L) (hl : lv_has ls 4 [(3, .int (nI i)), (2, .ref (am 0)), (1, .ref (ac 0)), (0, .ref b)]) (LW : lw_W D kd (fun q : Nat => s.heap.size ≤ q) s.heap ac am H locs) (kont : ∀ (H : Heap) (locs : List Loc), lw_W D kd (fun q : Nat => s.heap.size ≤ q) s.heap ac am H locs → W p l e room_1 s m #[Value.ref b] below meth c H locs 600000 7302250 (lw_Z below #[Value.ref b] s) (F0 m 678 ls [])) : W p l e room_1 s m #[Value.ref b] below meth c H locs 600000 7302250 (lw_Z below #[Value.ref b] s) (F0 m 586 ls []) := by
  obtain ⟨hx, hb, hr, hml, hown, hts, hX, hbl, hlocks, hgv⟩ := C0
  have hbA : ¬ (fun q : Nat => s.heap.size ≤ q) b := Nat.not_le.mpr hbl
  obtain ⟨E, n, cl, con, ow, rn, ed, co, hz, mp, pr, cn, hs, wg, rs, ch, con2, ow2, ge, lo, pr2, I, V⟩ := LW
  refine lv_aload_n hx hb dL_law_586 rfl (lv_at hl 2 rfl) ?_
  refine lv_aload_n hx hb dL_law_587 rfl (lv_at hl 3 rfl) ?_
  refine lv_iload_n hx hb dL_law_588 rfl (lv_at hl 0 rfl) ?_
  refine lv_iconst (v := nI 1) hx hb dL_law_589 (by decide) ?_
  refine cj_iaddN hx hb dL_law_590 ?_
  refine cj_sld hx hb hX hbl hbA V (by omega) (by omega) dL_law_591 ?_
  refine cj_lC X V (c_C_dead l D kd ac I.1 I.2.1 I.2.2.1 I.2.2.2.1 I.2.2.2.2.1 (xs (i + 1))) 0 1 rfl rfl rfl ml_L_68 im_C_dead se_C_dead in_C cd_C_dead hd_C_dead ⟨by decide, by decide⟩ ⟨by decide, by decide⟩ hl.1 rfl (Nat.le_of_ble_eq_true rfl) dL_law_592 (fun r_C uc H locs hwc V => ?_)
  refine lv_aload_n hx hb dL_law_595 rfl (lv_at hl 1 rfl) ?_
  refine lv_aload_n hx hb dL_law_596 rfl (lv_at hl 3 rfl) ?_
  refine lv_iload_n hx hb dL_law_597 rfl (lv_at hl 0 rfl) ?_
  refine lv_iconst (v := nI 1) hx hb dL_law_598 (by decide) ?_
  refine cj_iaddN hx hb dL_law_599 ?_
  refine cj_sld hx hb hX hbl hbA V (by omega) (by omega) dL_law_600 ?_
  refine cj_lM X V (c_M_dead l D kd am I.1 I.2.1 I.2.2.1 I.2.2.2.1 I.2.2.2.2.1 (xs (i + 1))) 0 2 rfl rfl rfl ml_L_71 im_M_dead se_M_dead in_M cd_M_dead hd_M_dead ⟨by decide, by decide⟩ ⟨by decide, by decide⟩ hl.1 rfl (Nat.le_of_ble_eq_true rfl) dL_law_601 (fun r_M um H locs hwm V => ?_)
  obtain rfl := hwc
  obtain rfl := hwm
  refine lv_icmp_eq (tgt := 678) hx hb dL_law_604 (by decide) (fun _ => ?_) (fun h => absurd rfl h)
  exact kont _ _ ⟨_, _, _, _, _, _, _, _, _, _, _, _, _, _, _, _, _, _, _, _, _, I, V⟩
set_option maxRecDepth 100000 in
set_option maxHeartbeats 4000000 in
theorem law_13 {p : Program} {l : Launch} {e : Env} {s : State} {m : MethodId} {below : List Frame} {meth : Method} {c : Code} {b L : Nat} {xs : Nat → Int32} {D : va_G} {kd : Nat → ClassId} {ac am : Nat → Nat} {H : Heap} {locs : List Loc} {ls : Array Slot} {i : Nat} (hL : L ≤ 2560) (C0 : lw_At p s m meth c b L xs) (X : cj_X p s m #[Value.ref b] c meth code 4 RL D kd) (hi : i + 5 ≤ L) (hl : lv_has ls 4 [(3, .int (nI i)), (2, .ref (am 0)), (1, .ref (ac 0)), (0, .ref b)]) (LW : lw_W D kd (fun q : Nat => s.heap.size ≤ q) s.heap ac am H locs) (kont : ∀ (H : Heap) (locs : List Loc), lw_W D kd (fun q : Nat => s.heap.size ≤ q) s.heap ac am H locs → W p l e room_1 s m #[Value.ref b] below meth c H locs 600000 7302250 (lw_Z below #[Value.ref b] s) (F0 m 678 ls [])) : W p l e room_1 s m #[Value.ref b] below meth c H locs 600000 7302250 (lw_Z below #[Value.ref b] s) (F0 m 609 ls []) := by
  obtain ⟨hx, hb, hr, hml, hown, hts, hX, hbl, hlocks, hgv⟩ := C0
  have hbA : ¬ (fun q : Nat => s.heap.size ≤ q) b := Nat.not_le.mpr hbl
  obtain ⟨E, n, cl, con, ow, rn, ed, co, hz, mp, pr, cn, hs, wg, rs, ch, con2, ow2, ge, lo, pr2, I, V⟩ := LW
  refine lv_aload_n hx hb dL_law_609 rfl (lv_at hl 2 rfl) ?_
  refine lv_aload_n hx hb dL_law_610 rfl (lv_at hl 3 rfl) ?_
  refine lv_iload_n hx hb dL_law_611 rfl (lv_at hl 0 rfl) ?_
  refine lv_iconst (v := nI 1) hx hb dL_law_612 (by decide) ?_
  refine cj_iaddN hx hb dL_law_613 ?_
  refine cj_sld hx hb hX hbl hbA V (by omega) (by omega) dL_law_614 ?_
  refine cj_lC X V (c_C_least l D kd ac I.1 I.2.1 I.2.2.1 I.2.2.2.1 I.2.2.2.2.1 (xs (i + 1))) 0 1 rfl rfl rfl ml_L_72 im_C_least se_C_least in_C cd_C_least hd_C_least ⟨by decide, by decide⟩ ⟨by decide, by decide⟩ hl.1 rfl (Nat.le_of_ble_eq_true rfl) dL_law_615 (fun r_C uc H locs hwc V => ?_)
  refine lv_aload_n hx hb dL_law_618 rfl (lv_at hl 1 rfl) ?_
  refine lv_aload_n hx hb dL_law_619 rfl (lv_at hl 3 rfl) ?_
  refine lv_iload_n hx hb dL_law_620 rfl (lv_at hl 0 rfl) ?_
  refine lv_iconst (v := nI 1) hx hb dL_law_621 (by decide) ?_
  refine cj_iaddN hx hb dL_law_622 ?_
  refine cj_sld hx hb hX hbl hbA V (by omega) (by omega) dL_law_623 ?_
  refine cj_lM X V (c_M_least l D kd am I.1 I.2.1 I.2.2.1 I.2.2.2.1 I.2.2.2.2.1 (xs (i + 1))) 0 2 rfl rfl rfl ml_L_75 im_M_least se_M_least in_M cd_M_least hd_M_least ⟨by decide, by decide⟩ ⟨by decide, by decide⟩ hl.1 rfl (Nat.le_of_ble_eq_true rfl) dL_law_624 (fun r_M um H locs hwm V => ?_)
  obtain ⟨v1, v2, v3, v4, v5⟩ := uc
  rw [← f_least_eq I, ← c_least_eq I] at hwm
  obtain ⟨rfl, h1⟩ := hwc
  obtain ⟨rfl, g1⟩ := hwm
  dsimp only at h1
  subst h1 g1
  refine lv_icmp_eq (tgt := 678) hx hb dL_law_627 (by decide) (fun _ => ?_) (fun h => absurd rfl h)
  exact kont _ _ ⟨_, _, _, _, _, _, _, _, _, _, _, _, _, _, _, _, _, _, _, _, _, I, V⟩
set_option maxRecDepth 100000 in
set_option maxHeartbeats 4000000 in
theorem law_14 {p : Program} {l : Launch} {e : Env} {s : State} {m : MethodId} {below : List Frame} {meth : Method} {c : Code} {b L : Nat} {xs : Nat → Int32} {D : va_G} {kd : Nat → ClassId} {ac am : Nat → Nat} {H : Heap} {locs : List Loc} {ls : Array Slot} {i : Nat} (hL : L ≤ 2560) (C0 : lw_At p s m meth c b L xs) (X : cj_X p s m #[Value.ref b] c meth code 4 RL D kd) (hi : i + 5 ≤ L) (hl : lv_has ls 4 [(3, .int (nI i)), (2, .ref (am 0)), (1, .ref (ac 0)), (0, .ref b)]) (LW : lw_W D kd (fun q : Nat => s.heap.size ≤ q) s.heap ac am H locs) (kont : ∀ (H : Heap) (locs : List Loc), lw_W D kd (fun q : Nat => s.heap.size ≤ q) s.heap ac am H locs → W p l e room_1 s m #[Value.ref b] below meth c H locs 600000 7302250 (lw_Z below #[Value.ref b] s) (F0 m 678 ls [])) : W p l e room_1 s m #[Value.ref b] below meth c H locs 600000 7302250 (lw_Z below #[Value.ref b] s) (F0 m 632 ls []) := by
  obtain ⟨hx, hb, hr, hml, hown, hts, hX, hbl, hlocks, hgv⟩ := C0
  have hbA : ¬ (fun q : Nat => s.heap.size ≤ q) b := Nat.not_le.mpr hbl
  obtain ⟨E, n, cl, con, ow, rn, ed, co, hz, mp, pr, cn, hs, wg, rs, ch, con2, ow2, ge, lo, pr2, I, V⟩ := LW
  refine lv_aload_n hx hb dL_law_632 rfl (lv_at hl 2 rfl) ?_
  refine cj_lC X V (c_C_chosen l D kd ac  ) 0 1 rfl rfl rfl ml_L_76 im_C_chosen se_C_chosen in_C cd_C_chosen hd_C_chosen ⟨by decide, by decide⟩ ⟨by decide, by decide⟩ hl.1 rfl (Nat.le_of_ble_eq_true rfl) dL_law_633 (fun r_C uc H locs hwc V => ?_)
  refine lv_aload_n hx hb dL_law_636 rfl (lv_at hl 1 rfl) ?_
  refine cj_lM X V (c_M_chosen l D kd am  ) 0 2 rfl rfl rfl ml_L_79 im_M_chosen se_M_chosen in_M cd_M_chosen hd_M_chosen ⟨by decide, by decide⟩ ⟨by decide, by decide⟩ hl.1 rfl (Nat.le_of_ble_eq_true rfl) dL_law_637 (fun r_M um H locs hwm V => ?_)
  obtain rfl := hwc
  obtain rfl := hwm
  refine lv_icmp_eq (tgt := 678) hx hb dL_law_640 (by decide) (fun _ => ?_) (fun h => absurd rfl h)
  exact kont _ _ ⟨_, _, _, _, _, _, _, _, _, _, _, _, _, _, _, _, _, _, _, _, _, I, V⟩
set_option maxRecDepth 100000 in
set_option maxHeartbeats 4000000 in
theorem law_15 {p : Program} {l : Launch} {e : Env} {s : State} {m : MethodId} {below : List Frame} {meth : Method} {c : Code} {b L : Nat} {xs : Nat → Int32} {D : va_G} {kd : Nat → ClassId} {ac am : Nat → Nat} {H : Heap} {locs : List Loc} {ls : Array Slot} {i : Nat} (hL : L ≤ 2560) (C0 : lw_At p s m meth c b L xs) (X : cj_X p s m #[Value.ref b] c meth code 4 RL D kd) (hi : i + 5 ≤ L) (hl : lv_has ls 4 [(3, .int (nI i)), (2, .ref (am 0)), (1, .ref (ac 0)), (0, .ref b)]) (LW : lw_W D kd (fun q : Nat => s.heap.size ≤ q) s.heap ac am H locs) (kont : ∀ (H : Heap) (locs : List Loc), lw_W D kd (fun q : Nat => s.heap.size ≤ q) s.heap ac am H locs → W p l e room_1 s m #[Value.ref b] below meth c H locs 600000 7302250 (lw_Z below #[Value.ref b] s) (F0 m 678 ls [])) : W p l e room_1 s m #[Value.ref b] below meth c H locs 600000 7302250 (lw_Z below #[Value.ref b] s) (F0 m 645 ls []) := by
  obtain ⟨hx, hb, hr, hml, hown, hts, hX, hbl, hlocks, hgv⟩ := C0
  have hbA : ¬ (fun q : Nat => s.heap.size ≤ q) b := Nat.not_le.mpr hbl
  obtain ⟨E, n, cl, con, ow, rn, ed, co, hz, mp, pr, cn, hs, wg, rs, ch, con2, ow2, ge, lo, pr2, I, V⟩ := LW
  refine lv_aload_n hx hb dL_law_645 rfl (lv_at hl 2 rfl) ?_
  refine lv_aload_n hx hb dL_law_646 rfl (lv_at hl 3 rfl) ?_
  refine lv_iload_n hx hb dL_law_647 rfl (lv_at hl 0 rfl) ?_
  refine lv_iconst (v := nI 1) hx hb dL_law_648 (by decide) ?_
  refine cj_iaddN hx hb dL_law_649 ?_
  refine cj_sld hx hb hX hbl hbA V (by omega) (by omega) dL_law_650 ?_
  refine lv_aload_n hx hb dL_law_651 rfl (lv_at hl 3 rfl) ?_
  refine lv_iload_n hx hb dL_law_652 rfl (lv_at hl 0 rfl) ?_
  refine lv_iconst (v := nI 2) hx hb dL_law_653 (by decide) ?_
  refine cj_iaddN hx hb dL_law_654 ?_
  refine cj_sld hx hb hX hbl hbA V (by omega) (by omega) dL_law_655 ?_
  refine cj_lC X V (c_C_about l D kd ac I.1 I.2.1 I.2.2.1 I.2.2.2.1 I.2.2.2.2.1 (xs (i + 1)) (xs (i + 2))) 0 1 rfl rfl rfl ml_L_80 im_C_about se_C_about in_C cd_C_about hd_C_about ⟨by decide, by decide⟩ ⟨by decide, by decide⟩ hl.1 rfl (Nat.le_of_ble_eq_true rfl) dL_law_656 (fun r_C uc H locs hwc V => ?_)
  refine lv_aload_n hx hb dL_law_659 rfl (lv_at hl 1 rfl) ?_
  refine lv_aload_n hx hb dL_law_660 rfl (lv_at hl 3 rfl) ?_
  refine lv_iload_n hx hb dL_law_661 rfl (lv_at hl 0 rfl) ?_
  refine lv_iconst (v := nI 1) hx hb dL_law_662 (by decide) ?_
  refine cj_iaddN hx hb dL_law_663 ?_
  refine cj_sld hx hb hX hbl hbA V (by omega) (by omega) dL_law_664 ?_
  refine lv_aload_n hx hb dL_law_665 rfl (lv_at hl 3 rfl) ?_
  refine lv_iload_n hx hb dL_law_666 rfl (lv_at hl 0 rfl) ?_
  refine lv_iconst (v := nI 2) hx hb dL_law_667 (by decide) ?_
  refine cj_iaddN hx hb dL_law_668 ?_
  refine cj_sld hx hb hX hbl hbA V (by omega) (by omega) dL_law_669 ?_
  refine cj_lM X V (c_M_about l D kd am I.1 I.2.1 I.2.2.1 I.2.2.2.1 I.2.2.2.2.1 (fun r hr i hi => by cases hc : cj_tb (hz r) i with | false => rfl | true => exact absurd (I.2.2.2.2.2.2.1 r hr i hc) (by have := I.2.1 (ed r); omega)) (xs (i + 1)) (xs (i + 2))) 0 2 rfl rfl rfl ml_L_83 im_M_about se_M_about in_M cd_M_about hd_M_about ⟨by decide, by decide⟩ ⟨by decide, by decide⟩ hl.1 rfl (Nat.le_of_ble_eq_true rfl) dL_law_670 (fun r_M um H locs hwm V => ?_)
  obtain rfl := hwc
  obtain rfl := hwm
  refine lv_icmp_eq (tgt := 678) hx hb dL_law_673 (by decide) (fun _ => ?_) (fun h => absurd rfl h)
  exact kont _ _ ⟨_, _, _, _, _, _, _, _, _, _, _, _, _, _, _, _, _, _, _, _, _, I, V⟩
