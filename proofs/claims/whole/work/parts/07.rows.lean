-- the family wb_ of kit/laws/BITS.to-paste (a starting text)
theorem wb_tb (n : Nat) : (lN n).toBitVec = BitVec.ofNat 64 n := rfl
theorem wb_inj {a b : Int64} (h : a.toBitVec = b.toBitVec) : a = b := Int64.toBitVec_inj.mp h
theorem wb_tn {n : Nat} (h : n < 2 ^ 64) : (lN n).toBitVec.toNat = n := by rw [wb_tb, BitVec.toNat_ofNat, Nat.mod_eq_of_lt h]
theorem wb_of (x : Int64) : ∃ n, n < 2 ^ 64 ∧ x = lN n := ⟨x.toBitVec.toNat, x.toBitVec.isLt, wb_inj (by rw [wb_tb]; simp)⟩
theorem wb_of32 (x : Int32) : ∃ n, n < 2 ^ 32 ∧ x = nI n := ⟨x.toBitVec.toNat, x.toBitVec.isLt, Int32.toBitVec_inj.mp (by show _ = BitVec.ofNat 32 _; simp)⟩
theorem wb_c : ∀ k, k < 64 → ((nI k).toInt64 &&& 63) = lN k := by decide +kernel
theorem wb_cu : ∀ k, k < 64 → ((nI k).toInt64.toUInt64 &&& Int64.toUInt64 63) = UInt64.ofNat k := by decide +kernel
theorem wb_sm : ∀ k, k < 64 → (BitVec.ofNat 64 k).smod 64 = BitVec.ofNat 64 k := by decide +kernel
theorem wb_pw {a b : Nat} (h : a ≤ b) : 2 ^ b = 2 ^ a * 2 ^ (b - a) := by rw [← Nat.pow_add]; congr 1; omega
theorem wb_lt2 {a b : Nat} (h : a < b) : 2 ^ a < 2 ^ b := Nat.pow_lt_pow_right (by decide) h
theorem wb_mod (n : Nat) : lN n = lN (n % 2 ^ 64) := wb_inj (by rw [wb_tb, wb_tb]; apply BitVec.eq_of_toNat_eq; rw [BitVec.toNat_ofNat, BitVec.toNat_ofNat, Nat.mod_mod])
theorem wb_shr {n k : Nat} (hn : n < 2 ^ 64) (hk : k < 64) : ((lN n).toUInt64 >>> ((nI k).toInt64.toUInt64 &&& Int64.toUInt64 63)).toInt64 = lN (n / 2 ^ k) := by
  rw [wb_cu k hk]
  apply wb_inj
  apply BitVec.eq_of_toNat_eq
  show ((lN n).toUInt64 >>> UInt64.ofNat k).toNat = (BitVec.ofNat 64 _).toNat
  have h1 : (UInt64.ofNat k).toNat = k := by
    show (BitVec.ofNat 64 k).toNat = k
    rw [BitVec.toNat_ofNat, Nat.mod_eq_of_lt (by omega)]
  have h2 : (lN n).toUInt64.toNat = n := wb_tn hn
  rw [UInt64.toNat_shiftRight, h1, h2, Nat.mod_eq_of_lt hk, Nat.shiftRight_eq_div_pow, BitVec.toNat_ofNat, Nat.mod_eq_of_lt (Nat.lt_of_le_of_lt (Nat.div_le_self _ _) hn)]
theorem wb_shl (n : Nat) {k : Nat} (hk : k < 64) : lN n <<< ((nI k).toInt64 &&& 63) = lN (n * 2 ^ k) := by
  rw [wb_c k hk]
  apply wb_inj
  rw [Int64.toBitVec_shiftLeft, wb_tb, wb_tb, wb_tb, wb_sm k hk]
  apply BitVec.eq_of_toNat_eq
  rw [BitVec.shiftLeft_eq', BitVec.toNat_shiftLeft, BitVec.toNat_ofNat, BitVec.toNat_ofNat, BitVec.toNat_ofNat, Nat.mod_eq_of_lt (show k < 2 ^ 64 by omega), Nat.shiftLeft_eq, Nat.mul_mod, Nat.mod_mod, ← Nat.mul_mod]
theorem wb_and {a b : Nat} (ha : a < 2 ^ 64) (hb : b < 2 ^ 64) : lN a &&& lN b = lN (a &&& b) := by
  apply wb_inj
  rw [Int64.toBitVec_and, wb_tb, wb_tb, wb_tb]
  apply BitVec.eq_of_toNat_eq
  rw [BitVec.toNat_and, BitVec.toNat_ofNat, BitVec.toNat_ofNat, BitVec.toNat_ofNat, Nat.mod_eq_of_lt ha, Nat.mod_eq_of_lt hb, Nat.mod_eq_of_lt (Nat.and_lt_two_pow _ hb)]
theorem wb_or {a b : Nat} (ha : a < 2 ^ 64) (hb : b < 2 ^ 64) : lN a ||| lN b = lN (a ||| b) := by
  apply wb_inj
  rw [Int64.toBitVec_or, wb_tb, wb_tb, wb_tb]
  apply BitVec.eq_of_toNat_eq
  rw [BitVec.toNat_or, BitVec.toNat_ofNat, BitVec.toNat_ofNat, BitVec.toNat_ofNat, Nat.mod_eq_of_lt ha, Nat.mod_eq_of_lt hb, Nat.mod_eq_of_lt (Nat.or_lt_two_pow ha hb)]
theorem wb_mask {n k : Nat} (hn : n < 2 ^ 64) (hk : k < 64) : lN n &&& lN (2 ^ k - 1) = lN (n % 2 ^ k) := by
  rw [wb_and hn (by have := wb_lt2 hk; omega), Nat.and_two_pow_sub_one_eq_mod]
theorem wb_a1 {n : Nat} (hn : n < 2 ^ 64) : lN n &&& 1 = lN (n % 2) := wb_mask (k := 1) hn (by decide)
theorem wb_bit {n k : Nat} (hn : n < 2 ^ 64) (hk : k < 64) : ((lN n).toUInt64 >>> ((nI k).toInt64.toUInt64 &&& Int64.toUInt64 63)).toInt64 &&& 1 = lN (n / 2 ^ k % 2) := by
  rw [wb_shr hn hk, wb_a1 (Nat.lt_of_le_of_lt (Nat.div_le_self _ _) hn)]
-- ROWS: a contract's entry and end, numbers, branches
/-- one bit of a long -/
def cj_bit (k : Nat) : Int64 := lN (2 ^ k)
theorem cj_shl1 {k : Nat} (h : k < 64) : lN 1 <<< ((nI k).toInt64 &&& 63) = cj_bit k := by rw [wb_shl 1 h, Nat.one_mul]; rfl
theorem cj_inc (i : Nat) : nI i + Int32.ofInt 1 = nI (i + 1) := nI_1 i
theorem cj_dec (i : Nat) : nI (i + 1) + Int32.ofInt (-1) = nI i := pk_m1 i
theorem cj_inc5 (i : Nat) : nI i + Int32.ofInt 5 = nI (i + 5) := nI_add i 5
theorem cj_narZ {r : Int32} (h : r = nI 0 ∨ r = nI 1) : narrow .boolean (.int r) = .int r := by
  rcases h with rfl | rfl <;> decide
section CJ5
variable {p : Program} {l : Launch} {e : Env} {R : Room} {s : State} {m : MethodId} {args : Array Value} {below : List Frame} {meth : Method} {c : Code} {H : Heap} {locs : List Loc} {cells slots : Nat} {Q : State → Prop}
variable {cc : ByteArray} {pc nL : Nat} {own : String} {ls : Array Slot} {rest st0 : List Value} {D : va_G} {kd : Nat → ClassId} {A : Nat → Prop} {H0 : Heap} {w0 : va_W}
variable {y : MethodName} {bytes : ByteArray} {mx k index : Nat} {rt : Option FieldType} {S : Type} {w : S → va_W} {av : List Value}
/-- a contract out of its body -/
theorem cj_ofi {post : Int32 → S → Prop} (hy : plainName y.cls = true) (hav : (lg_sl av).length ≤ mx)
    (body : ∀ (p : Program) (e : Env) (s : State) (m : MethodId) (below : List Frame) (meth : Method) (c : Code) (A : Nat → Prop) (ls : Array Slot), cj_X p s m av.toArray c meth cc mx y.cls D kd → meth.sig.returnType = rt → cj_V D A s.heap w0 s.heap [] → lv_has ls mx (lv_args 0 av) →
      W p l e (cj_rm k) s m av.toArray below meth c s.heap [] 0 0 (MQ below (va_Qi post (cj_post D kd A w) A) av.toArray s 0 0 A) (F0 m 0 ls [])) : cj_Mi l y cc mx rt k D kd av w0 post w := by
  intro sz
  refine Met.ofW (cc := cc) (maxL := mx) (ret := rt) hy rfl ?_
  intro p e s m args below meth c s₁ B hml hv
  obtain ⟨rfl, hsz, hP, hK, hD0⟩ := hv
  subst hsz
  have hts := atoms_spec (ws := .code y cc mx rt :: cw_T) B.pre
  rw [lg_entry_eq]
  exact body p e s m below meth c _ _ ⟨⟨B.exec, B.bytes, hml, findClass_of_methodNamed B.named, fun w h => hts w (List.mem_cons_of_mem _ h)⟩, hK, B.notSynchronized⟩ B.returns ⟨hP, hD0.self, va_S.rf, fun q h => Or.inr h⟩ (lv_entry av hav)
/-- a contract out of its body -/
theorem cj_ofl {post : Int64 → S → Prop} (hy : plainName y.cls = true) (hav : (lg_sl av).length ≤ mx)
    (body : ∀ (p : Program) (e : Env) (s : State) (m : MethodId) (below : List Frame) (meth : Method) (c : Code) (A : Nat → Prop) (ls : Array Slot), cj_X p s m av.toArray c meth cc mx y.cls D kd → meth.sig.returnType = rt → cj_V D A s.heap w0 s.heap [] → lv_has ls mx (lv_args 0 av) →
      W p l e (cj_rm k) s m av.toArray below meth c s.heap [] 0 0 (MQ below (va_Ql post (cj_post D kd A w) A) av.toArray s 0 0 A) (F0 m 0 ls [])) : cj_Ml l y cc mx rt k D kd av w0 post w := by
  intro sz
  refine Met.ofW (cc := cc) (maxL := mx) (ret := rt) hy rfl ?_
  intro p e s m args below meth c s₁ B hml hv
  obtain ⟨rfl, hsz, hP, hK, hD0⟩ := hv
  subst hsz
  have hts := atoms_spec (ws := .code y cc mx rt :: cw_T) B.pre
  rw [lg_entry_eq]
  exact body p e s m below meth c _ _ ⟨⟨B.exec, B.bytes, hml, findClass_of_methodNamed B.named, fun w h => hts w (List.mem_cons_of_mem _ h)⟩, hK, B.notSynchronized⟩ B.returns ⟨hP, hD0.self, va_S.rf, fun q h => Or.inr h⟩ (lv_entry av hav)
theorem cj_ofv {post : S → Prop} (hy : plainName y.cls = true) (hav : (lg_sl av).length ≤ mx)
    (body : ∀ (p : Program) (e : Env) (s : State) (m : MethodId) (below : List Frame) (meth : Method) (c : Code) (A : Nat → Prop) (ls : Array Slot), cj_X p s m av.toArray c meth cc mx y.cls D kd → meth.sig.returnType = rt → cj_V D A s.heap w0 s.heap [] → lv_has ls mx (lv_args 0 av) →
      W p l e (cj_rm k) s m av.toArray below meth c s.heap [] 0 0 (MQ below (va_Qv post (cj_post D kd A w) A) av.toArray s 0 0 A) (F0 m 0 ls [])) : cj_Mv l y cc mx rt k D kd av w0 post w := by
  intro sz
  refine Met.ofW (cc := cc) (maxL := mx) (ret := rt) hy rfl ?_
  intro p e s m args below meth c s₁ B hml hv
  obtain ⟨rfl, hsz, hP, hK, hD0⟩ := hv
  subst hsz
  have hts := atoms_spec (ws := .code y cc mx rt :: cw_T) B.pre
  rw [lg_entry_eq]
  exact body p e s m below meth c _ _ ⟨⟨B.exec, B.bytes, hml, findClass_of_methodNamed B.named, fun w h => hts w (List.mem_cons_of_mem _ h)⟩, hK, B.notSynchronized⟩ B.returns ⟨hP, hD0.self, va_S.rf, fun q h => Or.inr h⟩ (lv_entry av hav)
theorem cj_reti {post : Int32 → S → Prop} {r : Int32} (u : S) (X : cj_X p s m args c meth cc nL own D kd) (hr : meth.sig.returnType = some .int) (V : cj_V D A s.heap (w u) H locs) (hp : post r u) (hdg : decode cc pc = .ok (.ireturn, 1)) : W p l e R s m args below meth c H locs 0 0 (MQ below (va_Qi post (cj_post D kd A w) A) args s 0 0 A) (F0 m pc ls [.int r]) := by
  obtain ⟨⟨hx, hb, -, -, -⟩, hK, hlocks⟩ := X
  exact W.iret hx hb hr (fun t ht hW => ⟨⟨r, u, rfl, hp, by rw [ht]; exact V.1, va_K.moved hW.alike hK, V.2.1⟩, V.2.2.1.F ht⟩) V.2.2.1.2.2 hdg
theorem cj_retz {post : Int32 → S → Prop} {r : Int32} (u : S) (X : cj_X p s m args c meth cc nL own D kd) (hr : meth.sig.returnType = some .boolean) (V : cj_V D A s.heap (w u) H locs) (hz : r = nI 0 ∨ r = nI 1) (hp : post r u) (hdg : decode cc pc = .ok (.ireturn, 1)) : W p l e R s m args below meth c H locs 0 0 (MQ below (va_Qi post (cj_post D kd A w) A) args s 0 0 A) (F0 m pc ls [.int r]) := by
  obtain ⟨⟨hx, hb, -, -, -⟩, hK, hlocks⟩ := X
  exact W.zret hx hb hr (cj_narZ hz) (fun t ht hW => ⟨⟨r, u, rfl, hp, by rw [ht]; exact V.1, va_K.moved hW.alike hK, V.2.1⟩, V.2.2.1.F ht⟩) V.2.2.1.2.2 hdg
theorem cj_retl {post : Int64 → S → Prop} {r : Int64} (u : S) (X : cj_X p s m args c meth cc nL own D kd) (hr : meth.sig.returnType = some .long) (V : cj_V D A s.heap (w u) H locs) (hp : post r u) (hdg : decode cc pc = .ok (.lreturn, 1)) : W p l e R s m args below meth c H locs 0 0 (MQ below (va_Ql post (cj_post D kd A w) A) args s 0 0 A) (F0 m pc ls [.long r]) := by
  obtain ⟨⟨hx, hb, -, -, -⟩, hK, hlocks⟩ := X
  exact W.lret hx hb hr (fun t ht hW => ⟨⟨r, u, rfl, hp, by rw [ht]; exact V.1, va_K.moved hW.alike hK, V.2.1⟩, V.2.2.1.F ht⟩) V.2.2.1.2.2 hdg
theorem cj_retv {post : S → Prop} (u : S) (X : cj_X p s m args c meth cc nL own D kd) (hr : meth.sig.returnType = none) (V : cj_V D A s.heap (w u) H locs) (hp : post u) (hdg : decode cc pc = .ok (.return_, 1)) : W p l e R s m args below meth c H locs 0 0 (MQ below (va_Qv post (cj_post D kd A w) A) args s 0 0 A) (F0 m pc ls []) := by
  obtain ⟨⟨hx, hb, -, -, -⟩, hK, hlocks⟩ := X
  exact W.vret hx hb hr (fun t ht hW => ⟨⟨u, rfl, hp, by rw [ht]; exact V.1, va_K.moved hW.alike hK, V.2.1⟩, V.2.2.1.F ht⟩) V.2.2.1.2.2 hdg
theorem cj_Vn (V : cj_V D A H0 w0 H locs) : cj_V D A H0 (w0 ++ []) H locs := by rw [List.append_nil]; exact V
theorem cj_nV (V : cj_V D A H0 (w0 ++ []) H locs) : cj_V D A H0 w0 H locs := by rw [List.append_nil] at V; exact V
theorem cj_cvi {post : Int32 → S → Prop} {b : Nat} {As : List Value} {C : String} (X : cj_X p s m args c meth cc nL own D kd) (V : cj_V D A H0 w0 H locs)
    (hM : cj_Mi l y bytes mx rt k D kd (.ref b :: As) w0 post w) (q0 ci : Nat) {fs : List Value} {r : vw_C} (hrecv : w0[q0]? = some (b, .inr (ci, fs))) (hci : cj_cl[ci]? = some r) (hrC : r.1 = C)
    (hl : Cond.methodLink own index y ∈ cw_T) (hi : Cond.instanceMethod y ∈ cw_T) (hs : Cond.selects C y y ∈ cw_T) (hn : Cond.initialized C ∈ cw_T) (hc : Cond.code y bytes mx rt ∈ cw_T)
    (hd : y.cls = C ∧ y.cls ≠ "java/lang/invoke/MethodHandle" ∧ y.cls ≠ "java/lang/invoke/VarHandle" ∧ (parseMethodDescriptor y.desc).map (fun d => d.parameters.length) = some As.length) (hR : k + 1 ≤ R.frames ∧ 8 + (mx + 11) + 40 * k ≤ R.locals) (hRc : cells ≤ R.cells ∧ slots ≤ R.slots)
    (hsize : ls.size = nL) (hst : st0 = As.reverse ++ .ref b :: rest) (hW : (rest.map fun v => v.category).sum ≤ 8) (hdg : decode cc pc = .ok (.invokevirtual index, 3))
    (kk : ∀ (r : Int32) (u : S) (H1 : Heap) (locs1 : List Loc), post r u → cj_V D A H0 (w u) H1 locs1 → W p l e R s m args below meth c H1 locs1 cells slots Q (F0 m (pc + 3) ls (.int r :: rest))) : W p l e R s m args below meth c H locs cells slots Q (F0 m pc ls st0) :=
  cj_afteri (wr := []) (cj_Vn V) (cj_runV X (cj_Vn V) (hM H.size) q0 ci hrecv hci hrC hl hi hs hn hc hd hR hRc hsize hst hW hdg) (fun r u H1 locs1 hp V1 => kk r u H1 locs1 hp (cj_nV V1))
theorem cj_csi {post : Int32 → S → Prop} {As : List Value} (X : cj_X p s m args c meth cc nL own D kd) (V : cj_V D A H0 w0 H locs)
    (hM : cj_Mi l y bytes mx rt k D kd As w0 post w)
    (hl : Cond.methodLink own index y ∈ cw_T) (hs : Cond.static y ∈ cw_T) (hn : Cond.initialized y.cls ∈ cw_T) (hc : Cond.code y bytes mx rt ∈ cw_T)
    (hd : y.cls ≠ "java/lang/invoke/MethodHandle" ∧ y.cls ≠ "java/lang/invoke/VarHandle" ∧ (parseMethodDescriptor y.desc).map (fun d => d.parameters.length) = some As.length) (hR : k + 1 ≤ R.frames ∧ 8 + (mx + 11) + 40 * k ≤ R.locals) (hRc : cells ≤ R.cells ∧ slots ≤ R.slots)
    (hsize : ls.size = nL) (hst : st0 = As.reverse ++ rest) (hW : (rest.map fun v => v.category).sum ≤ 8) (hdg : decode cc pc = .ok (.invokestatic index, 3))
    (kk : ∀ (r : Int32) (u : S) (H1 : Heap) (locs1 : List Loc), post r u → cj_V D A H0 (w u) H1 locs1 → W p l e R s m args below meth c H1 locs1 cells slots Q (F0 m (pc + 3) ls (.int r :: rest))) : W p l e R s m args below meth c H locs cells slots Q (F0 m pc ls st0) :=
  cj_afteri (wr := []) (cj_Vn V) (cj_runS X (cj_Vn V) (hM H.size) hl hs hn hc hd hR hRc hsize hst hW hdg) (fun r u H1 locs1 hp V1 => kk r u H1 locs1 hp (cj_nV V1))
theorem cj_cvl {post : Int64 → S → Prop} {b : Nat} {As : List Value} {C : String} (X : cj_X p s m args c meth cc nL own D kd) (V : cj_V D A H0 w0 H locs)
    (hM : cj_Ml l y bytes mx rt k D kd (.ref b :: As) w0 post w) (q0 ci : Nat) {fs : List Value} {r : vw_C} (hrecv : w0[q0]? = some (b, .inr (ci, fs))) (hci : cj_cl[ci]? = some r) (hrC : r.1 = C)
    (hl : Cond.methodLink own index y ∈ cw_T) (hi : Cond.instanceMethod y ∈ cw_T) (hs : Cond.selects C y y ∈ cw_T) (hn : Cond.initialized C ∈ cw_T) (hc : Cond.code y bytes mx rt ∈ cw_T)
    (hd : y.cls = C ∧ y.cls ≠ "java/lang/invoke/MethodHandle" ∧ y.cls ≠ "java/lang/invoke/VarHandle" ∧ (parseMethodDescriptor y.desc).map (fun d => d.parameters.length) = some As.length) (hR : k + 1 ≤ R.frames ∧ 8 + (mx + 11) + 40 * k ≤ R.locals) (hRc : cells ≤ R.cells ∧ slots ≤ R.slots)
    (hsize : ls.size = nL) (hst : st0 = As.reverse ++ .ref b :: rest) (hW : (rest.map fun v => v.category).sum ≤ 8) (hdg : decode cc pc = .ok (.invokevirtual index, 3))
    (kk : ∀ (r : Int64) (u : S) (H1 : Heap) (locs1 : List Loc), post r u → cj_V D A H0 (w u) H1 locs1 → W p l e R s m args below meth c H1 locs1 cells slots Q (F0 m (pc + 3) ls (.long r :: rest))) : W p l e R s m args below meth c H locs cells slots Q (F0 m pc ls st0) :=
  cj_afterl (wr := []) (cj_Vn V) (cj_runV X (cj_Vn V) (hM H.size) q0 ci hrecv hci hrC hl hi hs hn hc hd hR hRc hsize hst hW hdg) (fun r u H1 locs1 hp V1 => kk r u H1 locs1 hp (cj_nV V1))
theorem cj_csl {post : Int64 → S → Prop} {As : List Value} (X : cj_X p s m args c meth cc nL own D kd) (V : cj_V D A H0 w0 H locs)
    (hM : cj_Ml l y bytes mx rt k D kd As w0 post w)
    (hl : Cond.methodLink own index y ∈ cw_T) (hs : Cond.static y ∈ cw_T) (hn : Cond.initialized y.cls ∈ cw_T) (hc : Cond.code y bytes mx rt ∈ cw_T)
    (hd : y.cls ≠ "java/lang/invoke/MethodHandle" ∧ y.cls ≠ "java/lang/invoke/VarHandle" ∧ (parseMethodDescriptor y.desc).map (fun d => d.parameters.length) = some As.length) (hR : k + 1 ≤ R.frames ∧ 8 + (mx + 11) + 40 * k ≤ R.locals) (hRc : cells ≤ R.cells ∧ slots ≤ R.slots)
    (hsize : ls.size = nL) (hst : st0 = As.reverse ++ rest) (hW : (rest.map fun v => v.category).sum ≤ 8) (hdg : decode cc pc = .ok (.invokestatic index, 3))
    (kk : ∀ (r : Int64) (u : S) (H1 : Heap) (locs1 : List Loc), post r u → cj_V D A H0 (w u) H1 locs1 → W p l e R s m args below meth c H1 locs1 cells slots Q (F0 m (pc + 3) ls (.long r :: rest))) : W p l e R s m args below meth c H locs cells slots Q (F0 m pc ls st0) :=
  cj_afterl (wr := []) (cj_Vn V) (cj_runS X (cj_Vn V) (hM H.size) hl hs hn hc hd hR hRc hsize hst hW hdg) (fun r u H1 locs1 hp V1 => kk r u H1 locs1 hp (cj_nV V1))
theorem cj_cvv {post : S → Prop} {b : Nat} {As : List Value} {C : String} (X : cj_X p s m args c meth cc nL own D kd) (V : cj_V D A H0 w0 H locs)
    (hM : cj_Mv l y bytes mx rt k D kd (.ref b :: As) w0 post w) (q0 ci : Nat) {fs : List Value} {r : vw_C} (hrecv : w0[q0]? = some (b, .inr (ci, fs))) (hci : cj_cl[ci]? = some r) (hrC : r.1 = C)
    (hl : Cond.methodLink own index y ∈ cw_T) (hi : Cond.instanceMethod y ∈ cw_T) (hs : Cond.selects C y y ∈ cw_T) (hn : Cond.initialized C ∈ cw_T) (hc : Cond.code y bytes mx rt ∈ cw_T)
    (hd : y.cls = C ∧ y.cls ≠ "java/lang/invoke/MethodHandle" ∧ y.cls ≠ "java/lang/invoke/VarHandle" ∧ (parseMethodDescriptor y.desc).map (fun d => d.parameters.length) = some As.length) (hR : k + 1 ≤ R.frames ∧ 8 + (mx + 11) + 40 * k ≤ R.locals) (hRc : cells ≤ R.cells ∧ slots ≤ R.slots)
    (hsize : ls.size = nL) (hst : st0 = As.reverse ++ .ref b :: rest) (hW : (rest.map fun v => v.category).sum ≤ 8) (hdg : decode cc pc = .ok (.invokevirtual index, 3))
    (kk : ∀ (u : S) (H1 : Heap) (locs1 : List Loc), post u → cj_V D A H0 (w u) H1 locs1 → W p l e R s m args below meth c H1 locs1 cells slots Q (F0 m (pc + 3) ls (rest))) : W p l e R s m args below meth c H locs cells slots Q (F0 m pc ls st0) :=
  cj_afterv (wr := []) (cj_Vn V) (cj_runV X (cj_Vn V) (hM H.size) q0 ci hrecv hci hrC hl hi hs hn hc hd hR hRc hsize hst hW hdg) (fun u H1 locs1 hp V1 => kk u H1 locs1 hp (cj_nV V1))
theorem cj_csv {post : S → Prop} {As : List Value} (X : cj_X p s m args c meth cc nL own D kd) (V : cj_V D A H0 w0 H locs)
    (hM : cj_Mv l y bytes mx rt k D kd As w0 post w)
    (hl : Cond.methodLink own index y ∈ cw_T) (hs : Cond.static y ∈ cw_T) (hn : Cond.initialized y.cls ∈ cw_T) (hc : Cond.code y bytes mx rt ∈ cw_T)
    (hd : y.cls ≠ "java/lang/invoke/MethodHandle" ∧ y.cls ≠ "java/lang/invoke/VarHandle" ∧ (parseMethodDescriptor y.desc).map (fun d => d.parameters.length) = some As.length) (hR : k + 1 ≤ R.frames ∧ 8 + (mx + 11) + 40 * k ≤ R.locals) (hRc : cells ≤ R.cells ∧ slots ≤ R.slots)
    (hsize : ls.size = nL) (hst : st0 = As.reverse ++ rest) (hW : (rest.map fun v => v.category).sum ≤ 8) (hdg : decode cc pc = .ok (.invokestatic index, 3))
    (kk : ∀ (u : S) (H1 : Heap) (locs1 : List Loc), post u → cj_V D A H0 (w u) H1 locs1 → W p l e R s m args below meth c H1 locs1 cells slots Q (F0 m (pc + 3) ls (rest))) : W p l e R s m args below meth c H locs cells slots Q (F0 m pc ls st0) :=
  cj_afterv (wr := []) (cj_Vn V) (cj_runS X (cj_Vn V) (hM H.size) hl hs hn hc hd hR hRc hsize hst hW hdg) (fun u H1 locs1 hp V1 => kk u H1 locs1 hp (cj_nV V1))
theorem cj_ti {x z : Int32} (h : x = z) (kk : W p l e R s m args below meth c H locs cells slots Q (F0 m pc ls (.int z :: rest))) : W p l e R s m args below meth c H locs cells slots Q (F0 m pc ls (.int x :: rest)) := h ▸ kk
theorem cj_tl {x z : Int64} (h : x = z) (kk : W p l e R s m args below meth c H locs cells slots Q (F0 m pc ls (.long z :: rest))) : W p l e R s m args below meth c H locs cells slots Q (F0 m pc ls (.long x :: rest)) := h ▸ kk
theorem cj_iaddN (hx : p.tables.exec = Jvm.exec) (hb : c.code = cc) {a b : Nat} (hdg : decode cc pc = .ok (.iadd, 1)) (kk : W p l e R s m args below meth c H locs cells slots Q (F0 m (pc + 1) ls (.int (nI (a + b)) :: rest))) : W p l e R s m args below meth c H locs cells slots Q (F0 m pc ls (.int (nI b) :: .int (nI a) :: rest)) := lv_iadd hx hb hdg (cj_ti (nI_add a b) kk)
theorem cj_isubN (hx : p.tables.exec = Jvm.exec) (hb : c.code = cc) {a b : Nat} (h : b ≤ a) (hdg : decode cc pc = .ok (.isub, 1)) (kk : W p l e R s m args below meth c H locs cells slots Q (F0 m (pc + 1) ls (.int (nI (a - b)) :: rest))) : W p l e R s m args below meth c H locs cells slots Q (F0 m pc ls (.int (nI b) :: .int (nI a) :: rest)) := lv_isub hx hb hdg (cj_ti (pk_sub h) kk)
theorem cj_imulN (hx : p.tables.exec = Jvm.exec) (hb : c.code = cc) {a b : Nat} (hdg : decode cc pc = .ok (.imul, 1)) (kk : W p l e R s m args below meth c H locs cells slots Q (F0 m (pc + 1) ls (.int (nI (a * b)) :: rest))) : W p l e R s m args below meth c H locs cells slots Q (F0 m pc ls (.int (nI b) :: .int (nI a) :: rest)) := lv_imul hx hb hdg (cj_ti (pk_mul a b) kk)
theorem cj_n_lt (hx : p.tables.exec = Jvm.exec) (hb : c.code = cc) {a b : Nat} {off : Int} {tgt : Nat} (hdg : decode cc pc = .ok (.if_icmp .lt off, 3)) (ht : (pc : Int) + off = (tgt : Int)) (ha : a < 2 ^ 31) (hb2 : b < 2 ^ 31) (kt : a < b → W p l e R s m args below meth c H locs cells slots Q (F0 m tgt ls rest)) (kf : b ≤ a → W p l e R s m args below meth c H locs cells slots Q (F0 m (pc + 3) ls rest)) : W p l e R s m args below meth c H locs cells slots Q (F0 m pc ls (.int (nI b) :: .int (nI a) :: rest)) := lv_icmp_lt hx hb hdg ht (fun h => kt ((nI_ltI ha hb2).mp h)) (fun h => kf (Nat.not_lt.mp (fun h2 => h ((nI_ltI ha hb2).mpr h2))))
theorem cj_n_ge (hx : p.tables.exec = Jvm.exec) (hb : c.code = cc) {a b : Nat} {off : Int} {tgt : Nat} (hdg : decode cc pc = .ok (.if_icmp .ge off, 3)) (ht : (pc : Int) + off = (tgt : Int)) (ha : a < 2 ^ 31) (hb2 : b < 2 ^ 31) (kt : b ≤ a → W p l e R s m args below meth c H locs cells slots Q (F0 m tgt ls rest)) (kf : a < b → W p l e R s m args below meth c H locs cells slots Q (F0 m (pc + 3) ls rest)) : W p l e R s m args below meth c H locs cells slots Q (F0 m pc ls (.int (nI b) :: .int (nI a) :: rest)) := lv_icmp_ge hx hb hdg ht (fun h => kt ((nI_leI hb2 ha).mp h)) (fun h => kf (Nat.not_le.mp (fun h2 => h ((nI_leI hb2 ha).mpr h2))))
theorem cj_n_gt (hx : p.tables.exec = Jvm.exec) (hb : c.code = cc) {a b : Nat} {off : Int} {tgt : Nat} (hdg : decode cc pc = .ok (.if_icmp .gt off, 3)) (ht : (pc : Int) + off = (tgt : Int)) (ha : a < 2 ^ 31) (hb2 : b < 2 ^ 31) (kt : b < a → W p l e R s m args below meth c H locs cells slots Q (F0 m tgt ls rest)) (kf : a ≤ b → W p l e R s m args below meth c H locs cells slots Q (F0 m (pc + 3) ls rest)) : W p l e R s m args below meth c H locs cells slots Q (F0 m pc ls (.int (nI b) :: .int (nI a) :: rest)) := lv_icmp_gt hx hb hdg ht (fun h => kt ((nI_ltI hb2 ha).mp h)) (fun h => kf (Nat.not_lt.mp (fun h2 => h ((nI_ltI hb2 ha).mpr h2))))
theorem cj_n_le (hx : p.tables.exec = Jvm.exec) (hb : c.code = cc) {a b : Nat} {off : Int} {tgt : Nat} (hdg : decode cc pc = .ok (.if_icmp .le off, 3)) (ht : (pc : Int) + off = (tgt : Int)) (ha : a < 2 ^ 31) (hb2 : b < 2 ^ 31) (kt : a ≤ b → W p l e R s m args below meth c H locs cells slots Q (F0 m tgt ls rest)) (kf : b < a → W p l e R s m args below meth c H locs cells slots Q (F0 m (pc + 3) ls rest)) : W p l e R s m args below meth c H locs cells slots Q (F0 m pc ls (.int (nI b) :: .int (nI a) :: rest)) := lv_icmp_le hx hb hdg ht (fun h => kt ((nI_leI ha hb2).mp h)) (fun h => kf (Nat.not_le.mp (fun h2 => h ((nI_leI ha hb2).mpr h2))))
theorem cj_n_eq (hx : p.tables.exec = Jvm.exec) (hb : c.code = cc) {a b : Nat} {off : Int} {tgt : Nat} (hdg : decode cc pc = .ok (.if_icmp .eq off, 3)) (ht : (pc : Int) + off = (tgt : Int)) (ha : a < 2 ^ 31) (hb2 : b < 2 ^ 31) (kt : a = b → W p l e R s m args below meth c H locs cells slots Q (F0 m tgt ls rest)) (kf : a ≠ b → W p l e R s m args below meth c H locs cells slots Q (F0 m (pc + 3) ls rest)) : W p l e R s m args below meth c H locs cells slots Q (F0 m pc ls (.int (nI b) :: .int (nI a) :: rest)) := lv_icmp_eq hx hb hdg ht (fun h => kt ((nI_eq ha hb2).mp h)) (fun h => kf ( (fun h2 => h ((nI_eq ha hb2).mpr h2))))
theorem cj_n_ne (hx : p.tables.exec = Jvm.exec) (hb : c.code = cc) {a b : Nat} {off : Int} {tgt : Nat} (hdg : decode cc pc = .ok (.if_icmp .ne off, 3)) (ht : (pc : Int) + off = (tgt : Int)) (ha : a < 2 ^ 31) (hb2 : b < 2 ^ 31) (kt : a ≠ b → W p l e R s m args below meth c H locs cells slots Q (F0 m tgt ls rest)) (kf : a = b → W p l e R s m args below meth c H locs cells slots Q (F0 m (pc + 3) ls rest)) : W p l e R s m args below meth c H locs cells slots Q (F0 m pc ls (.int (nI b) :: .int (nI a) :: rest)) := lv_icmp_ne hx hb hdg ht (fun h => kt (fun e => h (by rw [e]))) (fun h => kf ((nI_eq ha hb2).mp h))
theorem cj_z_eq (hx : p.tables.exec = Jvm.exec) (hb : c.code = cc) {a : Nat} {off : Int} {tgt : Nat} (hdg : decode cc pc = .ok (.ifCond .eq off, 3)) (ht : (pc : Int) + off = (tgt : Int)) (ha : a < 2 ^ 31) (kt : a = 0 → W p l e R s m args below meth c H locs cells slots Q (F0 m tgt ls rest)) (kf : a ≠ 0 → W p l e R s m args below meth c H locs cells slots Q (F0 m (pc + 3) ls rest)) : W p l e R s m args below meth c H locs cells slots Q (F0 m pc ls (.int (nI a) :: rest)) := lv_if_eq hx hb hdg ht (fun h => kt ((nI_eq ha (by decide)).mp (h.trans nI_0.symm))) (fun h => kf (fun e => h (by rw [e]; exact nI_0)))
theorem cj_z_ne (hx : p.tables.exec = Jvm.exec) (hb : c.code = cc) {a : Nat} {off : Int} {tgt : Nat} (hdg : decode cc pc = .ok (.ifCond .ne off, 3)) (ht : (pc : Int) + off = (tgt : Int)) (ha : a < 2 ^ 31) (kt : a ≠ 0 → W p l e R s m args below meth c H locs cells slots Q (F0 m tgt ls rest)) (kf : a = 0 → W p l e R s m args below meth c H locs cells slots Q (F0 m (pc + 3) ls rest)) : W p l e R s m args below meth c H locs cells slots Q (F0 m pc ls (.int (nI a) :: rest)) := lv_if_ne hx hb hdg ht (fun h => kt (fun e => h (by rw [e]; exact nI_0))) (fun h => kf ((nI_eq ha (by decide)).mp (h.trans nI_0.symm)))
theorem cj_z_lt (hx : p.tables.exec = Jvm.exec) (hb : c.code = cc) {a : Nat} {off : Int} {tgt : Nat} (hdg : decode cc pc = .ok (.ifCond .lt off, 3)) (ha : a < 2 ^ 31) (ht : (pc : Int) + off = (tgt : Int)) (kf : W p l e R s m args below meth c H locs cells slots Q (F0 m (pc + 3) ls rest)) : W p l e R s m args below meth c H locs cells slots Q (F0 m pc ls (.int (nI a) :: rest)) := lv_if_lt hx hb hdg ht (fun h => absurd h (nI_pos ha)) (fun _ => kf)
theorem cj_b_eq (hx : p.tables.exec = Jvm.exec) (hb : c.code = cc) {b : Bool} {off : Int} {tgt : Nat} (hdg : decode cc pc = .ok (.ifCond .eq off, 3)) (ht : (pc : Int) + off = (tgt : Int)) (kt : b = false → W p l e R s m args below meth c H locs cells slots Q (F0 m tgt ls rest)) (kf : b = true → W p l e R s m args below meth c H locs cells slots Q (F0 m (pc + 3) ls rest)) : W p l e R s m args below meth c H locs cells slots Q (F0 m pc ls (.int (bI b) :: rest)) := by
  cases b
  · exact lv_if_eq hx hb hdg ht (fun _ => kt rfl) (fun h => absurd (by decide) h)
  · exact lv_if_eq hx hb hdg ht (fun h => absurd h (by decide)) (fun _ => kf rfl)
theorem cj_b_ne (hx : p.tables.exec = Jvm.exec) (hb : c.code = cc) {b : Bool} {off : Int} {tgt : Nat} (hdg : decode cc pc = .ok (.ifCond .ne off, 3)) (ht : (pc : Int) + off = (tgt : Int)) (kt : b = true → W p l e R s m args below meth c H locs cells slots Q (F0 m tgt ls rest)) (kf : b = false → W p l e R s m args below meth c H locs cells slots Q (F0 m (pc + 3) ls rest)) : W p l e R s m args below meth c H locs cells slots Q (F0 m pc ls (.int (bI b) :: rest)) := by
  cases b
  · exact lv_if_ne hx hb hdg ht (fun h => absurd (by decide) h) (fun _ => kf rfl)
  · exact lv_if_ne hx hb hdg ht (fun _ => kt rfl) (fun h => absurd h (by decide))
theorem cj_l_eq (hx : p.tables.exec = Jvm.exec) (hb : c.code = cc) {x y2 : Int64} {off : Int} {tgt : Nat} (hd0 : decode cc pc = .ok (.lcmp, 1)) (hdg : decode cc (pc + 1) = .ok (.ifCond .eq off, 3)) (ht : ((pc + 1 : Nat) : Int) + off = (tgt : Int)) (kt : x = y2 → W p l e R s m args below meth c H locs cells slots Q (F0 m tgt ls rest)) (kf : ¬ (x = y2) → W p l e R s m args below meth c H locs cells slots Q (F0 m (pc + 1 + 3) ls rest)) : W p l e R s m args below meth c H locs cells slots Q (F0 m pc ls (.long y2 :: .long x :: rest)) := W.lcmp hx hb hd0 (lv_if_eq hx hb hdg ht (fun h => kt ((lg_cmp_eq x y2).mp h)) (fun h => kf (fun h2 => h ((lg_cmp_eq x y2).mpr h2))))
theorem cj_l_ne (hx : p.tables.exec = Jvm.exec) (hb : c.code = cc) {x y2 : Int64} {off : Int} {tgt : Nat} (hd0 : decode cc pc = .ok (.lcmp, 1)) (hdg : decode cc (pc + 1) = .ok (.ifCond .ne off, 3)) (ht : ((pc + 1 : Nat) : Int) + off = (tgt : Int)) (kt : ¬ x = y2 → W p l e R s m args below meth c H locs cells slots Q (F0 m tgt ls rest)) (kf : x = y2 → W p l e R s m args below meth c H locs cells slots Q (F0 m (pc + 1 + 3) ls rest)) : W p l e R s m args below meth c H locs cells slots Q (F0 m pc ls (.long y2 :: .long x :: rest)) := W.lcmp hx hb hd0 (lv_if_ne hx hb hdg ht (fun h => kt (fun e => h ((lg_cmp_eq x y2).mpr e))) (fun h => kf ((lg_cmp_eq x y2).mp h)))
theorem cj_l_lt (hx : p.tables.exec = Jvm.exec) (hb : c.code = cc) {x y2 : Int64} {off : Int} {tgt : Nat} (hd0 : decode cc pc = .ok (.lcmp, 1)) (hdg : decode cc (pc + 1) = .ok (.ifCond .lt off, 3)) (ht : ((pc + 1 : Nat) : Int) + off = (tgt : Int)) (kt : x < y2 → W p l e R s m args below meth c H locs cells slots Q (F0 m tgt ls rest)) (kf : ¬ (x < y2) → W p l e R s m args below meth c H locs cells slots Q (F0 m (pc + 1 + 3) ls rest)) : W p l e R s m args below meth c H locs cells slots Q (F0 m pc ls (.long y2 :: .long x :: rest)) := W.lcmp hx hb hd0 (lv_if_lt hx hb hdg ht (fun h => kt ((lg_cmp_lt x y2).mp h)) (fun h => kf (fun h2 => h ((lg_cmp_lt x y2).mpr h2))))
theorem cj_l_ge (hx : p.tables.exec = Jvm.exec) (hb : c.code = cc) {x y2 : Int64} {off : Int} {tgt : Nat} (hd0 : decode cc pc = .ok (.lcmp, 1)) (hdg : decode cc (pc + 1) = .ok (.ifCond .ge off, 3)) (ht : ((pc + 1 : Nat) : Int) + off = (tgt : Int)) (kt : y2 ≤ x → W p l e R s m args below meth c H locs cells slots Q (F0 m tgt ls rest)) (kf : ¬ (y2 ≤ x) → W p l e R s m args below meth c H locs cells slots Q (F0 m (pc + 1 + 3) ls rest)) : W p l e R s m args below meth c H locs cells slots Q (F0 m pc ls (.long y2 :: .long x :: rest)) := W.lcmp hx hb hd0 (lv_if_ge hx hb hdg ht (fun h => kt ((lg_cmp_ge x y2).mp h)) (fun h => kf (fun h2 => h ((lg_cmp_ge x y2).mpr h2))))
theorem cj_l_le (hx : p.tables.exec = Jvm.exec) (hb : c.code = cc) {x y2 : Int64} {off : Int} {tgt : Nat} (hd0 : decode cc pc = .ok (.lcmp, 1)) (hdg : decode cc (pc + 1) = .ok (.ifCond .le off, 3)) (ht : ((pc + 1 : Nat) : Int) + off = (tgt : Int)) (kt : x ≤ y2 → W p l e R s m args below meth c H locs cells slots Q (F0 m tgt ls rest)) (kf : ¬ (x ≤ y2) → W p l e R s m args below meth c H locs cells slots Q (F0 m (pc + 1 + 3) ls rest)) : W p l e R s m args below meth c H locs cells slots Q (F0 m pc ls (.long y2 :: .long x :: rest)) := W.lcmp hx hb hd0 (lv_if_le hx hb hdg ht (fun h => kt ((lg_cmp_le x y2).mp h)) (fun h => kf (fun h2 => h ((lg_cmp_le x y2).mpr h2))))
theorem cj_l_gt (hx : p.tables.exec = Jvm.exec) (hb : c.code = cc) {x y2 : Int64} {off : Int} {tgt : Nat} (hd0 : decode cc pc = .ok (.lcmp, 1)) (hdg : decode cc (pc + 1) = .ok (.ifCond .gt off, 3)) (ht : ((pc + 1 : Nat) : Int) + off = (tgt : Int)) (kt : y2 < x → W p l e R s m args below meth c H locs cells slots Q (F0 m tgt ls rest)) (kf : ¬ (y2 < x) → W p l e R s m args below meth c H locs cells slots Q (F0 m (pc + 1 + 3) ls rest)) : W p l e R s m args below meth c H locs cells slots Q (F0 m pc ls (.long y2 :: .long x :: rest)) := W.lcmp hx hb hd0 (lv_if_gt hx hb hdg ht (fun h => kt ((lg_cmp_gt x y2).mp h)) (fun h => kf (fun h2 => h ((lg_cmp_gt x y2).mpr h2))))
end CJ5
