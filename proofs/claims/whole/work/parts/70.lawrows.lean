-- rows of kit/laws/SKELETON.whole (a starting text)
/-! THE CLAIM OUT OF ONE WALK OF THE LAW'S BODY. Your part is whole_start (and what it stands on); all else here is the same for every law, but numbers. -/
def R_law : String := "CoverJoinLaw"
def lw_P (b : Addr) (xs : List Int32) (args : Array Value) (s : State) : Prop := args = #[.ref b] ∧ s.IntsAt b xs ∧ xs.length ≤ 2560 ∧ (Jvm.Cond.and given_1 narrow_1).before args s = true
def lw_Q (_ : Array Value) (s : State) (o : Outcome) (t : State) : Prop := o = .returned (some (.int 1)) ∧ Framed s o t [] 600000 7302250
def lw_Z (below : List Frame) (a : Array Value) (s : State) : State → Prop := fun t => ∃ o, t.status = .running ∧ Ended t below o ∧ lw_Q a s o t
/-- the law's own end, with 1 on the stack, nothing written that was there before, its room as the claim has it -/
theorem lw_ret {p : Program} {l : Launch} {e : Env} {s : State} {m : MethodId} {below : List Frame} {meth : Method} {c : Code} {b : Nat} (hx : p.tables.exec = Jvm.exec) (hb : c.code = code) (hr : meth.sig.returnType = ret) (hlocks : meth.locks = false) {pc : Nat} {H : Heap} {ls : Array Slot} (hdg : decode code pc = .ok (.ireturn, 1)) : W p l e room_1 s m #[Value.ref b] below meth c H [] 600000 7302250 (lw_Z below #[Value.ref b] s) (F0 m pc ls [.int 1]) := by
  intro T hT X
  obtain ⟨fs, hret, hrun, hended, hW, hframe⟩ := X.leave (v := some (.int 1)) (hlocks := hlocks) (fun h => by rw [hr] at h; cases h)
  have hmeth' : T.vm.method? m = some meth := X.method'
  refine ⟨T.setFrames fs, ?_, .returned (some (.int 1)), hrun, hended, rfl, ⟨_, rfl⟩, hW, hframe⟩
  jvm_step X.here [X.here.top, hx, hb, hdg, hmeth', hr, ret, narrow_b1]
  (try refine ⟨rfl, ?_⟩); (try refine ⟨rfl, ?_⟩)
  first | (intro acts; rw [hret _ acts rfl rfl rfl]) | rw [hret _ _ rfl rfl rfl]
  exact Steps.refl _
/-- what holds at the law's entry: the machine, the code, the tables' words (any of lw_tbl by 'hts w (by decide +kernel)'), the script of L ints xs at the cell b, what the Statement gives of the start (any of its parts by flat_of_before) -/
def lw_At (p : Program) (s : State) (m : MethodId) (meth : Method) (c : Code) (b L : Nat) (xs : Nat → Int32) : Prop :=
  p.tables.exec = Jvm.exec ∧ c.code = code ∧ meth.sig.returnType = ret ∧ c.maxLocals = 4 ∧ s.vm.findClass R_law = some m.cls ∧ (∀ w ∈ lw_tbl, w.before #[Value.ref b] s = true) ∧ va_X b L xs s s.heap ∧ b < s.heap.size ∧ meth.locks = false ∧ (Jvm.Cond.and given_1 narrow_1).before #[Value.ref b] s = true
-- THE LAW'S CALLS
section CJL
variable {p : Program} {l : Launch} {e : Env} {R : Room} {s : State} {m : MethodId} {args : Array Value} {below : List Frame} {meth : Method} {c : Code} {H : Heap} {locs : List Loc} {cells slots : Nat} {Q : State → Prop}
variable {cc : ByteArray} {pc nL : Nat} {own : String} {ls : Array Slot} {rest st0 : List Value} {D : va_G} {kd : Nat → ClassId} {A : Nat → Prop} {H0 : Heap} {w0 wr wl : va_W}
variable {y : MethodName} {bytes : ByteArray} {mx k index : Nat} {rt : Option FieldType} {S : Type} {w : S → va_W}
theorem cj_lC {post : Int32 → S → Prop} {b : Nat} {As : List Value} {C : String} (X : cj_X p s m args c meth cc nL own D kd) (V : cj_V D A H0 (w0 ++ wr) H locs)
    (hM : cj_Mi l y bytes mx rt k D kd (.ref b :: As) w0 post w) (q0 ci : Nat) {fs : List Value} {r : vw_C} (hrecv : w0[q0]? = some (b, .inr (ci, fs))) (hci : cj_cl[ci]? = some r) (hrC : r.1 = C)
    (hl : Cond.methodLink own index y ∈ cw_T) (hi : Cond.instanceMethod y ∈ cw_T) (hs : Cond.selects C y y ∈ cw_T) (hn : Cond.initialized C ∈ cw_T) (hc : Cond.code y bytes mx rt ∈ cw_T)
    (hd : y.cls = C ∧ y.cls ≠ "java/lang/invoke/MethodHandle" ∧ y.cls ≠ "java/lang/invoke/VarHandle" ∧ (parseMethodDescriptor y.desc).map (fun d => d.parameters.length) = some As.length) (hR : k + 1 ≤ R.frames ∧ 8 + (mx + 11) + 40 * k ≤ R.locals) (hRc : cells ≤ R.cells ∧ slots ≤ R.slots)
    (hsize : ls.size = nL) (hst : st0 = As.reverse ++ .ref b :: rest) (hW : (rest.map fun v => v.category).sum ≤ 8) (hdg : decode cc pc = .ok (.invokevirtual index, 3))
    (kk : ∀ (r : Int32) (u : S) (H1 : Heap) (locs1 : List Loc), post r u → cj_V D A H0 (w u ++ wr) H1 locs1 → W p l e R s m args below meth c H1 locs1 cells slots Q (F0 m (pc + 3) ls (.int r :: rest))) : W p l e R s m args below meth c H locs cells slots Q (F0 m pc ls st0) :=
  cj_afteri V (cj_runV X V (hM H.size) q0 ci hrecv hci hrC hl hi hs hn hc hd hR hRc hsize hst hW hdg) kk
theorem cj_lM {post : Int32 → S → Prop} {b : Nat} {As : List Value} {C : String} (X : cj_X p s m args c meth cc nL own D kd) (V : cj_V D A H0 (wl ++ w0) H locs)
    (hM : cj_Mi l y bytes mx rt k D kd (.ref b :: As) w0 post w) (q0 ci : Nat) {fs : List Value} {r : vw_C} (hrecv : w0[q0]? = some (b, .inr (ci, fs))) (hci : cj_cl[ci]? = some r) (hrC : r.1 = C)
    (hl : Cond.methodLink own index y ∈ cw_T) (hi : Cond.instanceMethod y ∈ cw_T) (hs : Cond.selects C y y ∈ cw_T) (hn : Cond.initialized C ∈ cw_T) (hc : Cond.code y bytes mx rt ∈ cw_T)
    (hd : y.cls = C ∧ y.cls ≠ "java/lang/invoke/MethodHandle" ∧ y.cls ≠ "java/lang/invoke/VarHandle" ∧ (parseMethodDescriptor y.desc).map (fun d => d.parameters.length) = some As.length) (hR : k + 1 ≤ R.frames ∧ 8 + (mx + 11) + 40 * k ≤ R.locals) (hRc : cells ≤ R.cells ∧ slots ≤ R.slots)
    (hsize : ls.size = nL) (hst : st0 = As.reverse ++ .ref b :: rest) (hW : (rest.map fun v => v.category).sum ≤ 8) (hdg : decode cc pc = .ok (.invokevirtual index, 3))
    (kk : ∀ (r : Int32) (u : S) (H1 : Heap) (locs1 : List Loc), post r u → cj_V D A H0 (wl ++ w u) H1 locs1 → W p l e R s m args below meth c H1 locs1 cells slots Q (F0 m (pc + 3) ls (.int r :: rest))) : W p l e R s m args below meth c H locs cells slots Q (F0 m pc ls st0) :=
  cj_lC X (cj_comm V) hM q0 ci hrecv hci hrC hl hi hs hn hc hd hR hRc hsize hst hW hdg (fun r u H1 locs1 hp V1 => kk r u H1 locs1 hp (cj_comm V1))
/-- x != 0, as javac writes it -/
theorem cj_bool {x : Int32} (hx : p.tables.exec = Jvm.exec) (hb : c.code = cc) (h0 : decode cc pc = .ok (.ifCond .eq 7, 3)) (h1 : decode cc (pc + 3) = .ok (.iconst 1, 1)) (h2 : decode cc (pc + 3 + 1) = .ok (.goto 4, 3)) (h3 : decode cc (pc + 7) = .ok (.iconst 0, 1))
    (kk : W p l e R s m args below meth c H locs cells slots Q (F0 m (pc + 8) ls (.int (bI (!decide (x = 0))) :: rest))) : W p l e R s m args below meth c H locs cells slots Q (F0 m pc ls (.int x :: rest)) := by
  refine lv_if_eq (tgt := pc + 7) hx hb h0 (by omega) (fun e => ?_) (fun e => ?_)
  · refine lv_iconst (v := 0) hx hb h3 (by decide) ?_
    rw [decide_eq_true e] at kk
    exact kk
  · refine lv_iconst (v := 1) hx hb h1 (by decide) ?_
    refine lv_goto (tgt := pc + 8) hx hb h2 (by omega) ?_
    rw [decide_eq_false e] at kk
    exact kk
theorem cj_sld {b L i : Nat} {xs : Nat → Int32} (hx : p.tables.exec = Jvm.exec) (hb : c.code = cc) (hX : va_X b L xs s H0) (hbl : b < H0.size) (hbA : ¬ A b) (V : cj_V D A H0 w0 H locs) (hi : i < L) (hL : L < 2 ^ 31) (hdg : decode cc pc = .ok (.iaload, 1))
    (kk : W p l e R s m args below meth c H locs cells slots Q (F0 m (pc + 1) ls (.int (xs i) :: rest))) : W p l e R s m args below meth c H locs cells slots Q (F0 m pc ls (.int (nI i) :: .ref b :: rest)) := by
  refine va_sld hx hb hX hbl hbA V.2.2.1 (vp_in_nI hi hL) hdg ?_
  rw [nI_clamp (Nat.lt_trans hi hL)]
  exact kk
end CJL
theorem cj_len {L i : Nat} (hL : L ≤ 2560) (hi : i ≤ 2560) : (nI L - nI 5 < nI i → L < i + 5) ∧ (¬ nI L - nI 5 < nI i → i + 5 ≤ L) := by
  have h1 : (nI L - nI 5).toInt = (L : Int) - 5 := pk_sub_toInt (by omega) (by decide)
  have h2 : (nI i).toInt = (i : Int) := nI_toInt (by omega)
  constructor
  · intro h
    have := Int32.lt_iff_toInt_lt.mp h
    rw [h1, h2] at this
    omega
  · intro h
    have : ¬ (nI L - nI 5).toInt < (nI i).toInt := fun q => h (Int32.lt_iff_toInt_lt.mpr q)
    rw [h1, h2] at this
    omega
/-- class and reference stand side by side and hold the same -/
def lw_W (D : va_G) (kd : Nat → ClassId) (A : Nat → Prop) (H0 : Heap) (ac am : Nat → Nat) (H : Heap) (locs : List Loc) : Prop := ∃ (E : Nat) (n : Nat → Nat) (cl : Nat → Bool) (con : Nat → Nat → Int32) (ow : Nat → Nat → Int64) (rn : Nat) (ed : Nat → Nat) (co : Nat → Nat) (hz : Nat → Int64) (mp : Nat → Nat → Nat) (pr : Nat → Int32) (cn : Nat) (hs : Nat → Int64) (wg : Nat → Int64) (rs : Nat → Int64) (ch : Int32) (con2 : Nat → Int32) (ow2 : Nat → Nat) (ge : Nat → Bool) (lo : Nat → Nat) (pr2 : Nat → Int32), cj_I E rn n ed co hz con ow con2 ow2 ge ∧ cj_V D A H0 (wC kd ac E n cl con ow rn ed co hz mp pr cn hs wg rs ch ++ wM kd am E rn ch n con2 ow2 ge cl ed co hz lo pr2) H locs
