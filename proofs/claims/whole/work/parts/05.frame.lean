-- THE FRAME: worlds, rooms, contracts, and the rows that every walk here uses
abbrev cj_cl : List vw_C := [(RD, TD, 4), (RC, TC, 13), (RM, TM, 13)]
def cj_tys (kd : Nat → ClassId) : List (ClassId × FieldType) := [(kd 0, .int), (kd 1, .boolean), (kd 2, .long), (kd 3, .array .int), (kd 4, .array .long)]
/-- room for k calls one in the other -/
def cj_rm (k : Nat) : Room := { frames := k, cells := 0, slots := 0, locals := 40 * k }
def bI (b : Bool) : Int32 := if b then 1 else 0
/-- the context of a walk: the code, the words, the tables -/
def cj_X (p : Program) (s : State) (m : MethodId) (args : Array Value) (c : Code) (meth : Method) (cc : ByteArray) (nL : Nat) (own : String) (D : va_G) (kd : Nat → ClassId) : Prop :=
  CallFix p m c cc nL s args cw_T own ∧ va_K D cj_cl (cj_tys kd) s ∧ meth.locks = false
/-- the world of a walk -/
def cj_V (D : va_G) (A : Nat → Prop) (H0 : Heap) (w : va_W) (H : Heap) (locs : List Loc) : Prop := va_P D cj_cl w H ∧ va_D A w ∧ va_S A H0 H locs ∧ ∀ q, H0.size ≤ q → A q
def cj_pre (D : va_G) (kd : Nat → ClassId) (w : va_W) (sz : Nat) : State → Prop := fun U => U.heap.size = sz ∧ va_P D cj_cl w U.heap ∧ va_K D cj_cl (cj_tys kd) U ∧ va_D (fun _ => True) w
def cj_post {S : Type} (D : va_G) (kd : Nat → ClassId) (A : Nat → Prop) (w : S → va_W) : S → State → Prop := fun u t => va_P D cj_cl (w u) t.heap ∧ va_K D cj_cl (cj_tys kd) t ∧ va_D A (w u)
/-- contracts: an int (or a boolean), a long, nothing -/
def cj_Mi {S : Type} (l : Launch) (y : MethodName) (cc : ByteArray) (mx : Nat) (rt : Option FieldType) (k : Nat) (D : va_G) (kd : Nat → ClassId) (av : List Value) (w0 : va_W) (post : Int32 → S → Prop) (w : S → va_W) : Prop :=
  ∀ sz : Nat, Met l y (.code y cc mx rt :: cw_T) (cj_rm k) (va_Pc av (cj_pre D kd w0 sz)) (va_Qi post (cj_post D kd (va_A w0 sz) w) (va_A w0 sz)) 0 0 (va_A w0 sz)
def cj_Ml {S : Type} (l : Launch) (y : MethodName) (cc : ByteArray) (mx : Nat) (rt : Option FieldType) (k : Nat) (D : va_G) (kd : Nat → ClassId) (av : List Value) (w0 : va_W) (post : Int64 → S → Prop) (w : S → va_W) : Prop :=
  ∀ sz : Nat, Met l y (.code y cc mx rt :: cw_T) (cj_rm k) (va_Pc av (cj_pre D kd w0 sz)) (va_Ql post (cj_post D kd (va_A w0 sz) w) (va_A w0 sz)) 0 0 (va_A w0 sz)
def cj_Mv {S : Type} (l : Launch) (y : MethodName) (cc : ByteArray) (mx : Nat) (rt : Option FieldType) (k : Nat) (D : va_G) (kd : Nat → ClassId) (av : List Value) (w0 : va_W) (post : S → Prop) (w : S → va_W) : Prop :=
  ∀ sz : Nat, Met l y (.code y cc mx rt :: cw_T) (cj_rm k) (va_Pc av (cj_pre D kd w0 sz)) (va_Qv post (cj_post D kd (va_A w0 sz) w) (va_A w0 sz)) 0 0 (va_A w0 sz)
/-- the frame rule: what the callee has not, stays -/
theorem cj_fr {D : va_G} {cl : List vw_C} {A : Nat → Prop} {w0 wr w1 : va_W} {H H1 : Heap} (hP : va_P D cl (w0 ++ wr) H) (hD : va_D A (w0 ++ wr)) (hk : ∀ q : Nat, q < H.size → ¬ va_A w0 H.size q → H1[q]? = H[q]?) (hF : ∀ q, va_A w0 H.size q → A q) (hP1 : va_P D cl w1 H1) (hD1 : va_D (va_A w0 H.size) w1) : va_P D cl (w1 ++ wr) H1 ∧ va_D A (w1 ++ wr) := by
  have at' : ∀ (k : Nat) (q : Nat × va_E), wr[k]? = some q → (w0 ++ wr)[w0.length + k]? = some q := fun k q h => by
    rw [List.getElem?_append_right (Nat.le_add_right _ _), Nat.add_sub_cancel_left]
    exact h
  have apart : ∀ (k : Nat) (q : Nat × va_E), wr[k]? = some q → q.1 < H.size ∧ ¬ va_A w0 H.size q.1 := by
    intro k q hq
    have hl := (hP _ q (at' k q hq)).lt
    refine ⟨hl, fun h => ?_⟩
    rcases h with ⟨k2, e, h⟩ | h
    · have h3 : k2 < w0.length := (List.getElem?_eq_some_iff.mp h).1
      have h4 : (w0 ++ wr)[k2]? = some (q.1, e) := by rw [List.getElem?_append_left h3]; exact h
      have := hD.1 _ _ q (q.1, e) (at' k q hq) h4 rfl
      omega
    · omega
  refine ⟨va_P.app hP1 (fun k q hq => ?_), va_D.app (hD1.weaken (fun _ q _ h => hF q.1 h)) ⟨fun i j x y hx hy hxy => ?_, fun k q hq => hD.2 _ q (at' k q hq)⟩ (fun i j x y hx hy hxy => ?_)⟩
  · obtain ⟨g1, g2⟩ := apart k q hq
    exact (hP _ q (at' k q hq)).kept (hk q.1 g1 g2)
  · have := hD.1 _ _ x y (at' i x hx) (at' j y hy) hxy
    omega
  · exact (apart j y hy).2 (by rw [← hxy]; exact hD1.2 i x hx)
theorem cj_goodV {own C : String} {idx : Nat} {y : MethodName} {b : ByteArray} {mx : Nat} {rt : Option FieldType} (hl : Cond.methodLink own idx y ∈ cw_T) (hi : Cond.instanceMethod y ∈ cw_T) (hs : Cond.selects C y y ∈ cw_T) (hn : Cond.initialized C ∈ cw_T) (hc : Cond.code y b mx rt ∈ cw_T) : GoodIn cw_T (wsV own idx C y (.code y b mx rt :: cw_T)) := by
  intro w hw
  have hm : w ∈ cw_T := by
    unfold wsV at hw
    rcases List.mem_append.mp hw with h | h
    · simp only [List.mem_cons, List.not_mem_nil, or_false] at h
      rcases h with rfl | rfl | rfl | rfl <;> assumption
    · rcases List.mem_cons.mp h with rfl | h
      · exact hc
      · exact h
  exact ⟨hm, cw_good hm⟩
theorem cj_goodS {own : String} {idx : Nat} {y : MethodName} {b : ByteArray} {mx : Nat} {rt : Option FieldType} (hl : Cond.methodLink own idx y ∈ cw_T) (hs : Cond.static y ∈ cw_T) (hn : Cond.initialized y.cls ∈ cw_T) (hc : Cond.code y b mx rt ∈ cw_T) : GoodIn cw_T (va_wsS own idx y (.code y b mx rt :: cw_T)) := by
  intro w hw
  have hm : w ∈ cw_T := by
    unfold va_wsS at hw
    rcases List.mem_append.mp hw with h | h
    · simp only [List.mem_cons, List.not_mem_nil, or_false] at h
      rcases h with rfl | rfl | rfl <;> assumption
    · rcases List.mem_cons.mp h with rfl | h
      · exact hc
      · exact h
  exact ⟨hm, cw_good hm⟩
theorem cj_blind {av : List Value} {D : va_G} {kd : Nat → ClassId} {w : va_W} {sz : Nat} : FrameBlind (va_Pc av (cj_pre D kd w sz)) := fun a U g mk q => by
  obtain ⟨q0, q1, qP, qK, qD⟩ := q
  exact ⟨q0, q1, qP, va_K.moved (u := U) (U := U.calling g mk a) (Vm.Alike.refl U.vm) qK, qD⟩
section CJ1
variable {p : Program} {l : Launch} {e : Env} {R : Room} {s : State} {m : MethodId} {args : Array Value} {below : List Frame} {meth : Method} {c : Code} {H : Heap} {locs : List Loc} {cells slots : Nat} {Q : State → Prop}
variable {cc : ByteArray} {pc nL : Nat} {own : String} {ls : Array Slot} {rest st0 : List Value} {D : va_G} {kd : Nat → ClassId} {A : Nat → Prop} {H0 : Heap} {w0 wr : va_W}
variable {y : MethodName} {bytes : ByteArray} {mx k index : Nat} {rt : Option FieldType} {S : Type} {w : S → va_W}
theorem cj_pv (X : cj_X p s m args c meth cc nL own D kd) (V : cj_V D A H0 (w0 ++ wr) H locs) {av : List Value} : ∀ U : State, U.heap = H → s.WarmedH U.vm → va_Pc av (cj_pre D kd w0 H.size) av.toArray U := fun U hU hW => by
  obtain ⟨-, hK, -⟩ := X
  obtain ⟨hP, hD, -, -⟩ := V
  refine ⟨rfl, by rw [hU], ?_, va_K.moved hW.alike hK, ?_⟩
  · rw [hU]
    intro k q hq
    exact hP k q (by rw [List.getElem?_append_left (List.getElem?_eq_some_iff.mp hq).1]; exact hq)
  · exact ⟨fun i j x y hx hy hxy => hD.1 i j x y (by rw [List.getElem?_append_left (List.getElem?_eq_some_iff.mp hx).1]; exact hx) (by rw [List.getElem?_append_left (List.getElem?_eq_some_iff.mp hy).1]; exact hy) hxy, fun _ _ _ => trivial⟩
theorem cj_fA (V : cj_V D A H0 (w0 ++ wr) H locs) : ∀ q, va_A w0 H.size q → A q := by
  obtain ⟨-, hD, hS, hA⟩ := V
  intro q h
  rcases h with ⟨k, e, h⟩ | h
  · exact hD.2 k (q, e) (by rw [List.getElem?_append_left (List.getElem?_eq_some_iff.mp h).1]; exact h)
  · exact hA q (Nat.le_trans hS.1 h)
theorem cj_runV (X : cj_X p s m args c meth cc nL own D kd) (V : cj_V D A H0 (w0 ++ wr) H locs) {b : Nat} {As : List Value} {Qc : Array Value → State → Outcome → State → Prop} {free : Addr → Prop} {C : String}
    (hM : Met l y (.code y bytes mx rt :: cw_T) (cj_rm k) (va_Pc (.ref b :: As) (cj_pre D kd w0 H.size)) Qc 0 0 free)
    (q0 ci : Nat) {fs : List Value} {r : vw_C} (hrecv : w0[q0]? = some (b, .inr (ci, fs))) (hci : cj_cl[ci]? = some r) (hrC : r.1 = C)
    (hl : Cond.methodLink own index y ∈ cw_T) (hi : Cond.instanceMethod y ∈ cw_T) (hs : Cond.selects C y y ∈ cw_T) (hn : Cond.initialized C ∈ cw_T) (hc : Cond.code y bytes mx rt ∈ cw_T)
    (hd : y.cls = C ∧ y.cls ≠ "java/lang/invoke/MethodHandle" ∧ y.cls ≠ "java/lang/invoke/VarHandle" ∧ (parseMethodDescriptor y.desc).map (fun d => d.parameters.length) = some As.length) (hR : k + 1 ≤ R.frames ∧ 8 + (mx + 11) + 40 * k ≤ R.locals) (hRc : cells ≤ R.cells ∧ slots ≤ R.slots)
    (hsize : ls.size = nL) (hst : st0 = As.reverse ++ .ref b :: rest) (hW : (rest.map fun v => v.category).sum ≤ 8) (hdg : decode cc pc = .ok (.invokevirtual index, 3)) :
    va_Run p l e R s m args below meth c H locs cells slots 0 0 (F0 m pc ls st0) rest (Qc (Value.ref b :: As).toArray) free := by
  subst hrC
  have hb := cj_pv (av := .ref b :: As) X V
  obtain ⟨F, hK, -⟩ := X
  have hP0 : va_P D cj_cl w0 H := fun k q hq => V.1 k q (by rw [List.getElem?_append_left (List.getElem?_eq_some_iff.mp hq).1]; exact hq)
  exact va_runV (As := As) (rest := rest) (C := r.1) F hM (cwV As.length F.2.2.2.2 (cj_goodV hl hi hs hn hc) rfl rfl rfl hd hR) ⟨cj_blind, va_recv hK hP0 hci hrecv, hb⟩ rfl rfl hsize hst (lv_room hW) hdg ⟨hRc.1, hRc.2⟩
theorem cj_runS (X : cj_X p s m args c meth cc nL own D kd) (V : cj_V D A H0 (w0 ++ wr) H locs) {As : List Value} {Qc : Array Value → State → Outcome → State → Prop} {free : Addr → Prop}
    (hM : Met l y (.code y bytes mx rt :: cw_T) (cj_rm k) (va_Pc As (cj_pre D kd w0 H.size)) Qc 0 0 free)
    (hl : Cond.methodLink own index y ∈ cw_T) (hs : Cond.static y ∈ cw_T) (hn : Cond.initialized y.cls ∈ cw_T) (hc : Cond.code y bytes mx rt ∈ cw_T)
    (hd : y.cls ≠ "java/lang/invoke/MethodHandle" ∧ y.cls ≠ "java/lang/invoke/VarHandle" ∧ (parseMethodDescriptor y.desc).map (fun d => d.parameters.length) = some As.length) (hR : k + 1 ≤ R.frames ∧ 8 + (mx + 11) + 40 * k ≤ R.locals) (hRc : cells ≤ R.cells ∧ slots ≤ R.slots)
    (hsize : ls.size = nL) (hst : st0 = As.reverse ++ rest) (hW : (rest.map fun v => v.category).sum ≤ 8) (hdg : decode cc pc = .ok (.invokestatic index, 3)) :
    va_Run p l e R s m args below meth c H locs cells slots 0 0 (F0 m pc ls st0) rest (Qc As.toArray) free := by
  have hb := cj_pv (av := As) X V
  obtain ⟨F, hK, -⟩ := X
  exact va_runS (As := As) (rest := rest) F hM (va_cwS As.length F.2.2.2.2 (cj_goodS hl hs hn hc) rfl rfl rfl hd hR) ⟨cj_blind, hb⟩ rfl rfl hsize hst (lv_room hW) hdg ⟨hRc.1, hRc.2⟩
theorem cj_afteri {post : Int32 → S → Prop} {a : Array Value} (V : cj_V D A H0 (w0 ++ wr) H locs) (hr : va_Run p l e R s m args below meth c H locs cells slots 0 0 (F0 m pc ls st0) rest (va_Qi post (cj_post D kd (va_A w0 H.size) w) (va_A w0 H.size) a) (va_A w0 H.size))
    (kk : ∀ (r : Int32) (u : S) (H1 : Heap) (locs1 : List Loc), post r u → cj_V D A H0 (w u ++ wr) H1 locs1 → W p l e R s m args below meth c H1 locs1 cells slots Q (F0 m (pc + 3) ls (.int r :: rest))) : W p l e R s m args below meth c H locs cells slots Q (F0 m pc ls st0) := by
  have hF := cj_fA V
  obtain ⟨hP, hD, hS, hA⟩ := V
  refine va_calli hr hS (fun q _ h => hF q h) hF (fun r u t H1 locs1 ht hvm hw hB hz hk hS1 => ?_)
  obtain ⟨hP1, -, hD1⟩ := hB
  rw [ht] at hP1
  obtain ⟨h1, h2⟩ := cj_fr hP hD hk hF hP1 hD1
  exact kk r u H1 locs1 hw ⟨h1, h2, hS1, hA⟩
theorem cj_afterl {post : Int64 → S → Prop} {a : Array Value} (V : cj_V D A H0 (w0 ++ wr) H locs) (hr : va_Run p l e R s m args below meth c H locs cells slots 0 0 (F0 m pc ls st0) rest (va_Ql post (cj_post D kd (va_A w0 H.size) w) (va_A w0 H.size) a) (va_A w0 H.size))
    (kk : ∀ (r : Int64) (u : S) (H1 : Heap) (locs1 : List Loc), post r u → cj_V D A H0 (w u ++ wr) H1 locs1 → W p l e R s m args below meth c H1 locs1 cells slots Q (F0 m (pc + 3) ls (.long r :: rest))) : W p l e R s m args below meth c H locs cells slots Q (F0 m pc ls st0) := by
  have hF := cj_fA V
  obtain ⟨hP, hD, hS, hA⟩ := V
  refine va_calll hr hS (fun q _ h => hF q h) hF (fun r u t H1 locs1 ht hvm hw hB hz hk hS1 => ?_)
  obtain ⟨hP1, -, hD1⟩ := hB
  rw [ht] at hP1
  obtain ⟨h1, h2⟩ := cj_fr hP hD hk hF hP1 hD1
  exact kk r u H1 locs1 hw ⟨h1, h2, hS1, hA⟩
theorem cj_afterv {post : S → Prop} {a : Array Value} (V : cj_V D A H0 (w0 ++ wr) H locs) (hr : va_Run p l e R s m args below meth c H locs cells slots 0 0 (F0 m pc ls st0) rest (va_Qv post (cj_post D kd (va_A w0 H.size) w) (va_A w0 H.size) a) (va_A w0 H.size))
    (kk : ∀ (u : S) (H1 : Heap) (locs1 : List Loc), post u → cj_V D A H0 (w u ++ wr) H1 locs1 → W p l e R s m args below meth c H1 locs1 cells slots Q (F0 m (pc + 3) ls rest)) : W p l e R s m args below meth c H locs cells slots Q (F0 m pc ls st0) := by
  have hF := cj_fA V
  obtain ⟨hP, hD, hS, hA⟩ := V
  refine va_callv hr hS (fun q _ h => hF q h) hF (fun u t H1 locs1 ht hvm hw hB hz hk hS1 => ?_)
  obtain ⟨hP1, -, hD1⟩ := hB
  rw [ht] at hP1
  obtain ⟨h1, h2⟩ := cj_fr hP hD hk hF hP1 hD1
  exact kk u H1 locs1 hw ⟨h1, h2, hS1, hA⟩
end CJ1
