-- CONSTRUCTORS
def cj_Mc {S : Type} (l : Launch) (y : MethodName) (cc : ByteArray) (mx : Nat) (rm : Room) (mc ms : Nat) (D : va_G) (kd : Nat → ClassId) (h0 : Nat) (w0 : va_W) (post : S → Prop) (w : S → va_W) : Prop :=
  ∀ sz : Nat, Met l y (.code y cc mx none :: cw_T) rm (va_Pc [.ref h0] (fun U => cj_pre D kd w0 sz U ∧ (Cond.arrayOver (.array .int)).before #[] U = true ∧ (Cond.arrayOver (.array .long)).before #[] U = true)) (va_Qv post (cj_post D kd (va_A w0 sz) w) (va_A w0 sz)) mc ms (va_A w0 sz)
section CJ7
variable {p : Program} {l : Launch} {e : Env} {R : Room} {s : State} {m : MethodId} {args : Array Value} {below : List Frame} {meth : Method} {c : Code} {H : Heap} {locs : List Loc} {cells slots : Nat} {Q : State → Prop}
variable {cc : ByteArray} {pc nL : Nat} {own : String} {ls : Array Slot} {rest st0 : List Value} {D : va_G} {kd : Nat → ClassId} {A : Nat → Prop} {H0 : Heap} {w0 wr ws : va_W}
variable {y : MethodName} {bytes : ByteArray} {mx mc ms h0 index : Nat} {rm : Room} {S : Type} {w : S → va_W}
theorem cj_ofc {post : S → Prop} (hy : plainName y.cls = true) (hav : 1 ≤ mx) (hni : y.name = "<init>")
    (body : ∀ (p : Program) (e : Env) (s : State) (m : MethodId) (below : List Frame) (meth : Method) (c : Code) (A : Nat → Prop) (ls : Array Slot), cj_X p s m #[.ref h0] c meth cc mx y.cls D kd → meth.sig.returnType = none → meth.name = "<init>" → (Cond.arrayOver (.array .int)).before #[.ref h0] s = true → (Cond.arrayOver (.array .long)).before #[.ref h0] s = true → cj_V D A s.heap w0 s.heap [] → lv_has ls mx [(0, .ref h0)] →
      W p l e rm s m #[.ref h0] below meth c s.heap [] 0 0 (MQ below (va_Qv post (cj_post D kd A w) A) #[.ref h0] s mc ms A) (F0 m 0 ls [])) : cj_Mc l y cc mx rm mc ms D kd h0 w0 post w := by
  intro sz
  refine Met.ofW (cc := cc) (maxL := mx) (ret := none) hy rfl ?_
  intro p e s m args below meth c s₁ B hml hv
  obtain ⟨rfl, ⟨hsz, hP, hK, hD0⟩, ha1, ha2⟩ := hv
  subst hsz
  have hts := atoms_spec (ws := .code y cc mx none :: cw_T) B.pre
  have hav2 : (lg_sl [Value.ref h0]).length ≤ mx := hav
  rw [lg_entry_eq]
  exact body p e s m below meth c _ _ ⟨⟨B.exec, B.bytes, hml, findClass_of_methodNamed B.named, fun w h => hts w (List.mem_cons_of_mem _ h)⟩, hK, B.notSynchronized⟩ B.returns ((name_of_methodNamed B.named B.method).1.trans hni) (cj_ao (Vm.Alike.refl _) ha1) (cj_ao (Vm.Alike.refl _) ha2) ⟨hP, hD0.self, va_S.rf, fun q h => Or.inr h⟩ (lv_entry [.ref h0] hav2)
theorem cj_retc {post : S → Prop} (u : S) (X : cj_X p s m args c meth cc nL own D kd) (hr : meth.sig.returnType = none) (V : cj_V D A s.heap (w u) H locs) (hp : post u) (hdg : decode cc pc = .ok (.return_, 1)) : W p l e R s m args below meth c H locs mc ms (MQ below (va_Qv post (cj_post D kd A w) A) args s mc ms A) (F0 m pc ls []) := by
  obtain ⟨⟨hx, hb, -, -, -⟩, hK, hlocks⟩ := X
  exact W.vret hx hb hr (fun t ht hW => ⟨⟨u, rfl, hp, by rw [ht]; exact V.1, va_K.moved hW.alike hK, V.2.1⟩, V.2.2.1.F ht⟩) V.2.2.1.2.2 hdg
theorem cj_putF {a : Nat} (X : cj_X p s m args c meth cc nL own D kd) (V : cj_V D A H0 ws H locs) (q0 ci : Nat) {fs : List Value} {C ref : String} {T : u_T} {N : Nat} (he : ws[q0]? = some (a, .inr (ci, fs))) (hc : cj_cl[ci]? = some (C, T, N)) (hin : ∀ w ∈ u_ws C T N, w ∈ cw_T) (ty0 : Nat → FieldType) (hty : ∀ k, k < N → parseFieldDescriptor (T k).2.2.1 = some (ty0 k)) (hnm : ∀ a, a < N → ∀ b, b < N → a ≠ b → (T a).2.1 ≠ (T b).2.1) (k : Nat) (hk : k < N) (hlink : Cond.fieldLink own index ref (T k).2.1 (T k).2.2.1 ∈ cw_T) (href : ref = (T k).1) (hfin : (T k).2.2.2 = true) (hin2 : meth.name = "<init>") (hdecl : (T k).1 = own) {x : Nat} (hn : narrow (ty0 k) (.ref x) = .ref x) (hf : fits (ty0 k) (.ref x) = true) (hl : k < fs.length) (hdg : decode cc pc = .ok (.putfield index, 3)) (kk : ∀ (H1 : Heap) (locs1 : List Loc), cj_V D A H0 (ws.set q0 (a, .inr (ci, fs.set k (.ref x)))) H1 locs1 → W p l e R s m args below meth c H1 locs1 cells slots Q (F0 m (pc + 3) ls rest)) : W p l e R s m args below meth c H locs cells slots Q (F0 m pc ls (.ref x :: .ref a :: rest)) := by
  subst href
  obtain ⟨⟨hx, hb, -, hown, hts⟩, hK, -⟩ := X
  obtain ⟨hP, hD, hS, hA⟩ := V
  exact va_putF (ty := ty0 k) hx hb hts hin ty0 hty hnm hown hK hP hD hS q0 he hc k hk (hts _ hlink) (fun _ h => h) hfin hin2 hdecl (hty k hk) hn hf hl hdg (fun H1 locs1 h1 h2 h3 => kk H1 locs1 ⟨h1, h2, h3, hA⟩)
theorem cj_obj (X : cj_X p s m args c meth cc nL own D kd) {a : Nat} (hl : Cond.methodLink own index ⟨"java/lang/Object", "<init>", "()V"⟩ ∈ cw_T) (hsize : ls.size = nL) (hframes : 1 ≤ R.frames) (hlocals : (rest.map fun v => v.category).sum + 12 ≤ R.locals) (hdg : decode cc pc = .ok (.invokespecial index, 3)) (kk : W p l e R s m args below meth c H locs cells slots Q (F0 m (pc + 3) ls rest)) : W p l e R s m args below meth c H locs cells slots Q (F0 m pc ls (.ref a :: rest)) := by
  obtain ⟨⟨hx, hb, hml, hown, hts⟩, hK, -⟩ := X
  exact W.objInit hx hb hown (hts _ hl) (hts _ im_O_init) (hts _ cd_O_init) rfl (hsize.trans hml.symm) rfl hdg hframes (by show 2 * 0 + _ + 12 ≤ _; omega) kk
end CJ7
set_option maxRecDepth 100000 in
set_option maxHeartbeats 4000000 in
theorem c_D_init (l : Launch) (D : va_G) (kd : Nat → ClassId) (h0 : Nat) : cj_Mc (S := Nat × Nat × Nat) l yD_init cD_init 1 ({ frames := 1, cells := 3, slots := 43, locals := 20 }) 3 43 D kd h0 [(h0, .inr (0, [.int 0, .null, .null, .null]))] (fun _ => True) (fun u => [(h0, .inr (0, [.int (nI 0), .ref u.1, .ref u.2.1, .ref u.2.2])), (u.1, .inl (kd 2, 14, .inr (.inl (fun _ => 0)))), (u.2.1, .inl (kd 2, 14, .inr (.inl (fun _ => 0)))), (u.2.2, .inl (kd 2, 15, .inr (.inl (fun _ => 0))))]) := by
  refine cj_ofc (by decide) (by decide) rfl ?_
  intro p e s m below meth c A ls X hr hin ha1 ha2 V hl
  obtain ⟨⟨hx, hb, hml, hown, hts⟩, hK, hlk⟩ := id X
  refine lv_aload_n hx hb dD_init_0 rfl (lv_at hl 0 rfl) ?_
  refine cj_obj X ml_D_3 hl.1 (by decide) (by decide) dD_init_1 ?_
  refine lv_aload_n hx hb dD_init_4 rfl (lv_at hl 0 rfl) ?_
  refine lv_iconst (v := nI 0) hx hb dD_init_5 (by decide) ?_
  refine cj_putf X V 0 0 rfl rfl wsD tyD tyD_ok nmD 0 (by decide) fl_D_9 rfl rfl rfl (Nat.le_of_ble_eq_true rfl) dD_init_6 (fun H locs V => ?_)
  have V : cj_V D A s.heap [(h0, .inr (0, [.int (nI 0), .null, .null, .null]))] H locs := V
  refine lv_aload_n hx hb dD_init_9 rfl (lv_at hl 0 rfl) ?_
  refine lv_bipush (v := nI 14) hx hb dD_init_10 (by decide) ?_
  refine cj_newa (atype := .long) (a0 := (14, .inr (.inl (fun _ => 0)))) X V rfl 2 rfl (fun _ h => h) ac_long (fun _ => rfl) (by decide) (by decide) (Nat.le_of_ble_eq_true rfl) (Nat.le_of_ble_eq_true rfl) dD_init_12 (fun q1 H V => ?_)
  have V : cj_V D A s.heap [(h0, .inr (0, [.int (nI 0), .null, .null, .null])), (q1, .inl (kd 2, 14, .inr (.inl (fun _ => 0))))] H _ := V
  refine cj_putF X V 0 0 rfl rfl wsD tyD tyD_ok nmD 1 (by decide) fl_D_15 rfl rfl hin rfl rfl rfl (Nat.le_of_ble_eq_true rfl) dD_init_14 (fun H locs V => ?_)
  have V : cj_V D A s.heap [(h0, .inr (0, [.int (nI 0), .ref q1, .null, .null])), (q1, .inl (kd 2, 14, .inr (.inl (fun _ => 0))))] H locs := V
  refine lv_aload_n hx hb dD_init_17 rfl (lv_at hl 0 rfl) ?_
  refine lv_bipush (v := nI 14) hx hb dD_init_18 (by decide) ?_
  refine cj_newa (atype := .long) (a0 := (14, .inr (.inl (fun _ => 0)))) X V rfl 2 rfl (fun _ h => h) ac_long (fun _ => rfl) (by decide) (by decide) (Nat.le_of_ble_eq_true rfl) (Nat.le_of_ble_eq_true rfl) dD_init_20 (fun q2 H V => ?_)
  have V : cj_V D A s.heap [(h0, .inr (0, [.int (nI 0), .ref q1, .null, .null])), (q1, .inl (kd 2, 14, .inr (.inl (fun _ => 0)))), (q2, .inl (kd 2, 14, .inr (.inl (fun _ => 0))))] H _ := V
  refine cj_putF X V 0 0 rfl rfl wsD tyD tyD_ok nmD 2 (by decide) fl_D_19 rfl rfl hin rfl rfl rfl (Nat.le_of_ble_eq_true rfl) dD_init_22 (fun H locs V => ?_)
  have V : cj_V D A s.heap [(h0, .inr (0, [.int (nI 0), .ref q1, .ref q2, .null])), (q1, .inl (kd 2, 14, .inr (.inl (fun _ => 0)))), (q2, .inl (kd 2, 14, .inr (.inl (fun _ => 0))))] H locs := V
  refine lv_aload_n hx hb dD_init_25 rfl (lv_at hl 0 rfl) ?_
  refine lv_bipush (v := nI 15) hx hb dD_init_26 (by decide) ?_
  refine cj_newa (atype := .long) (a0 := (15, .inr (.inl (fun _ => 0)))) X V rfl 2 rfl (fun _ h => h) ac_long (fun _ => rfl) (by decide) (by decide) (Nat.le_of_ble_eq_true rfl) (Nat.le_of_ble_eq_true rfl) dD_init_28 (fun q3 H V => ?_)
  have V : cj_V D A s.heap [(h0, .inr (0, [.int (nI 0), .ref q1, .ref q2, .null])), (q1, .inl (kd 2, 14, .inr (.inl (fun _ => 0)))), (q2, .inl (kd 2, 14, .inr (.inl (fun _ => 0)))), (q3, .inl (kd 2, 15, .inr (.inl (fun _ => 0))))] H _ := V
  refine cj_putF X V 0 0 rfl rfl wsD tyD tyD_ok nmD 3 (by decide) fl_D_22 rfl rfl hin rfl rfl rfl (Nat.le_of_ble_eq_true rfl) dD_init_30 (fun H locs V => ?_)
  have V : cj_V D A s.heap [(h0, .inr (0, [.int (nI 0), .ref q1, .ref q2, .ref q3])), (q1, .inl (kd 2, 14, .inr (.inl (fun _ => 0)))), (q2, .inl (kd 2, 14, .inr (.inl (fun _ => 0)))), (q3, .inl (kd 2, 15, .inr (.inl (fun _ => 0))))] H locs := V
  exact cj_retc (q1, q2, q3) X hr V trivial dD_init_33
/-- an address out of a list -/
def cj_ad (l : List Nat) : Nat → Nat := fun k => l.getD k 0
set_option maxRecDepth 100000 in
set_option maxHeartbeats 4000000 in
theorem c_M_init (l : Launch) (D : va_G) (kd : Nat → ClassId) (h0 : Nat) : cj_Mc (S := List Nat) l yM_init cM_init 1 ({ frames := 1, cells := 10, slots := 2739, locals := 20 }) 10 2739 D kd h0 [(h0, .inr (2, [.int 0, .int 0, .int 0, .null, .null, .null, .null, .null, .null, .null, .null, .null, .null]))] (fun u => cj_ad u 0 = h0) (fun u => wM kd (cj_ad u) 0 0 0 (fun _ => 0) (fun _ => nI 0) (fun _ => 0) (fun _ => false) (fun _ => false) (fun _ => 0) (fun _ => 0) (fun _ => 0) (fun _ => 0) (fun _ => nI 0)) := by
  refine cj_ofc (by decide) (by decide) rfl ?_
  intro p e s m below meth c A ls X hr hin ha1 ha2 V hl
  obtain ⟨⟨hx, hb, hml, hown, hts⟩, hK, hlk⟩ := id X
  refine lv_aload_n hx hb dM_init_0 rfl (lv_at hl 0 rfl) ?_
  refine cj_obj X ml_M_1 hl.1 (by decide) (by decide) dM_init_1 ?_
  refine lv_aload_n hx hb dM_init_4 rfl (lv_at hl 0 rfl) ?_
  refine lv_bipush (v := nI 8) hx hb dM_init_5 (by decide) ?_
  refine cj_newa (atype := .int) (a0 := (8, .inl (fun _ => nI 0))) X V rfl 0 rfl (fun _ h => h) ac_int (fun _ => rfl) (by decide) (by decide) (Nat.le_of_ble_eq_true rfl) (Nat.le_of_ble_eq_true rfl) dM_init_7 (fun q1 H V => ?_)
  have V : cj_V D A s.heap [(h0, .inr (2, [.int 0, .int 0, .int 0, .null, .null, .null, .null, .null, .null, .null, .null, .null, .null])), (q1, .inl (kd 0, 8, .inl (fun _ => nI 0)))] H _ := V
  refine cj_putF X V 0 2 rfl rfl wsM tyM tyM_ok nmM 3 (by decide) fl_M_7 rfl rfl hin rfl rfl rfl (Nat.le_of_ble_eq_true rfl) dM_init_9 (fun H locs V => ?_)
  have V : cj_V D A s.heap [(h0, .inr (2, [.int 0, .int 0, .int 0, .ref q1, .null, .null, .null, .null, .null, .null, .null, .null, .null])), (q1, .inl (kd 0, 8, .inl (fun _ => nI 0)))] H locs := V
  refine lv_aload_n hx hb dM_init_12 rfl (lv_at hl 0 rfl) ?_
  refine lv_sipush (v := nI 320) hx hb dM_init_13 (by decide) ?_
  refine cj_newa (atype := .int) (a0 := (320, .inl (fun _ => nI 0))) X V rfl 0 rfl (fun _ h => h) ac_int (fun _ => rfl) (by decide) (by decide) (Nat.le_of_ble_eq_true rfl) (Nat.le_of_ble_eq_true rfl) dM_init_16 (fun q2 H V => ?_)
  have V : cj_V D A s.heap [(h0, .inr (2, [.int 0, .int 0, .int 0, .ref q1, .null, .null, .null, .null, .null, .null, .null, .null, .null])), (q1, .inl (kd 0, 8, .inl (fun _ => nI 0))), (q2, .inl (kd 0, 320, .inl (fun _ => nI 0)))] H _ := V
  refine cj_putF X V 0 2 rfl rfl wsM tyM tyM_ok nmM 4 (by decide) fl_M_13 rfl rfl hin rfl rfl rfl (Nat.le_of_ble_eq_true rfl) dM_init_18 (fun H locs V => ?_)
  have V : cj_V D A s.heap [(h0, .inr (2, [.int 0, .int 0, .int 0, .ref q1, .ref q2, .null, .null, .null, .null, .null, .null, .null, .null])), (q1, .inl (kd 0, 8, .inl (fun _ => nI 0))), (q2, .inl (kd 0, 320, .inl (fun _ => nI 0)))] H locs := V
  refine lv_aload_n hx hb dM_init_21 rfl (lv_at hl 0 rfl) ?_
  refine lv_sipush (v := nI 320) hx hb dM_init_22 (by decide) ?_
  refine cj_newa (atype := .int) (a0 := (320, .inl (fun _ => nI 0))) X V rfl 0 rfl (fun _ h => h) ac_int (fun _ => rfl) (by decide) (by decide) (Nat.le_of_ble_eq_true rfl) (Nat.le_of_ble_eq_true rfl) dM_init_25 (fun q3 H V => ?_)
  have V : cj_V D A s.heap [(h0, .inr (2, [.int 0, .int 0, .int 0, .ref q1, .ref q2, .null, .null, .null, .null, .null, .null, .null, .null])), (q1, .inl (kd 0, 8, .inl (fun _ => nI 0))), (q2, .inl (kd 0, 320, .inl (fun _ => nI 0))), (q3, .inl (kd 0, 320, .inl (fun _ => nI 0)))] H _ := V
  refine cj_putF X V 0 2 rfl rfl wsM tyM tyM_ok nmM 5 (by decide) fl_M_16 rfl rfl hin rfl rfl rfl (Nat.le_of_ble_eq_true rfl) dM_init_27 (fun H locs V => ?_)
  have V : cj_V D A s.heap [(h0, .inr (2, [.int 0, .int 0, .int 0, .ref q1, .ref q2, .ref q3, .null, .null, .null, .null, .null, .null, .null])), (q1, .inl (kd 0, 8, .inl (fun _ => nI 0))), (q2, .inl (kd 0, 320, .inl (fun _ => nI 0))), (q3, .inl (kd 0, 320, .inl (fun _ => nI 0)))] H locs := V
  refine lv_aload_n hx hb dM_init_30 rfl (lv_at hl 0 rfl) ?_
  refine lv_sipush (v := nI 320) hx hb dM_init_31 (by decide) ?_
  refine cj_newa (atype := .boolean) (a0 := (320, .inl (fun _ => bI false))) X V rfl 1 rfl (fun _ h => h) ac_boolean (fun _ => rfl) (by decide) (by decide) (Nat.le_of_ble_eq_true rfl) (Nat.le_of_ble_eq_true rfl) dM_init_34 (fun q4 H V => ?_)
  have V : cj_V D A s.heap [(h0, .inr (2, [.int 0, .int 0, .int 0, .ref q1, .ref q2, .ref q3, .null, .null, .null, .null, .null, .null, .null])), (q1, .inl (kd 0, 8, .inl (fun _ => nI 0))), (q2, .inl (kd 0, 320, .inl (fun _ => nI 0))), (q3, .inl (kd 0, 320, .inl (fun _ => nI 0))), (q4, .inl (kd 1, 320, .inl (fun _ => bI false)))] H _ := V
  refine cj_putF X V 0 2 rfl rfl wsM tyM tyM_ok nmM 6 (by decide) fl_M_19 rfl rfl hin rfl rfl rfl (Nat.le_of_ble_eq_true rfl) dM_init_36 (fun H locs V => ?_)
  have V : cj_V D A s.heap [(h0, .inr (2, [.int 0, .int 0, .int 0, .ref q1, .ref q2, .ref q3, .ref q4, .null, .null, .null, .null, .null, .null])), (q1, .inl (kd 0, 8, .inl (fun _ => nI 0))), (q2, .inl (kd 0, 320, .inl (fun _ => nI 0))), (q3, .inl (kd 0, 320, .inl (fun _ => nI 0))), (q4, .inl (kd 1, 320, .inl (fun _ => bI false)))] H locs := V
  refine lv_aload_n hx hb dM_init_39 rfl (lv_at hl 0 rfl) ?_
  refine lv_bipush (v := nI 8) hx hb dM_init_40 (by decide) ?_
  refine cj_newa (atype := .boolean) (a0 := (8, .inl (fun _ => bI false))) X V rfl 1 rfl (fun _ h => h) ac_boolean (fun _ => rfl) (by decide) (by decide) (Nat.le_of_ble_eq_true rfl) (Nat.le_of_ble_eq_true rfl) dM_init_42 (fun q5 H V => ?_)
  have V : cj_V D A s.heap [(h0, .inr (2, [.int 0, .int 0, .int 0, .ref q1, .ref q2, .ref q3, .ref q4, .null, .null, .null, .null, .null, .null])), (q1, .inl (kd 0, 8, .inl (fun _ => nI 0))), (q2, .inl (kd 0, 320, .inl (fun _ => nI 0))), (q3, .inl (kd 0, 320, .inl (fun _ => nI 0))), (q4, .inl (kd 1, 320, .inl (fun _ => bI false))), (q5, .inl (kd 1, 8, .inl (fun _ => bI false)))] H _ := V
  refine cj_putF X V 0 2 rfl rfl wsM tyM tyM_ok nmM 7 (by decide) fl_M_23 rfl rfl hin rfl rfl rfl (Nat.le_of_ble_eq_true rfl) dM_init_44 (fun H locs V => ?_)
  have V : cj_V D A s.heap [(h0, .inr (2, [.int 0, .int 0, .int 0, .ref q1, .ref q2, .ref q3, .ref q4, .ref q5, .null, .null, .null, .null, .null])), (q1, .inl (kd 0, 8, .inl (fun _ => nI 0))), (q2, .inl (kd 0, 320, .inl (fun _ => nI 0))), (q3, .inl (kd 0, 320, .inl (fun _ => nI 0))), (q4, .inl (kd 1, 320, .inl (fun _ => bI false))), (q5, .inl (kd 1, 8, .inl (fun _ => bI false)))] H locs := V
  refine lv_aload_n hx hb dM_init_47 rfl (lv_at hl 0 rfl) ?_
  refine lv_bipush (v := nI 14) hx hb dM_init_48 (by decide) ?_
  refine cj_newa (atype := .int) (a0 := (14, .inl (fun _ => nI 0))) X V rfl 0 rfl (fun _ h => h) ac_int (fun _ => rfl) (by decide) (by decide) (Nat.le_of_ble_eq_true rfl) (Nat.le_of_ble_eq_true rfl) dM_init_50 (fun q6 H V => ?_)
  have V : cj_V D A s.heap [(h0, .inr (2, [.int 0, .int 0, .int 0, .ref q1, .ref q2, .ref q3, .ref q4, .ref q5, .null, .null, .null, .null, .null])), (q1, .inl (kd 0, 8, .inl (fun _ => nI 0))), (q2, .inl (kd 0, 320, .inl (fun _ => nI 0))), (q3, .inl (kd 0, 320, .inl (fun _ => nI 0))), (q4, .inl (kd 1, 320, .inl (fun _ => bI false))), (q5, .inl (kd 1, 8, .inl (fun _ => bI false))), (q6, .inl (kd 0, 14, .inl (fun _ => nI 0)))] H _ := V
  refine cj_putF X V 0 2 rfl rfl wsM tyM tyM_ok nmM 8 (by decide) fl_M_26 rfl rfl hin rfl rfl rfl (Nat.le_of_ble_eq_true rfl) dM_init_52 (fun H locs V => ?_)
  have V : cj_V D A s.heap [(h0, .inr (2, [.int 0, .int 0, .int 0, .ref q1, .ref q2, .ref q3, .ref q4, .ref q5, .ref q6, .null, .null, .null, .null])), (q1, .inl (kd 0, 8, .inl (fun _ => nI 0))), (q2, .inl (kd 0, 320, .inl (fun _ => nI 0))), (q3, .inl (kd 0, 320, .inl (fun _ => nI 0))), (q4, .inl (kd 1, 320, .inl (fun _ => bI false))), (q5, .inl (kd 1, 8, .inl (fun _ => bI false))), (q6, .inl (kd 0, 14, .inl (fun _ => nI 0)))] H locs := V
  refine lv_aload_n hx hb dM_init_55 rfl (lv_at hl 0 rfl) ?_
  refine lv_bipush (v := nI 14) hx hb dM_init_56 (by decide) ?_
  refine cj_newa (atype := .int) (a0 := (14, .inl (fun _ => nI 0))) X V rfl 0 rfl (fun _ h => h) ac_int (fun _ => rfl) (by decide) (by decide) (Nat.le_of_ble_eq_true rfl) (Nat.le_of_ble_eq_true rfl) dM_init_58 (fun q7 H V => ?_)
  have V : cj_V D A s.heap [(h0, .inr (2, [.int 0, .int 0, .int 0, .ref q1, .ref q2, .ref q3, .ref q4, .ref q5, .ref q6, .null, .null, .null, .null])), (q1, .inl (kd 0, 8, .inl (fun _ => nI 0))), (q2, .inl (kd 0, 320, .inl (fun _ => nI 0))), (q3, .inl (kd 0, 320, .inl (fun _ => nI 0))), (q4, .inl (kd 1, 320, .inl (fun _ => bI false))), (q5, .inl (kd 1, 8, .inl (fun _ => bI false))), (q6, .inl (kd 0, 14, .inl (fun _ => nI 0))), (q7, .inl (kd 0, 14, .inl (fun _ => nI 0)))] H _ := V
  refine cj_putF X V 0 2 rfl rfl wsM tyM tyM_ok nmM 9 (by decide) fl_M_29 rfl rfl hin rfl rfl rfl (Nat.le_of_ble_eq_true rfl) dM_init_60 (fun H locs V => ?_)
  have V : cj_V D A s.heap [(h0, .inr (2, [.int 0, .int 0, .int 0, .ref q1, .ref q2, .ref q3, .ref q4, .ref q5, .ref q6, .ref q7, .null, .null, .null])), (q1, .inl (kd 0, 8, .inl (fun _ => nI 0))), (q2, .inl (kd 0, 320, .inl (fun _ => nI 0))), (q3, .inl (kd 0, 320, .inl (fun _ => nI 0))), (q4, .inl (kd 1, 320, .inl (fun _ => bI false))), (q5, .inl (kd 1, 8, .inl (fun _ => bI false))), (q6, .inl (kd 0, 14, .inl (fun _ => nI 0))), (q7, .inl (kd 0, 14, .inl (fun _ => nI 0)))] H locs := V
  refine lv_aload_n hx hb dM_init_63 rfl (lv_at hl 0 rfl) ?_
  refine lv_bipush (v := nI 14) hx hb dM_init_64 (by decide) ?_
  refine cj_newa (atype := .long) (a0 := (14, .inr (.inl (fun _ => 0)))) X V rfl 2 rfl (fun _ h => h) ac_long (fun _ => rfl) (by decide) (by decide) (Nat.le_of_ble_eq_true rfl) (Nat.le_of_ble_eq_true rfl) dM_init_66 (fun q8 H V => ?_)
  have V : cj_V D A s.heap [(h0, .inr (2, [.int 0, .int 0, .int 0, .ref q1, .ref q2, .ref q3, .ref q4, .ref q5, .ref q6, .ref q7, .null, .null, .null])), (q1, .inl (kd 0, 8, .inl (fun _ => nI 0))), (q2, .inl (kd 0, 320, .inl (fun _ => nI 0))), (q3, .inl (kd 0, 320, .inl (fun _ => nI 0))), (q4, .inl (kd 1, 320, .inl (fun _ => bI false))), (q5, .inl (kd 1, 8, .inl (fun _ => bI false))), (q6, .inl (kd 0, 14, .inl (fun _ => nI 0))), (q7, .inl (kd 0, 14, .inl (fun _ => nI 0))), (q8, .inl (kd 2, 14, .inr (.inl (fun _ => 0))))] H _ := V
  refine cj_putF X V 0 2 rfl rfl wsM tyM tyM_ok nmM 10 (by decide) fl_M_32 rfl rfl hin rfl rfl rfl (Nat.le_of_ble_eq_true rfl) dM_init_68 (fun H locs V => ?_)
  have V : cj_V D A s.heap [(h0, .inr (2, [.int 0, .int 0, .int 0, .ref q1, .ref q2, .ref q3, .ref q4, .ref q5, .ref q6, .ref q7, .ref q8, .null, .null])), (q1, .inl (kd 0, 8, .inl (fun _ => nI 0))), (q2, .inl (kd 0, 320, .inl (fun _ => nI 0))), (q3, .inl (kd 0, 320, .inl (fun _ => nI 0))), (q4, .inl (kd 1, 320, .inl (fun _ => bI false))), (q5, .inl (kd 1, 8, .inl (fun _ => bI false))), (q6, .inl (kd 0, 14, .inl (fun _ => nI 0))), (q7, .inl (kd 0, 14, .inl (fun _ => nI 0))), (q8, .inl (kd 2, 14, .inr (.inl (fun _ => 0))))] H locs := V
  refine lv_aload_n hx hb dM_init_71 rfl (lv_at hl 0 rfl) ?_
  refine lv_sipush (v := nI 1681) hx hb dM_init_72 (by decide) ?_
  refine cj_newa (atype := .int) (a0 := (1681, .inl (fun _ => nI 0))) X V rfl 0 rfl (fun _ h => h) ac_int (fun _ => rfl) (by decide) (by decide) (Nat.le_of_ble_eq_true rfl) (Nat.le_of_ble_eq_true rfl) dM_init_75 (fun q9 H V => ?_)
  have V : cj_V D A s.heap [(h0, .inr (2, [.int 0, .int 0, .int 0, .ref q1, .ref q2, .ref q3, .ref q4, .ref q5, .ref q6, .ref q7, .ref q8, .null, .null])), (q1, .inl (kd 0, 8, .inl (fun _ => nI 0))), (q2, .inl (kd 0, 320, .inl (fun _ => nI 0))), (q3, .inl (kd 0, 320, .inl (fun _ => nI 0))), (q4, .inl (kd 1, 320, .inl (fun _ => bI false))), (q5, .inl (kd 1, 8, .inl (fun _ => bI false))), (q6, .inl (kd 0, 14, .inl (fun _ => nI 0))), (q7, .inl (kd 0, 14, .inl (fun _ => nI 0))), (q8, .inl (kd 2, 14, .inr (.inl (fun _ => 0)))), (q9, .inl (kd 0, 1681, .inl (fun _ => nI 0)))] H _ := V
  refine cj_putF X V 0 2 rfl rfl wsM tyM tyM_ok nmM 11 (by decide) fl_M_36 rfl rfl hin rfl rfl rfl (Nat.le_of_ble_eq_true rfl) dM_init_77 (fun H locs V => ?_)
  have V : cj_V D A s.heap [(h0, .inr (2, [.int 0, .int 0, .int 0, .ref q1, .ref q2, .ref q3, .ref q4, .ref q5, .ref q6, .ref q7, .ref q8, .ref q9, .null])), (q1, .inl (kd 0, 8, .inl (fun _ => nI 0))), (q2, .inl (kd 0, 320, .inl (fun _ => nI 0))), (q3, .inl (kd 0, 320, .inl (fun _ => nI 0))), (q4, .inl (kd 1, 320, .inl (fun _ => bI false))), (q5, .inl (kd 1, 8, .inl (fun _ => bI false))), (q6, .inl (kd 0, 14, .inl (fun _ => nI 0))), (q7, .inl (kd 0, 14, .inl (fun _ => nI 0))), (q8, .inl (kd 2, 14, .inr (.inl (fun _ => 0)))), (q9, .inl (kd 0, 1681, .inl (fun _ => nI 0)))] H locs := V
  refine lv_aload_n hx hb dM_init_80 rfl (lv_at hl 0 rfl) ?_
  refine lv_bipush (v := nI 40) hx hb dM_init_81 (by decide) ?_
  refine cj_newa (atype := .int) (a0 := (40, .inl (fun _ => nI 0))) X V rfl 0 rfl (fun _ h => h) ac_int (fun _ => rfl) (by decide) (by decide) (Nat.le_of_ble_eq_true rfl) (Nat.le_of_ble_eq_true rfl) dM_init_83 (fun q10 H V => ?_)
  have V : cj_V D A s.heap [(h0, .inr (2, [.int 0, .int 0, .int 0, .ref q1, .ref q2, .ref q3, .ref q4, .ref q5, .ref q6, .ref q7, .ref q8, .ref q9, .null])), (q1, .inl (kd 0, 8, .inl (fun _ => nI 0))), (q2, .inl (kd 0, 320, .inl (fun _ => nI 0))), (q3, .inl (kd 0, 320, .inl (fun _ => nI 0))), (q4, .inl (kd 1, 320, .inl (fun _ => bI false))), (q5, .inl (kd 1, 8, .inl (fun _ => bI false))), (q6, .inl (kd 0, 14, .inl (fun _ => nI 0))), (q7, .inl (kd 0, 14, .inl (fun _ => nI 0))), (q8, .inl (kd 2, 14, .inr (.inl (fun _ => 0)))), (q9, .inl (kd 0, 1681, .inl (fun _ => nI 0))), (q10, .inl (kd 0, 40, .inl (fun _ => nI 0)))] H _ := V
  refine cj_putF X V 0 2 rfl rfl wsM tyM tyM_ok nmM 12 (by decide) fl_M_39 rfl rfl hin rfl rfl rfl (Nat.le_of_ble_eq_true rfl) dM_init_85 (fun H locs V => ?_)
  have V : cj_V D A s.heap [(h0, .inr (2, [.int 0, .int 0, .int 0, .ref q1, .ref q2, .ref q3, .ref q4, .ref q5, .ref q6, .ref q7, .ref q8, .ref q9, .ref q10])), (q1, .inl (kd 0, 8, .inl (fun _ => nI 0))), (q2, .inl (kd 0, 320, .inl (fun _ => nI 0))), (q3, .inl (kd 0, 320, .inl (fun _ => nI 0))), (q4, .inl (kd 1, 320, .inl (fun _ => bI false))), (q5, .inl (kd 1, 8, .inl (fun _ => bI false))), (q6, .inl (kd 0, 14, .inl (fun _ => nI 0))), (q7, .inl (kd 0, 14, .inl (fun _ => nI 0))), (q8, .inl (kd 2, 14, .inr (.inl (fun _ => 0)))), (q9, .inl (kd 0, 1681, .inl (fun _ => nI 0))), (q10, .inl (kd 0, 40, .inl (fun _ => nI 0)))] H locs := V
  exact cj_retc [h0, q1, q2, q3, q4, q5, q6, q7, q8, q9, q10] X hr V rfl dM_init_88
