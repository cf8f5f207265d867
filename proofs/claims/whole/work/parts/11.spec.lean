-- WHAT THE CALLS ANSWER, as functions of the state that class and reference share
/-- x as one of the first k numbers -/
def cj_ix (x : Int32) (k : Nat) : Option Nat := if x.toNatClampNeg < k ∧ x = nI x.toNatClampNeg then some x.toNatClampNeg else none
theorem cj_ix_t {j k : Nat} (hj : j < k) (hk : k < 2 ^ 31) : cj_ix (nI j) k = some j := by
  unfold cj_ix
  rw [nI_clamp (Nat.lt_trans hj hk), if_pos ⟨hj, rfl⟩]
theorem cj_ix_f {x : Int32} {k : Nat} (h : ¬ cj_in x k) : cj_ix x k = none := if_neg (fun ⟨a, b⟩ => h ⟨_, a, b⟩)
theorem cj_ix_lt {x : Int32} {k j : Nat} (h : cj_ix x k = some j) : j < k := by
  unfold cj_ix at h
  split at h
  · rename_i hc
    cases h
    exact hc.1
  · cases h
def f_lines (E : Nat) (n : Nat → Nat) (x : Int32) : Int32 := match cj_ix x E with
  | none => -1
  | some j => nI (n j)
def f_covered (rn : Nat) (n ed : Nat → Nat) (hz : Nat → Int64) (x y : Int32) : Int32 := match cj_ix x rn with
  | none => nI 0
  | some j => match cj_ix y (n (ed j)) with
    | none => nI 0
    | some i => bI (cj_tb (hz j) i)
def o_hit (rn : Nat) (n ed : Nat → Nat) (hz : Nat → Int64) (x y : Int32) : Option (Nat × Nat) := match cj_ix x rn with
  | none => none
  | some j => match cj_ix y (n (ed j)) with
    | none => none
    | some i => bif cj_tb (hz j) i then none else some (j, i)
def f_hit (o : Option (Nat × Nat)) : Int32 := match o with
  | none => nI 0
  | some _ => nI 1
def h_hit (hz : Nat → Int64) (o : Option (Nat × Nat)) : Nat → Int64 := match o with
  | none => hz
  | some (j, i) => va_up hz j (hz j ||| cj_bit i)
/-- a run that is to come: its edition, cost, lines -/
abbrev cj_new : Type := Option (Nat × Nat × Int64)
def f_add (rn : Nat) (o : cj_new) : Int32 := match o with
  | none => -1
  | some _ => nI rn
def a_rn (rn : Nat) (o : cj_new) : Nat := match o with
  | none => rn
  | some _ => rn + 1
def a_ed (rn : Nat) (ed : Nat → Nat) (o : cj_new) : Nat → Nat := match o with
  | none => ed
  | some (e, _, _) => va_up ed rn e
def a_co (rn : Nat) (co : Nat → Nat) (o : cj_new) : Nat → Nat := match o with
  | none => co
  | some (_, c, _) => va_up co rn c
def a_hz (rn : Nat) (hz : Nat → Int64) (o : cj_new) : Nat → Int64 := match o with
  | none => hz
  | some (_, _, h) => va_up hz rn h
def a_cl (cl : Nat → Bool) (o : cj_new) : Nat → Bool := match o with
  | none => cl
  | some (e, _, _) => va_up cl e true
def o_room (rn : Nat) (e c : Nat) (h : Int64) : cj_new := if rn < 14 then some (e, c, h) else none
def o_run (E rn : Nat) (x y : Int32) : cj_new := match cj_ix x E with
  | none => none
  | some e => match cj_ix y 100001 with
    | none => none
    | some c => o_room rn e c 0
def o_join (rn : Nat) (ed co : Nat → Nat) (hz : Nat → Int64) (x y : Int32) : cj_new := match cj_ix x rn with
  | none => none
  | some a => match cj_ix y rn with
    | none => none
    | some b => if ed a = ed b then o_room rn (ed a) (min (co a + co b) 100000) (hz a ||| hz b) else none
def f_about (rn : Nat) (ed co : Nat → Nat) (hz : Nat → Int64) (x y : Int32) : Int32 := match cj_ix x rn with
  | none => -1
  | some j => if y = nI 0 then nI (ed j) else if y = nI 1 then nI (co j) else if y = nI 2 then nI (cj_pop (hz j)) else -1
/-- a line that is to come: its edition and owner -/
def o_line (E : Nat) (n : Nat → Nat) (cl : Nat → Bool) (x z : Int32) : Option (Nat × Nat) := match cj_ix x E with
  | none => none
  | some e => match cj_ix z 4 with
    | none => none
    | some o => bif cl e then none else if n e < 40 then some (e, o) else none
def f_line (n : Nat → Nat) (o : Option (Nat × Nat)) : Int32 := match o with
  | none => -1
  | some (e, _) => nI (n e)
def l_n (n : Nat → Nat) (o : Option (Nat × Nat)) : Nat → Nat := match o with
  | none => n
  | some (e, _) => va_up n e (n e + 1)
def f_edition (E : Nat) : Int32 := if E < 8 then nI E else -1
def e_E (E : Nat) : Nat := if E < 8 then E + 1 else E
theorem cj_tb_0 (i : Nat) : cj_tb 0 i = false := by
  rw [show (0 : Int64) = lN 0 from rfl, cj_tb_lN]
  simp
theorem cj_and_bit {x : Int64} {i : Nat} (hi : i < 64) : (x &&& cj_bit i = 0) ↔ cj_tb x i = false := by
  have hb : ∀ k, k < 64 → cj_tb (cj_bit i) k = decide (k = i) := by
    intro k hk
    unfold cj_bit
    rw [cj_tb_lN, Nat.testBit_two_pow]
    simp [hk, eq_comm]
  constructor
  · intro h
    have h1 : cj_tb (x &&& cj_bit i) i = false := by rw [h, cj_tb_0]
    unfold cj_tb at h1
    rw [Int64.toBitVec_and, BitVec.getLsbD_and] at h1
    have h2 := hb i hi
    unfold cj_tb at h2
    rw [h2] at h1
    simpa [cj_tb] using h1
  · intro h
    apply wb_inj
    apply BitVec.eq_of_getLsbD_eq
    intro k hk
    rw [Int64.toBitVec_and, BitVec.getLsbD_and]
    have h2 := hb k hk
    unfold cj_tb at h2 h
    rw [h2]
    by_cases e : k = i
    · subst e
      rw [h]
      simp
    · simp [e]
theorem cj_ab_t {x : Int64} {i : Nat} (hi : i < 64) (h : ¬ (x &&& cj_bit i) = 0) : cj_tb x i = true := by
  cases hc : cj_tb x i with
  | true => rfl
  | false => exact absurd ((cj_and_bit hi).mpr hc) h
theorem cj_ab_f {x : Int64} {i : Nat} (hi : i < 64) (h : (x &&& cj_bit i) = 0) : cj_tb x i = false := (cj_and_bit hi).mp h
theorem cj_pop_le (x : Int64) : cj_pop x ≤ 64 := cj_cnt_le _ _
theorem cj_cost_t {y : Int32} (h0 : ¬ y < 0) (h1 : y ≤ nI 100000) : cj_in y 100001 := by
  refine cj_ixt h0 (fun h => ?_) (by decide)
  have h2 : nI 100001 ≤ nI 100000 := Int32.le_trans h h1
  exact absurd ((nI_leI (by decide) (by decide)).mp h2) (by decide)
theorem cj_cost_f {y : Int32} (h1 : ¬ y ≤ nI 100000) : ¬ cj_in y 100001 := fun ⟨j, hj, e⟩ => h1 (by rw [e]; exact (nI_leI (by omega) (by decide)).mpr (by omega))
theorem cj_sw3 {y : Int32} (h0 : ¬ y = nI 0) (h1 : ¬ y = nI 1) (h2 : ¬ y = nI 2) : y.toInt < 0 ∨ 2 < y.toInt := by
  rcases Int.lt_or_le y.toInt 0 with h | h
  · exact Or.inl h
  · rcases Int.lt_or_le 2 y.toInt with h3 | h3
    · exact Or.inr h3
    · exfalso
      rcases (show y.toInt = 0 ∨ y.toInt = 1 ∨ y.toInt = 2 by omega) with e | e | e
      · exact h0 (Int32.toInt_inj.mp (e.trans (by decide)))
      · exact h1 (Int32.toInt_inj.mp (e.trans (by decide)))
      · exact h2 (Int32.toInt_inj.mp (e.trans (by decide)))
def l_con (n : Nat → Nat) (con : Nat → Nat → Int32) (y : Int32) (o : Option (Nat × Nat)) : Nat → Nat → Int32 := match o with
  | none => con
  | some (e, _) => va_up con e (va_up (con e) (n e) y)
def l_ow (n : Nat → Nat) (ow : Nat → Nat → Int64) (g : Bool) (o : Option (Nat × Nat)) : Nat → Nat → Int64 := match o with
  | none => ow
  | some (e, o) => bif g then ow else va_up ow e (va_up (ow e) o (ow e o ||| cj_bit (n e)))
def f_shareC (rn : Nat) (ed : Nat → Nat) (ow : Nat → Nat → Int64) (hz : Nat → Int64) (x z : Int32) (b : Bool) : Int32 := match cj_ix x rn with
  | none => -1
  | some j => match cj_ix z 4 with
    | none => -1
    | some o => bif b then nI (cj_pop (ow (ed j) o &&& hz j)) else nI (cj_pop (ow (ed j) o))
def f_fallsC (rn : Nat) (ed : Nat → Nat) (ow : Nat → Nat → Int64) (hz : Nat → Int64) (x y z : Int32) : Int32 := match cj_ix x rn with
  | none => -2
  | some a => match cj_ix y rn with
    | none => -2
    | some b => match cj_ix z 4 with
      | none => -2
      | some o => if cj_pop (ow (ed a) o) = 0 then -1 else if cj_pop (ow (ed b) o) = 0 then -1 else
        if cj_pop (ow (ed a) o &&& hz a) * cj_pop (ow (ed b) o) < cj_pop (ow (ed b) o &&& hz b) * cj_pop (ow (ed a) o) then nI 1 else nI 0
