-- PURE: what the class's loops compute
/-- a place, or none -/
def oI (o : Option Nat) : Int32 := match o with
  | none => -1
  | some q => nI q
theorem cj_subp (a : Nat) : nI a - nI 1 = cj_p a := rfl
theorem cj_nm1 {q : Nat} (h : q < 2 ^ 31) : ¬ nI q = -1 := fun e => by
  have h1 := nI_pos h
  rw [e] at h1
  exact h1 (by decide)
/-- the lines of an edition that count, of the first k owners -/
def cj_ug (ow : Nat → Nat → Int64) (ea : Nat) : Nat → Int64
  | 0 => 0
  | k + 1 => cj_ug ow ea k ||| ow ea k
/-- the pairs of some lines, of the first i -/
def cj_po (pp : Nat → Option Nat) (sm : Int64) : Nat → Int64
  | 0 => 0
  | i + 1 => bif cj_tb sm i then (match pp i with | none => cj_po pp sm i | some q => cj_po pp sm i ||| cj_bit q) else cj_po pp sm i
theorem cj_po_f {pp : Nat → Option Nat} {sm : Int64} {i : Nat} (h : cj_tb sm i = false) : cj_po pp sm (i + 1) = cj_po pp sm i := by
  show (bif cj_tb sm i then _ else _) = _
  rw [h]
  rfl
theorem cj_po_n {pp : Nat → Option Nat} {sm : Int64} {i : Nat} (h : pp i = none) : cj_po pp sm (i + 1) = cj_po pp sm i := by
  show (bif cj_tb sm i then (match pp i with | none => cj_po pp sm i | some q => cj_po pp sm i ||| cj_bit q) else cj_po pp sm i) = _
  rw [h]
  cases cj_tb sm i <;> rfl
theorem cj_po_s {pp : Nat → Option Nat} {sm : Int64} {i q : Nat} (h : cj_tb sm i = true) (h2 : pp i = some q) : cj_po pp sm (i + 1) = cj_po pp sm i ||| cj_bit q := by
  show (bif cj_tb sm i then (match pp i with | none => cj_po pp sm i | some q => cj_po pp sm i ||| cj_bit q) else cj_po pp sm i) = _
  rw [h, h2]
  rfl
/-- the least place from f on, of d, with that content -/
def cj_fd (b : Nat → Int32) (x : Int32) : Nat → Nat → Option Nat
  | 0, _ => none
  | d + 1, f => if b f = x then some f else cj_fd b x d (f + 1)
theorem cj_fd_lt {b : Nat → Int32} {x : Int32} : ∀ {d f q : Nat}, cj_fd b x d f = some q → f ≤ q ∧ q < f + d ∧ b q = x
  | 0, _, _, h => by cases h
  | d + 1, f, q, h => by
    unfold cj_fd at h
    by_cases hb : b f = x
    · rw [if_pos hb] at h
      cases h
      exact ⟨Nat.le_refl _, by omega, hb⟩
    · rw [if_neg hb] at h
      have := cj_fd_lt h
      exact ⟨by omega, by omega, this.2.2⟩
theorem cj_fd_t {b : Nat → Int32} {x : Int32} {d f : Nat} (h : b f = x) : cj_fd b x (d + 1) f = some f := if_pos h
theorem cj_fd_f {b : Nat → Int32} {x : Int32} {d f : Nat} (h : ¬ b f = x) : cj_fd b x (d + 1) f = cj_fd b x d (f + 1) := if_neg h
/-- what the runs of an edition before r hit; which of them add nothing -/
def cj_sn (ed : Nat → Nat) (hz : Nat → Int64) (ea : Nat) : Nat → Int64
  | 0 => 0
  | r + 1 => if ed r = ea then cj_sn ed hz ea r ||| hz r else cj_sn ed hz ea r
def cj_dd (ed : Nat → Nat) (hz : Nat → Int64) (ea : Nat) : Nat → Int32
  | 0 => nI 0
  | r + 1 => if ed r = ea then (if hz r &&& (cj_sn ed hz ea r ^^^ (-1)) = 0 then cj_dd ed hz ea r ||| (nI 1 <<< (nI r &&& 31)) else cj_dd ed hz ea r) else cj_dd ed hz ea r
def f_dead (E rn : Nat) (ed : Nat → Nat) (hz : Nat → Int64) (x : Int32) : Int32 := match cj_ix x E with
  | none => nI 0
  | some ea => cj_dd ed hz ea rn
section CJP1
variable {ed : Nat → Nat} {hz : Nat → Int64} {ea r : Nat}
theorem cj_sn_t (h : ed r = ea) : cj_sn ed hz ea (r + 1) = cj_sn ed hz ea r ||| hz r := if_pos h
theorem cj_sn_f (h : ed r ≠ ea) : cj_sn ed hz ea (r + 1) = cj_sn ed hz ea r := if_neg h
theorem cj_dd_f (h : ed r ≠ ea) : cj_dd ed hz ea (r + 1) = cj_dd ed hz ea r := if_neg h
theorem cj_dd_0 (h : ed r = ea) (h0 : hz r &&& (cj_sn ed hz ea r ^^^ (-1)) = 0) : cj_dd ed hz ea (r + 1) = cj_dd ed hz ea r ||| (nI 1 <<< (nI r &&& 31)) := (if_pos h).trans (if_pos h0)
theorem cj_dd_1 (h : ed r = ea) (h0 : ¬ hz r &&& (cj_sn ed hz ea r ^^^ (-1)) = 0) : cj_dd ed hz ea (r + 1) = cj_dd ed hz ea r := (if_pos h).trans (if_neg h0)
end CJP1
