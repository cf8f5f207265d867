-- THE REFERENCE: fresh lines
abbrev cj_c2 (con : Nat → Int32) : Nat → Nat → Int32 := fun ea i => con (40 * ea + i)
def cj_pa (pp : Nat → Option Nat) : Nat → Int64
  | 0 => 0
  | i + 1 => match pp i with
    | none => cj_pa pp i
    | some q => cj_pa pp i ||| cj_bit q
theorem cj_pa_n {pp : Nat → Option Nat} {i : Nat} (h : pp i = none) : cj_pa pp (i + 1) = cj_pa pp i := by
  show (match pp i with | none => cj_pa pp i | some q => cj_pa pp i ||| cj_bit q) = _
  rw [h]
theorem cj_pa_s {pp : Nat → Option Nat} {i q : Nat} (h : pp i = some q) : cj_pa pp (i + 1) = cj_pa pp i ||| cj_bit q := by
  show (match pp i with | none => cj_pa pp i | some q => cj_pa pp i ||| cj_bit q) = _
  rw [h]
def cj_FR (ge : Nat → Bool) (old h : Int64) (ea : Nat) (b : Bool) (i : Nat) : Bool := !cj_tb old i && (!ge (40 * ea + i) && (!b || cj_tb h i))
def f_freshM (E rn : Nat) (n : Nat → Nat) (con : Nat → Nat → Int32) (ge : Nat → Bool) (ed : Nat → Nat) (hz : Nat → Int64) (x y : Int32) (b : Bool) : Int32 := match cj_ix x rn with
  | none => -1
  | some j => match cj_ix y E with
    | none => -1
    | some ea => nI (cj_cnt (cj_FR ge (cj_pa (cj_pp (con ea) (con (ed j)) (n ea) (n (ed j))) (n ea)) (hz j) (ed j) b) (n (ed j)))
theorem cj_sar0 {x : Int64} {i : Nat} (hi : i < 64) : ((x >>> ((nI i).toInt64 &&& 63)) &&& lN 1 = 0) ↔ cj_tb x i = false := by
  rw [← cj_sar_bit hi]
  generalize x >>> ((nI i).toInt64 &&& 63) = z
  have := cj_and_bit (x := z) (i := 0) (by decide)
  rw [show cj_bit 0 = lN 1 from rfl] at this
  exact this
theorem cj_sar0_f {x : Int64} {i : Nat} (hi : i < 64) (h : ¬ (x >>> ((nI i).toInt64 &&& 63)) &&& lN 1 = 0) : cj_tb x i = true := by
  cases hc : cj_tb x i with
  | true => rfl
  | false => exact absurd ((cj_sar0 hi).mpr hc) h
