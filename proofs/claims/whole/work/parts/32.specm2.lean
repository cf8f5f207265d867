-- THE REFERENCE: counts
theorem cj_cs_t {f : Nat → Bool} {i : Nat} (h : f i = true) : cj_cnt f (i + 1) = cj_cnt f i + 1 := by
  show cj_cnt f i + (f i).toNat = _
  rw [h]
  rfl
theorem cj_cs_f {f : Nat → Bool} {i : Nat} (h : f i = false) : cj_cnt f (i + 1) = cj_cnt f i + 0 := by
  show cj_cnt f i + (f i).toNat = _
  rw [h]
  rfl
/-- does line i of edition e count for owner o -/
def cj_F (ow : Nat → Nat) (ge : Nat → Bool) (h : Int64) (ea o : Nat) (b : Bool) (i : Nat) : Bool := decide (ow (40 * ea + i) = o) && (!ge (40 * ea + i) && (!b || cj_tb h i))
def cj_shr (n : Nat → Nat) (ow : Nat → Nat) (ge : Nat → Bool) (ed : Nat → Nat) (hz : Nat → Int64) (j o : Nat) (b : Bool) : Nat := cj_cnt (cj_F ow ge (hz j) (ed j) o b) (n (ed j))
def f_shareM (rn : Nat) (n : Nat → Nat) (ow : Nat → Nat) (ge : Nat → Bool) (ed : Nat → Nat) (hz : Nat → Int64) (x z : Int32) (b : Bool) : Int32 := match cj_ix x rn with
  | none => -1
  | some j => match cj_ix z 4 with
    | none => -1
    | some o => nI (cj_shr n ow ge ed hz j o b)
def f_fallsM (rn : Nat) (n : Nat → Nat) (ow : Nat → Nat) (ge : Nat → Bool) (ed : Nat → Nat) (hz : Nat → Int64) (x y z : Int32) : Int32 := match cj_ix x rn with
  | none => -2
  | some a => match cj_ix y rn with
    | none => -2
    | some b => match cj_ix z 4 with
      | none => -2
      | some o => if cj_shr n ow ge ed hz a o false = 0 then -1 else if cj_shr n ow ge ed hz b o false = 0 then -1 else
        if cj_shr n ow ge ed hz a o true * cj_shr n ow ge ed hz b o false < cj_shr n ow ge ed hz b o true * cj_shr n ow ge ed hz a o false then nI 1 else nI 0
theorem cj_shr_le {n : Nat → Nat} {ow : Nat → Nat} {ge : Nat → Bool} {ed : Nat → Nat} {hz : Nat → Int64} {j o : Nat} {b : Bool} (h : n (ed j) ≤ 40) : cj_shr n ow ge ed hz j o b ≤ 40 := Nat.le_trans (cj_cnt_le _ _) h
theorem cj_or0 (x : Int32) : x ||| nI 0 = x := Int32.or_zero
theorem cj_or0L (x : Int64) : x ||| 0 = x := Int64.or_zero
theorem cj_pop40 {x : Int64} (h : ∀ i, 40 ≤ i → cj_tb x i = false) : cj_pop x = cj_cnt (cj_tb x) 40 := cj_cnt_stop (by decide) (fun i hi _ => h i hi)
