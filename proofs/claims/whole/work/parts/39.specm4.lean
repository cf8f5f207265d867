-- THE REFERENCE: sets of runs as numbers
theorem cj_sl5 : ∀ k, k < 32 → ((nI k &&& 31).toBitVec.smod 32).toNat = k := by decide +kernel
theorem cj_bit1 {s r : Nat} (hs : s < 2 ^ 31) (hr : r < 32) : (nI s >>> (nI r &&& 31)) &&& nI 1 = nI ((s.testBit r).toNat) := by
  rw [pk_shrN hs _ r (cj_sl5 r hr), pk_andN (k := 1) (by have := Nat.div_le_self s (2 ^ r); omega) (by decide), Nat.toNat_testBit]
theorem cj_pow1 {r : Nat} (hr : r < 31) : nI 1 <<< (nI r &&& 31) = nI (2 ^ r) := by
  have h : 2 ^ r < 2 ^ 31 := wb_lt2 hr
  rw [pk_shlN _ r (cj_sl5 r (by omega)) (by omega), Nat.one_mul]
theorem cj_iorN (a b : Nat) : nI a ||| nI b = nI (a ||| b) := by
  apply Int32.toBitVec_inj.mp
  rw [Int32.toBitVec_or]
  show BitVec.ofNat 32 a ||| BitVec.ofNat 32 b = BitVec.ofNat 32 (a ||| b)
  apply BitVec.eq_of_getLsbD_eq
  intro i hi
  simp [BitVec.getLsbD_ofNat, hi]
/-- the runs of an edition before r, as bits -/
def cj_om (ed : Nat → Nat) (ea : Nat) : Nat → Nat
  | 0 => 0
  | r + 1 => if ed r = ea then cj_om ed ea r + 2 ^ r else cj_om ed ea r
/-- what the runs of a set before r hit, and what they cost -/
def cj_hs (hz : Nat → Int64) (s : Nat) : Nat → Int64
  | 0 => 0
  | r + 1 => bif s.testBit r then cj_hs hz s r ||| hz r else cj_hs hz s r
def cj_su (co : Nat → Nat) (s : Nat) : Nat → Nat
  | 0 => 0
  | r + 1 => bif s.testBit r then cj_su co s r + co r else cj_su co s r
def cj_on (s : Nat) : Nat := cj_cnt s.testBit 14
/-- is s better than the best so far -/
def cj_bt (co : Nat → Nat) (rn : Nat) (B : Option Nat) (s : Nat) : Bool := match B with
  | none => true
  | some t => decide (cj_su co s rn < cj_su co t rn) || (decide (cj_su co s rn = cj_su co t rn) && decide (cj_on s < cj_on t))
/-- the best of the sets before s -/
def cj_bs (co : Nat → Nat) (hz : Nat → Int64) (rn own : Nat) (all : Int64) : Nat → Option Nat
  | 0 => none
  | s + 1 => bif decide (nI s &&& (nI own ^^^ (-1)) = 0) && (decide (cj_hs hz s rn = all) && cj_bt co rn (cj_bs co hz rn own all s) s) then some s else cj_bs co hz rn own all s
def cj_bc (co : Nat → Nat) (rn : Nat) (B : Option Nat) : Nat := match B with
  | none => 0
  | some t => cj_su co t rn
section CJP8
variable {ed co : Nat → Nat} {hz : Nat → Int64} {ea r s rn own : Nat} {all : Int64}
theorem cj_om_lt : ∀ r : Nat, cj_om ed ea r < 2 ^ r
  | 0 => Nat.zero_lt_one
  | r + 1 => by
    have h := cj_om_lt r
    have h2 : 2 ^ (r + 1) = 2 * 2 ^ r := by rw [Nat.pow_succ]; omega
    show (if ed r = ea then cj_om ed ea r + 2 ^ r else cj_om ed ea r) < _
    split <;> omega
theorem cj_om_t (h : ed r = ea) : cj_om ed ea (r + 1) = cj_om ed ea r + 2 ^ r := if_pos h
theorem cj_om_f (h : ed r ≠ ea) : cj_om ed ea (r + 1) = cj_om ed ea r := if_neg h
theorem cj_om_or (hr : r < 31) (h : ed r = ea) : nI (cj_om ed ea r) ||| (nI 1 <<< (nI r &&& 31)) = nI (cj_om ed ea (r + 1)) := by
  rw [cj_pow1 hr, cj_iorN, cj_om_t h, Nat.or_comm]
  have := Nat.two_pow_add_eq_or_of_lt (cj_om_lt (ed := ed) (ea := ea) r) 1
  rw [Nat.mul_one] at this
  rw [← this, Nat.add_comm]
theorem cj_hs_t (h : s.testBit r = true) : cj_hs hz s (r + 1) = cj_hs hz s r ||| hz r := by
  show (bif s.testBit r then _ else _) = _
  rw [h]
  rfl
theorem cj_hs_f (h : s.testBit r = false) : cj_hs hz s (r + 1) = cj_hs hz s r := by
  show (bif s.testBit r then _ else _) = _
  rw [h]
  rfl
theorem cj_su_t (h : s.testBit r = true) : cj_su co s (r + 1) = cj_su co s r + co r := by
  show (bif s.testBit r then _ else _) = _
  rw [h]
  rfl
theorem cj_su_f (h : s.testBit r = false) : cj_su co s (r + 1) = cj_su co s r := by
  show (bif s.testBit r then _ else _) = _
  rw [h]
  rfl
theorem cj_su_le (hco : ∀ r, co r ≤ 100000) : ∀ r : Nat, cj_su co s r ≤ 100000 * r
  | 0 => Nat.le_refl 0
  | r + 1 => by
    have h1 := cj_su_le hco r
    have h2 := hco r
    cases h : s.testBit r with
    | true => rw [cj_su_t h]; omega
    | false => rw [cj_su_f h]; omega
theorem cj_bs_t (h1 : nI s &&& (nI own ^^^ (-1)) = 0) (h2 : cj_hs hz s rn = all) (h3 : cj_bt co rn (cj_bs co hz rn own all s) s = true) : cj_bs co hz rn own all (s + 1) = some s := by
  show (bif decide (nI s &&& (nI own ^^^ (-1)) = 0) && (decide (cj_hs hz s rn = all) && cj_bt co rn (cj_bs co hz rn own all s) s) then some s else cj_bs co hz rn own all s) = _
  rw [decide_eq_true h1, decide_eq_true h2, h3]
  rfl
theorem cj_bs_1 (h1 : ¬ nI s &&& (nI own ^^^ (-1)) = 0) : cj_bs co hz rn own all (s + 1) = cj_bs co hz rn own all s := by
  show (bif decide (nI s &&& (nI own ^^^ (-1)) = 0) && (decide (cj_hs hz s rn = all) && cj_bt co rn (cj_bs co hz rn own all s) s) then some s else cj_bs co hz rn own all s) = _
  rw [decide_eq_false h1]
  rfl
theorem cj_bs_2 (h2 : ¬ cj_hs hz s rn = all) : cj_bs co hz rn own all (s + 1) = cj_bs co hz rn own all s := by
  show (bif decide (nI s &&& (nI own ^^^ (-1)) = 0) && (decide (cj_hs hz s rn = all) && cj_bt co rn (cj_bs co hz rn own all s) s) then some s else cj_bs co hz rn own all s) = _
  rw [decide_eq_false h2, Bool.false_and, Bool.and_false]
  rfl
theorem cj_bs_3 (h3 : cj_bt co rn (cj_bs co hz rn own all s) s = false) : cj_bs co hz rn own all (s + 1) = cj_bs co hz rn own all s := by
  show (bif decide (nI s &&& (nI own ^^^ (-1)) = 0) && (decide (cj_hs hz s rn = all) && cj_bt co rn (cj_bs co hz rn own all s) s) then some s else cj_bs co hz rn own all s) = _
  rw [h3, Bool.and_false, Bool.and_false]
  rfl
theorem cj_bs_lt : ∀ {s t : Nat}, cj_bs co hz rn own all s = some t → t < s
  | 0, _, h => by cases h
  | s + 1, t, h => by
    by_cases h1 : nI s &&& (nI own ^^^ (-1)) = 0
    · by_cases h2 : cj_hs hz s rn = all
      · cases h3 : cj_bt co rn (cj_bs co hz rn own all s) s with
        | true => rw [cj_bs_t h1 h2 h3] at h; cases h; exact Nat.lt_succ_self _
        | false => rw [cj_bs_3 h3] at h; have := cj_bs_lt h; omega
      · rw [cj_bs_2 h2] at h; have := cj_bs_lt h; omega
    · rw [cj_bs_1 h1] at h; have := cj_bs_lt h; omega
end CJP8
def f_leastM (E rn : Nat) (ed co : Nat → Nat) (hz : Nat → Int64) (x : Int32) : Int32 := match cj_ix x E with
  | none => -1
  | some ea => nI (cj_bc co rn (cj_bs co hz rn (cj_om ed ea rn) (cj_sn ed hz ea rn) (2 ^ rn)))
def c_leastM (E rn : Nat) (ed co : Nat → Nat) (hz : Nat → Int64) (ch x : Int32) : Int32 := match cj_ix x E with
  | none => ch
  | some ea => oI (cj_bs co hz rn (cj_om ed ea rn) (cj_sn ed hz ea rn) (2 ^ rn))
theorem cj_p2 {rn : Nat} (h : rn ≤ 14) : 2 ^ rn ≤ 16384 := Nat.pow_le_pow_right (by decide) h
theorem cj_tn1 {b : Bool} (h : b.toNat = 1) : b = true := by cases b <;> simp_all
theorem cj_tn0 {b : Bool} (h : b.toNat ≠ 1) : b = false := by cases b <;> simp_all
theorem cj_tnle (b : Bool) : b.toNat ≤ 1 := by cases b <;> decide
theorem cj_on_le (s : Nat) : cj_on s ≤ 14 := cj_cnt_le _ _
