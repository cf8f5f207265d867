-- PURE: candidates, their weights, the lightest cover as the class seeks it
/-- the runs before i of an edition -/
def cj_cd (ed : Nat → Nat) (ea : Nat) : Nat → List Nat
  | 0 => []
  | i + 1 => if ed i = ea then cj_cd ed ea i ++ [i] else cj_cd ed ea i
def cj_wt (co : Nat → Nat) (r : Nat) : Nat := co r * 262144 + 16384 + 2 ^ r
/-- what some runs hit together -/
def cj_or (hz : Nat → Int64) : List Nat → Int64
  | [] => 0
  | r :: M => cj_or hz M ||| hz r
def cj_G (L : List Nat) (co : Nat → Nat) (hz hs wg : Nat → Int64) : Prop := ∀ k r, L[k]? = some r → hs k = hz r ∧ wg k = lN (cj_wt co r)
def cj_Rr (L : List Nat) (hz rs : Nat → Int64) (a : Nat) : Prop := ∀ k, a ≤ k → k ≤ L.length → rs k = cj_or hz (L.drop k)
def cj_ll (co : Nat → Nat) (hz : Nat → Int64) : List Nat → Int64 → Int64 → Int64 → Int64
  | [], ms, wt, bs => if wt < bs then (if ms = 0 then wt else bs) else bs
  | r :: M, ms, wt, bs => if wt < bs then (if ms = 0 then wt else if ms &&& (cj_or hz (r :: M) ^^^ (-1)) = 0 then
      cj_ll co hz M ms wt (if ms &&& hz r = 0 then bs else cj_ll co hz M (ms &&& (hz r ^^^ (-1))) (wt + lN (cj_wt co r)) bs) else bs) else bs
section CJP5
variable {ed co : Nat → Nat} {hz hs wg rs : Nat → Int64} {ea i : Nat} {L : List Nat}
theorem cj_cd_t (h : ed i = ea) : cj_cd ed ea (i + 1) = cj_cd ed ea i ++ [i] := if_pos h
theorem cj_cd_f (h : ed i ≠ ea) : cj_cd ed ea (i + 1) = cj_cd ed ea i := if_neg h
theorem cj_cl_t (h : ed i = ea) : (cj_cd ed ea (i + 1)).length = (cj_cd ed ea i).length + 1 := by rw [cj_cd_t h, List.length_append]; rfl
theorem cj_cl_f (h : ed i ≠ ea) : (cj_cd ed ea (i + 1)).length = (cj_cd ed ea i).length := by rw [cj_cd_f h]
theorem cj_cd_len : ∀ i : Nat, (cj_cd ed ea i).length ≤ i
  | 0 => Nat.le_refl 0
  | i + 1 => by
    have := cj_cd_len i
    by_cases h : ed i = ea
    · rw [cj_cl_t h]; omega
    · rw [cj_cl_f h]; omega
theorem cj_G_t (h : ed i = ea) (hG : cj_G (cj_cd ed ea i) co hz hs wg) : cj_G (cj_cd ed ea (i + 1)) co hz (va_up hs (cj_cd ed ea i).length (hz i)) (va_up wg (cj_cd ed ea i).length (lN (cj_wt co i))) := by
  intro k r hk
  rw [cj_cd_t h] at hk
  by_cases hl : k < (cj_cd ed ea i).length
  · rw [List.getElem?_append_left hl] at hk
    rw [va_up_ne _ _ (by omega), va_up_ne _ _ (by omega)]
    exact hG k r hk
  · have h1 : k < (cj_cd ed ea i ++ [i]).length := (List.getElem?_eq_some_iff.mp hk).1
    rw [List.length_append, List.length_singleton] at h1
    obtain rfl : k = (cj_cd ed ea i).length := by omega
    rw [List.getElem?_append_right (Nat.le_refl _), Nat.sub_self] at hk
    cases hk
    rw [va_up_self, va_up_self]
    exact ⟨rfl, rfl⟩
theorem cj_G_f (h : ed i ≠ ea) (hG : cj_G (cj_cd ed ea i) co hz hs wg) : cj_G (cj_cd ed ea (i + 1)) co hz hs wg := by rw [cj_cd_f h]; exact hG
theorem cj_Rr_0 : cj_Rr L hz (va_up rs L.length 0) L.length := by
  intro k h1 h2
  obtain rfl : k = L.length := by omega
  rw [va_up_self, List.drop_length]
  rfl
theorem cj_Rr_s {a : Nat} (ha : a < L.length) (hG : cj_G L co hz hs wg) (hR : cj_Rr L hz rs (a + 1)) : cj_Rr L hz (va_up rs a (rs (a + 1) ||| hs a)) a := by
  intro k h1 h2
  by_cases e : k = a
  · rw [e, va_up_self, List.drop_eq_getElem_cons ha, hR (a + 1) (Nat.le_refl _) ha, (hG a L[a] (List.getElem?_eq_getElem ha)).1]
    rfl
  · rw [va_up_ne _ _ e]
    exact hR k (by omega) h2
end CJP5
theorem cj_lor {a b i : Nat} (hb : b < 2 ^ i) (h : 2 ^ i * a + b < 2 ^ 64) : lN (2 ^ i * a) ||| lN b = lN (2 ^ i * a + b) := by
  rw [wb_or (by omega) (by omega), ← Nat.two_pow_add_eq_or_of_lt hb a]
theorem cj_wt_ok {c j : Nat} (hc : c ≤ 100000) (hj : j < 14) : ((nI c).toInt64 <<< ((nI 18).toInt64 &&& 63) ||| 16384) ||| cj_bit j = lN (c * 262144 + 16384 + 2 ^ j) := by
  have hp : 2 ^ j < 2 ^ 14 := wb_lt2 hj
  have e1 : (nI c).toInt64 <<< ((nI 18).toInt64 &&& 63) = lN (2 ^ 18 * c) := by
    rw [nI_l (by omega), wb_shl c (by decide), Nat.mul_comm]
  have e2 : (16384 : Int64) = lN 16384 := by decide
  rw [e1, e2, cj_lor (i := 18) (by decide) (by omega)]
  have e3 : 2 ^ 18 * c + 16384 = 2 ^ 14 * (16 * c + 1) := by omega
  unfold cj_bit
  rw [e3, cj_lor (i := 14) hp (by omega)]
  congr 1
  omega
theorem cj_ll_nil {co : Nat → Nat} {hz : Nat → Int64} {ms wt bs : Int64} : cj_ll co hz [] ms wt bs = if wt < bs then (if ms = 0 then wt else bs) else bs := rfl
theorem cj_ll_cons {co : Nat → Nat} {hz : Nat → Int64} {r : Nat} {M : List Nat} {ms wt bs : Int64} : cj_ll co hz (r :: M) ms wt bs = if wt < bs then (if ms = 0 then wt else if ms &&& (cj_or hz (r :: M) ^^^ (-1)) = 0 then
      cj_ll co hz M ms wt (if ms &&& hz r = 0 then bs else cj_ll co hz M (ms &&& (hz r ^^^ (-1))) (wt + lN (cj_wt co r)) bs) else bs) else bs := rfl
