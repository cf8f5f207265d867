-- PURE: which pairs are chosen
/-- the pair of line i, if the lines of the second from f on are left -/
def cj_pk (a b : Nat → Int32) (h w i f : Nat) : Option Nat := match cj_fd b (a i) (w - f) f with
  | none => none
  | some q => if cj_T a b h w (i + 1) (q + 1) + 1 = cj_T a b h w i f then some q else none
/-- from where on lines of the second are left for line i -/
def cj_pf (a b : Nat → Int32) (h w : Nat) : Nat → Nat
  | 0 => 0
  | i + 1 => match cj_pk a b h w i (cj_pf a b h w i) with
    | none => cj_pf a b h w i
    | some q => q + 1
def cj_pp (a b : Nat → Int32) (h w i : Nat) : Option Nat := cj_pk a b h w i (cj_pf a b h w i)
theorem cj_oI_cases {r : Int32} {o : Option Nat} (h : r = oI o) : (r = -1 ∧ o = none) ∨ ∃ q, o = some q ∧ r = nI q := by
  cases o with
  | none => exact Or.inl ⟨h, rfl⟩
  | some q => exact Or.inr ⟨q, rfl, h⟩
section CJP4
variable {a b : Nat → Int32} {h w i f : Nat}
theorem cj_pk_n (h1 : cj_fd b (a i) (w - f) f = none) : cj_pk a b h w i f = none := by
  unfold cj_pk
  rw [h1]
theorem cj_pk_s {q : Nat} (h1 : cj_fd b (a i) (w - f) f = some q) (h2 : cj_T a b h w (i + 1) (q + 1) + 1 = cj_T a b h w i f) : cj_pk a b h w i f = some q := by
  unfold cj_pk
  rw [h1]
  exact if_pos h2
theorem cj_pk_f {q : Nat} (h1 : cj_fd b (a i) (w - f) f = some q) (h2 : ¬ cj_T a b h w (i + 1) (q + 1) + 1 = cj_T a b h w i f) : cj_pk a b h w i f = none := by
  unfold cj_pk
  rw [h1]
  exact if_neg h2
theorem cj_pk_lt {q : Nat} (h1 : cj_pk a b h w i f = some q) : f ≤ q ∧ q < w := by
  unfold cj_pk at h1
  cases hc : cj_fd b (a i) (w - f) f with
  | none => rw [hc] at h1; cases h1
  | some p =>
    rw [hc] at h1
    dsimp only at h1
    split at h1
    · cases h1
      have := cj_fd_lt hc
      omega
    · cases h1
theorem cj_pf_n (h1 : cj_pp a b h w i = none) : cj_pf a b h w (i + 1) = cj_pf a b h w i := by
  show (match cj_pk a b h w i (cj_pf a b h w i) with | none => cj_pf a b h w i | some q => q + 1) = _
  rw [show cj_pk a b h w i (cj_pf a b h w i) = none from h1]
theorem cj_pf_s {q : Nat} (h1 : cj_pp a b h w i = some q) : cj_pf a b h w (i + 1) = q + 1 := by
  show (match cj_pk a b h w i (cj_pf a b h w i) with | none => cj_pf a b h w i | some q => q + 1) = _
  rw [show cj_pk a b h w i (cj_pf a b h w i) = some q from h1]
theorem cj_pf_le : ∀ i : Nat, cj_pf a b h w i ≤ w
  | 0 => Nat.zero_le _
  | i + 1 => by
    cases hc : cj_pp a b h w i with
    | none => rw [cj_pf_n hc]; exact cj_pf_le i
    | some q =>
      rw [cj_pf_s hc]
      have := (cj_pk_lt hc).2
      omega
theorem cj_pp_lt {q : Nat} (h1 : cj_pp a b h w i = some q) : q < w := (cj_pk_lt h1).2
end CJP4
theorem cj_prs {pr : Nat → Int32} {pp : Nat → Option Nat} {i : Nat} {v : Int32} (hP : ∀ j, j < i → pr j = oI (pp j)) (hv : v = oI (pp i)) : ∀ j, j < i + 1 → va_up pr i v j = oI (pp j) := by
  intro j hj
  by_cases e : j = i
  · rw [e, va_up_self, hv]
  · rw [va_up_ne _ _ e]
    exact hP j (by omega)
