-- PURE: the counts of pairs grow by at most one a line; the reference's choice is the class's
section CJP6
variable {a b : Nat → Int32} {h w : Nat}
theorem cj_lcs_ss (k q : Nat) : cj_lcs a b h w (k + 1) (q + 1) = if a (h - (k + 1)) = b (w - (q + 1)) then cj_lcs a b h w k q + 1 else max (cj_lcs a b h w k (q + 1)) (cj_lcs a b h w (k + 1) q) := rfl
theorem cj_lcs_0q (q : Nat) : cj_lcs a b h w 0 q = 0 := rfl
theorem cj_lcs4 : ∀ (s k q : Nat), k + q ≤ s → cj_lcs a b h w k q ≤ cj_lcs a b h w (k + 1) q ∧ cj_lcs a b h w k q ≤ cj_lcs a b h w k (q + 1) ∧ cj_lcs a b h w (k + 1) q ≤ cj_lcs a b h w k q + 1 ∧ cj_lcs a b h w k (q + 1) ≤ cj_lcs a b h w k q + 1 := by
  intro s
  induction s with
  | zero =>
    intro k q hs
    obtain rfl : k = 0 := by omega
    obtain rfl : q = 0 := by omega
    simp [cj_lcs_0q, cj_lcs_q0]
  | succ s ih =>
    intro k q hs
    refine ⟨?_, ?_, ?_, ?_⟩
    · cases q with
      | zero => rw [cj_lcs_q0, cj_lcs_q0]; exact Nat.le_refl _
      | succ q =>
        have h1 := (ih k q (by omega)).2.2.2
        rw [cj_lcs_ss]
        split <;> omega
    · cases k with
      | zero => rw [cj_lcs_0q]; exact Nat.zero_le _
      | succ k =>
        have h1 := (ih k q (by omega)).2.2.1
        rw [cj_lcs_ss]
        split <;> omega
    · cases q with
      | zero => rw [cj_lcs_q0]; exact Nat.zero_le _
      | succ q =>
        have h1 := ih k q (by omega)
        rw [cj_lcs_ss]
        split <;> omega
    · cases k with
      | zero => rw [cj_lcs_0q]; exact Nat.zero_le _
      | succ k =>
        have h1 := ih k q (by omega)
        rw [cj_lcs_ss]
        split <;> omega
theorem cj_T_d {i j : Nat} (hi : i < h) : cj_T a b h w (i + 1) j ≤ cj_T a b h w i j ∧ cj_T a b h w i j ≤ cj_T a b h w (i + 1) j + 1 := by
  unfold cj_T
  have h1 := cj_lcs4 (a := a) (b := b) (h := h) (w := w) _ (h - (i + 1)) (w - j) (Nat.le_refl _)
  rw [show h - (i + 1) + 1 = h - i by omega] at h1
  exact ⟨h1.1, h1.2.2.1⟩
theorem cj_T_r {i j : Nat} (hj : j < w) : cj_T a b h w i (j + 1) ≤ cj_T a b h w i j ∧ cj_T a b h w i j ≤ cj_T a b h w i (j + 1) + 1 := by
  unfold cj_T
  have h1 := cj_lcs4 (a := a) (b := b) (h := h) (w := w) _ (h - i) (w - (j + 1)) (Nat.le_refl _)
  rw [show w - (j + 1) + 1 = w - j by omega] at h1
  exact ⟨h1.2.1, h1.2.2.2⟩
theorem cj_T_anti {i : Nat} : ∀ (d j : Nat), j + d ≤ w → cj_T a b h w i (j + d) ≤ cj_T a b h w i j
  | 0, _, _ => Nat.le_refl _
  | d + 1, j, hd => Nat.le_trans (cj_T_r (show j + d < w by omega)).1 (cj_T_anti d j (by omega))
theorem cj_T_mono {i j j' : Nat} (h1 : j ≤ j') (h2 : j' ≤ w) : cj_T a b h w i j' ≤ cj_T a b h w i j := by
  have := cj_T_anti (a := a) (b := b) (h := h) (w := w) (i := i) (j' - j) j (by omega)
  rw [show j + (j' - j) = j' by omega] at this
  exact this
/-- the best of three, as the reference takes it -/
theorem cj_T_three {i j : Nat} (hi : i < h) (hj : j < w) : (a i = b j → cj_T a b h w i j = cj_T a b h w (i + 1) (j + 1) + 1 ∧ cj_T a b h w (i + 1) j ≤ cj_T a b h w (i + 1) (j + 1) + 1 ∧ cj_T a b h w i (j + 1) ≤ cj_T a b h w (i + 1) (j + 1) + 1) ∧ (¬ a i = b j → cj_T a b h w i j = max (cj_T a b h w (i + 1) j) (cj_T a b h w i (j + 1))) := by
  refine ⟨fun e => ⟨?_, (cj_T_r hj).2, (cj_T_d hi).2⟩, fun e => ?_⟩
  · rw [cj_T_step hi hj, if_pos e]
  · rw [cj_T_step hi hj, if_neg e]
/-- the least place from f on, of d, at which P -/
def cj_f2 (P : Nat → Bool) : Nat → Nat → Option Nat
  | 0, _ => none
  | d + 1, f => bif P f then some f else cj_f2 P d (f + 1)
theorem cj_f2_t {P : Nat → Bool} {d f : Nat} (hp : P f = true) : cj_f2 P (d + 1) f = some f := by
  show (bif P f then some f else cj_f2 P d (f + 1)) = _
  rw [hp]
  rfl
theorem cj_f2_f {P : Nat → Bool} {d f : Nat} (hp : P f = false) : cj_f2 P (d + 1) f = cj_f2 P d (f + 1) := by
  show (bif P f then some f else cj_f2 P d (f + 1)) = _
  rw [hp]
  rfl
theorem cj_f2_none {P : Nat → Bool} : ∀ {d f : Nat}, (∀ j, f ≤ j → j < f + d → P j = false) → cj_f2 P d f = none
  | 0, _, _ => rfl
  | d + 1, f, hh => by
    rw [cj_f2_f (hh f (Nat.le_refl _) (by omega))]
    exact cj_f2_none (fun j h1 h2 => hh j (by omega) (by omega))
theorem cj_f2_some {P : Nat → Bool} : ∀ {d f q : Nat}, f ≤ q → q < f + d → P q = true → (∀ j, f ≤ j → j < q → P j = false) → cj_f2 P d f = some q
  | 0, _, _, h1, h2, _, _ => by omega
  | d + 1, f, q, h1, h2, h3, h4 => by
    by_cases e : f = q
    · subst e
      exact cj_f2_t h3
    · rw [cj_f2_f (h4 f (Nat.le_refl _) (by omega))]
      exact cj_f2_some (by omega) (by omega) h3 (fun j h5 h6 => h4 j (by omega) h6)
theorem cj_fd_least {b : Nat → Int32} {x : Int32} : ∀ {d f q : Nat}, cj_fd b x d f = some q → ∀ j, f ≤ j → j < q → ¬ b j = x
  | 0, _, _, hh => by cases hh
  | d + 1, f, q, hh => by
    intro j h1 h2
    by_cases hb : b f = x
    · rw [cj_fd_t hb] at hh
      cases hh
      omega
    · rw [cj_fd_f hb] at hh
      by_cases e : j = f
      · rw [e]; exact hb
      · exact cj_fd_least hh j (by omega) h2
theorem cj_fd_no {b : Nat → Int32} {x : Int32} : ∀ {d f : Nat}, cj_fd b x d f = none → ∀ j, f ≤ j → j < f + d → ¬ b j = x
  | 0, _, _ => by intro j h1 h2; omega
  | d + 1, f, hh => by
    intro j h1 h2
    by_cases hb : b f = x
    · rw [cj_fd_t hb] at hh
      cases hh
    · rw [cj_fd_f hb] at hh
      by_cases e : j = f
      · rw [e]; exact hb
      · exact cj_fd_no hh j (by omega) (by omega)
def cj_P (a b : Nat → Int32) (h w i f j : Nat) : Bool := decide (a i = b j) && decide (cj_T a b h w (i + 1) (j + 1) + 1 = cj_T a b h w i f)
/-- the reference's choice -/
theorem cj_pick {i f : Nat} (hi : i < h) (hf : f ≤ w) : cj_f2 (cj_P a b h w i f) (w - f) f = cj_pk a b h w i f := by
  cases hc : cj_fd b (a i) (w - f) f with
  | none =>
    rw [cj_pk_n hc]
    refine cj_f2_none (fun j h1 h2 => ?_)
    have := cj_fd_no hc j h1 h2
    unfold cj_P
    rw [decide_eq_false (fun e => this e.symm)]
    rfl
  | some q =>
    have hq := cj_fd_lt hc
    have hl := cj_fd_least hc
    by_cases e : cj_T a b h w (i + 1) (q + 1) + 1 = cj_T a b h w i f
    · rw [cj_pk_s hc e]
      refine cj_f2_some hq.1 hq.2.1 ?_ (fun j h1 h2 => ?_)
      · unfold cj_P
        rw [decide_eq_true hq.2.2.symm, decide_eq_true e]
        rfl
      · have := hl j h1 h2
        unfold cj_P
        rw [decide_eq_false (fun e => this e.symm)]
        rfl
    · rw [cj_pk_f hc e]
      refine cj_f2_none (fun j h1 h2 => ?_)
      by_cases hj : j < q
      · have := hl j h1 hj
        unfold cj_P
        rw [decide_eq_false (fun e => this e.symm)]
        rfl
      · have h3 : cj_T a b h w (i + 1) (j + 1) ≤ cj_T a b h w (i + 1) (q + 1) := cj_T_mono (by omega) (by omega)
        have h4 : cj_T a b h w i q ≤ cj_T a b h w i f := cj_T_mono hq.1 (by omega)
        have h5 := ((cj_T_three (a := a) (b := b) hi (show q < w by omega)).1 hq.2.2.symm).1
        unfold cj_P
        rw [decide_eq_false (p := cj_T a b h w (i + 1) (j + 1) + 1 = cj_T a b h w i f) (by omega), Bool.and_false]
end CJP6
