-- PURE: how many pairs two rows of contents can have from places on
def cj_row (x : Int32) (b : Nat → Int32) (w : Nat) (prev : Nat → Nat) : Nat → Nat
  | 0 => 0
  | q + 1 => if x = b (w - (q + 1)) then prev q + 1 else max (prev (q + 1)) (cj_row x b w prev q)
def cj_lcs (a b : Nat → Int32) (h w : Nat) : Nat → Nat → Nat
  | 0 => fun _ => 0
  | k + 1 => cj_row (a (h - (k + 1))) b w (cj_lcs a b h w k)
def cj_T (a b : Nat → Int32) (h w i j : Nat) : Nat := cj_lcs a b h w (h - i) (w - j)
section CJP2
variable {a b : Nat → Int32} {h w : Nat}
theorem cj_lcs_q0 : ∀ k : Nat, cj_lcs a b h w k 0 = 0
  | 0 => rfl
  | _ + 1 => rfl
theorem cj_T_h (j : Nat) : cj_T a b h w h j = 0 := by
  unfold cj_T
  rw [Nat.sub_self]
  rfl
theorem cj_T_w (i : Nat) : cj_T a b h w i w = 0 := by
  unfold cj_T
  rw [Nat.sub_self]
  exact cj_lcs_q0 _
theorem cj_T_step {i j : Nat} (hi : i < h) (hj : j < w) : cj_T a b h w i j = if a i = b j then cj_T a b h w (i + 1) (j + 1) + 1 else max (cj_T a b h w (i + 1) j) (cj_T a b h w i (j + 1)) := by
  unfold cj_T
  obtain ⟨k, hk⟩ : ∃ k, h - i = k + 1 := ⟨h - i - 1, by omega⟩
  obtain ⟨q, hq⟩ : ∃ q, w - j = q + 1 := ⟨w - j - 1, by omega⟩
  rw [hk, hq, show h - (i + 1) = k by omega, show w - (j + 1) = q by omega]
  show (if a (h - (k + 1)) = b (w - (q + 1)) then cj_lcs a b h w k q + 1 else max (cj_lcs a b h w k (q + 1)) (cj_row (a (h - (k + 1))) b w (cj_lcs a b h w k) q)) = _
  rw [show h - (k + 1) = i by omega, show w - (q + 1) = j by omega]
  congr 2
  show cj_row (a i) b w (cj_lcs a b h w k) q = cj_row (a (h - (k + 1))) b w (cj_lcs a b h w k) q
  rw [show h - (k + 1) = i by omega]
theorem cj_T_le : ∀ (k i j : Nat), h - i ≤ k → i ≤ h → j ≤ w → cj_T a b h w i j ≤ k := by
  intro k
  induction k with
  | zero =>
    intro i j hk hi hj
    rw [show i = h by omega, cj_T_h]
    exact Nat.le_refl 0
  | succ k ih =>
    intro i j hk hi hj
    obtain ⟨q, hq⟩ : ∃ q, w = j + q := ⟨w - j, by omega⟩
    induction q generalizing j with
    | zero =>
      rw [show j = w by omega, cj_T_w]
      exact Nat.zero_le _
    | succ q ihq =>
      by_cases e : i = h
      · rw [e, cj_T_h]
        exact Nat.zero_le _
      · rw [cj_T_step (by omega) (by omega)]
        split
        · have := ih (i + 1) (j + 1) (by omega) (by omega) (by omega)
          omega
        · have h1 := ih (i + 1) j (by omega) (by omega) (by omega)
          have h2 := ihq (j + 1) (by omega) (by omega)
          omega
theorem cj_T_le40 {i j : Nat} (hh : h ≤ 40) (hi : i ≤ h) (hj : j ≤ w) : cj_T a b h w i j ≤ 40 := Nat.le_trans (cj_T_le (h - i) i j (Nat.le_refl _) hi hj) (by omega)
end CJP2
/-- the table holds the counts of the rows from r on; and of row r from q on -/
def cj_J (a b : Nat → Int32) (h w : Nat) (mp : Nat → Nat → Nat) (r : Nat) : Prop := ∀ i, r ≤ i → i ≤ h → ∀ j, j ≤ w → mp i j = cj_T a b h w i j
def cj_J2 (a b : Nat → Int32) (h w : Nat) (mp : Nat → Nat → Nat) (r q : Nat) : Prop := cj_J a b h w mp (r + 1) ∧ ∀ j, q ≤ j → j ≤ w → mp r j = cj_T a b h w r j
def cj_J0 (h : Nat) (mp : Nat → Nat → Nat) (i : Nat) : Prop := ∀ j, j < i → mp h j = 0
section CJP3
variable {a b : Nat → Int32} {h w : Nat} {mp : Nat → Nat → Nat}
theorem cj_J0_step {i : Nat} (H : cj_J0 h mp i) : cj_J0 h (va_up mp h (va_up (mp h) i 0)) (i + 1) := by
  intro j hj
  rw [va_up_self]
  by_cases e : j = i
  · rw [e, va_up_self]
  · rw [va_up_ne _ _ e]
    exact H j (by omega)
theorem cj_J_start (H : cj_J0 h mp (w + 1)) : cj_J a b h w mp h := by
  intro i h1 h2 j hj
  rw [show i = h by omega, cj_T_h]
  exact H j (by omega)
theorem cj_J2_start {r : Nat} (hr : r < h) (H : cj_J a b h w mp (r + 1)) : cj_J2 a b h w (va_up mp r (va_up (mp r) w 0)) r w := by
  refine ⟨fun i h1 h2 j hj => ?_, fun j h1 h2 => ?_⟩
  · rw [va_up_ne _ _ (by omega)]
    exact H i h1 h2 j hj
  · rw [show j = w by omega, va_up_self, va_up_self, cj_T_w]
theorem cj_J2_step {r q v : Nat} (hr : r < h) (hq : q < w) (H : cj_J2 a b h w mp r (q + 1)) (hv : v = if a r = b q then mp (r + 1) (q + 1) + 1 else max (mp (r + 1) q) (mp r (q + 1))) : cj_J2 a b h w (va_up mp r (va_up (mp r) q v)) r q := by
  refine ⟨fun i h1 h2 j hj => ?_, fun j h1 h2 => ?_⟩
  · rw [va_up_ne _ _ (by omega)]
    exact H.1 i h1 h2 j hj
  · rw [va_up_self]
    by_cases e : j = q
    · rw [e, va_up_self, hv, cj_T_step hr hq, H.1 (r + 1) (Nat.le_refl _) (by omega) (q + 1) (by omega), H.1 (r + 1) (Nat.le_refl _) (by omega) q (by omega), H.2 (q + 1) (Nat.le_refl _) (by omega)]
    · rw [va_up_ne _ _ e]
      exact H.2 j (by omega) h2
theorem cj_J2_end {r : Nat} (H : cj_J2 a b h w mp r 0) : cj_J a b h w mp r := by
  intro i h1 h2 j hj
  by_cases e : i = r
  · rw [e]
    exact H.2 j (Nat.zero_le _) hj
  · exact H.1 i (by omega) h2 j hj
theorem cj_J_le {r i j : Nat} (H : cj_J a b h w mp r) (hh : h ≤ 40) (h1 : r ≤ i) (h2 : i ≤ h) (hj : j ≤ w) : mp i j ≤ 40 := by
  rw [H i h1 h2 j hj]
  exact cj_T_le40 hh h2 hj
theorem cj_J2_le {r q j : Nat} (H : cj_J2 a b h w mp r q) (hh : h ≤ 40) (hr : r ≤ h) (h1 : q ≤ j) (hj : j ≤ w) : mp r j ≤ 40 := by
  rw [H.2 j h1 hj]
  exact cj_T_le40 hh hr hj
end CJP3
