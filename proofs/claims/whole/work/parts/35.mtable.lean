-- THE REFERENCE: its table of counts
abbrev cj_m2 (lo : Nat → Nat) : Nat → Nat → Nat := fun i j => lo (41 * i + j)
section CJP7
variable {a b : Nat → Int32} {h w : Nat} {lo : Nat → Nat}
theorem cj_m_step {r q v : Nat} (hw : w ≤ 40) (hq : q ≤ w) (H : cj_J2 a b h w (cj_m2 lo) r (q + 1)) (hv : v = cj_T a b h w r q) : cj_J2 a b h w (cj_m2 (va_up lo (41 * r + q) v)) r q := by
  refine ⟨fun i h1 h2 j hj => ?_, fun j h1 h2 => ?_⟩
  · show va_up lo (41 * r + q) v (41 * i + j) = _
    rw [va_up_ne _ _ (by omega)]
    exact H.1 i h1 h2 j hj
  · show va_up lo (41 * r + q) v (41 * r + j) = _
    by_cases e : j = q
    · rw [e, va_up_self, hv]
    · rw [va_up_ne _ _ (by omega)]
      exact H.2 j (by omega) h2
theorem cj_m_start {r : Nat} (H : cj_J a b h w (cj_m2 lo) (r + 1)) : cj_J2 a b h w (cj_m2 lo) r (w + 1) := ⟨H, fun j h1 h2 => by omega⟩
theorem cj_m_first : cj_J a b h w (cj_m2 lo) (h + 1) := fun i h1 h2 => by omega
end CJP7
theorem cj_fo {pr pr9 : Nat → Int32} {pp : Nat → Option Nat} {i : Nat} {v : Int32} (hP : ∀ j, j < i → pr j = oI (pp j)) (h1 : pr9 i = oI (pp i)) (h2 : ∀ k, k ≠ i → pr9 k = va_up pr i v k) : ∀ j, j < i + 1 → pr9 j = oI (pp j) := by
  intro j hj
  by_cases e : j = i
  · rw [e, h1]
  · rw [h2 j e, va_up_ne _ _ e]
    exact hP j (by omega)
