-- PURE: the lightest cover is the reference's best set
theorem cj_sb {a b : Int64} : (a &&& (b ^^^ (-1)) = 0) ↔ ∀ i, cj_tb a i = true → cj_tb b i = true := by
  constructor
  · intro h i hi
    by_cases h6 : i < 64
    · have h1 : cj_tb (a &&& (b ^^^ (-1))) i = false := by rw [h, cj_tb_0]
      rw [cj_tb_and, cj_tb_not _ h6, hi] at h1
      cases hb : cj_tb b i with
      | true => rfl
      | false => rw [hb] at h1; cases h1
    · rw [cj_tb_big (by omega)] at hi
      cases hi
  · intro h
    refine cj_tb_ext (fun i hi => ?_)
    rw [cj_tb_and, cj_tb_not _ hi, cj_tb_0]
    cases ha : cj_tb a i with
    | false => rfl
    | true => rw [h i ha]; rfl
theorem cj_tb_an (a b : Int64) (i : Nat) : cj_tb (a &&& (b ^^^ (-1))) i = (cj_tb a i && !cj_tb b i) := by
  by_cases h6 : i < 64
  · rw [cj_tb_and, cj_tb_not _ h6]
  · rw [cj_tb_big (by omega), cj_tb_big (x := a) (by omega)]
    rfl
def cj_mo (a b : Option Nat) : Option Nat := match a, b with
  | none, b => b
  | some x, none => some x
  | some x, some y => some (min x y)
/-- the least weight of a cover of ms by runs of the list -/
def cj_mn (co : Nat → Nat) (hz : Nat → Int64) : List Nat → Int64 → Option Nat
  | [], ms => if ms = 0 then some 0 else none
  | r :: M, ms => cj_mo (cj_mn co hz M ms) ((cj_mn co hz M (ms &&& (hz r ^^^ (-1)))).map (fun v => v + cj_wt co r))
def cj_rs (x B : Nat) (o : Option Nat) : Nat := match o with
  | none => B
  | some v => min B (x + v)
section CJS1
variable {co : Nat → Nat} {hz : Nat → Int64}
theorem cj_mn_cons (r : Nat) (M : List Nat) (ms : Int64) : cj_mn co hz (r :: M) ms = cj_mo (cj_mn co hz M ms) ((cj_mn co hz M (ms &&& (hz r ^^^ (-1)))).map (fun v => v + cj_wt co r)) := rfl
theorem cj_mn0 : ∀ L : List Nat, cj_mn co hz L 0 = some 0
  | [] => if_pos rfl
  | r :: M => by
    rw [cj_mn_cons, cj_mn0 M]
    cases (cj_mn co hz M (0 &&& (hz r ^^^ (-1)))).map (fun v => v + cj_wt co r) with
    | none => rfl
    | some y => show some (min 0 y) = some 0; rw [Nat.zero_min]
theorem cj_mn_sub : ∀ (L : List Nat) (ms : Int64) (v : Nat), cj_mn co hz L ms = some v → ∀ i, cj_tb ms i = true → cj_tb (cj_or hz L) i = true
  | [], ms, v, h, i, hi => by
    by_cases e : ms = 0
    · rw [e, cj_tb_0] at hi; cases hi
    · rw [show cj_mn co hz [] ms = none from if_neg e] at h; cases h
  | r :: M, ms, v, h, i, hi => by
    rw [cj_mn_cons] at h
    show cj_tb (cj_or hz M ||| hz r) i = true
    rw [cj_tb_or]
    cases h1 : cj_mn co hz M ms with
    | some v1 => rw [cj_mn_sub M ms v1 h1 i hi]; rfl
    | none =>
      rw [h1] at h
      cases h2 : cj_mn co hz M (ms &&& (hz r ^^^ (-1))) with
      | none => rw [h2] at h; cases h
      | some v2 =>
        cases hr : cj_tb (hz r) i with
        | true => simp
        | false => rw [cj_mn_sub M _ v2 h2 i (by rw [cj_tb_an, hi, hr]; rfl)]; rfl
theorem cj_wt_lt (hco : ∀ r, co r ≤ 100000) {r : Nat} (hr : r < 14) : cj_wt co r < 34359738368 := by
  have h1 := hco r
  have h2 : 2 ^ r < 2 ^ 14 := wb_lt2 hr
  unfold cj_wt
  omega
theorem cj_ll_mn (hco : ∀ r, co r ≤ 100000) : ∀ (L : List Nat) (ms : Int64) (x B : Nat), (∀ r ∈ L, r < 14) → x + L.length * 34359738368 < 4611686018427387904 → B < 2 ^ 63 → cj_ll co hz L ms (lN x) (lN B) = lN (cj_rs x B (cj_mn co hz L ms)) := by
  intro L
  induction L with
  | nil =>
    intro ms x B _ hx hB
    have hx : x < 4611686018427387904 := by simpa using hx
    rw [cj_ll_nil]
    by_cases h1 : x < B
    · rw [if_pos ((pk_lLT (by omega) hB).mpr h1)]
      by_cases h2 : ms = 0
      · rw [if_pos h2, show cj_mn co hz [] ms = some 0 from if_pos h2]
        show lN x = lN (min B (x + 0))
        rw [Nat.min_eq_right (by omega)]
        rfl
      · rw [if_neg h2, show cj_mn co hz [] ms = none from if_neg h2]
        rfl
    · rw [if_neg (fun h => h1 ((pk_lLT (by omega) hB).mp h))]
      cases cj_mn co hz [] ms with
      | none => rfl
      | some v => show lN B = lN (min B (x + v)); rw [Nat.min_eq_left (by omega)]
  | cons r M ih =>
    intro ms x B hr hx hB
    rw [List.length_cons] at hx
    have hw := cj_wt_lt hco (hr r List.mem_cons_self)
    have hM : ∀ q ∈ M, q < 14 := fun q hq => hr q (List.mem_cons_of_mem _ hq)
    have hx2 : x + M.length * 34359738368 < 4611686018427387904 := Nat.lt_of_le_of_lt (Nat.add_le_add_left (Nat.mul_le_mul_right _ (Nat.le_succ _)) _) hx
    rw [cj_ll_cons]
    by_cases h1 : x < B
    · rw [if_pos ((pk_lLT (by omega) hB).mpr h1)]
      by_cases h2 : ms = 0
      · rw [if_pos h2, h2, cj_mn0]
        show lN x = lN (min B (x + 0))
        rw [Nat.min_eq_right (by omega)]
        rfl
      · rw [if_neg h2]
        by_cases h3 : ms &&& (cj_or hz (r :: M) ^^^ (-1)) = 0
        · rw [if_pos h3, cj_mn_cons]
          by_cases h4 : ms &&& hz r = 0
          · rw [if_pos h4, ih ms x B hM hx2 hB]
            have e : ms &&& (hz r ^^^ (-1)) = ms := by
              refine cj_tb_ext (fun i hi => ?_)
              have q : cj_tb (ms &&& hz r) i = false := by rw [h4, cj_tb_0]
              rw [cj_tb_and] at q
              rw [cj_tb_an]
              cases ha : cj_tb ms i with
              | false => rfl
              | true => rw [ha] at q; simp at q; rw [q]; rfl
            rw [e]
            cases cj_mn co hz M ms with
            | none => rfl
            | some v =>
              show lN (min B (x + v)) = lN (min B (x + min v (v + cj_wt co r)))
              rw [Nat.min_eq_left (show v ≤ v + cj_wt co r by omega)]
          · rw [if_neg h4, lN_add, ih _ (x + cj_wt co r) B hM (by omega) hB]
            have hle : cj_rs (x + cj_wt co r) B (cj_mn co hz M (ms &&& (hz r ^^^ (-1)))) ≤ B := by
              cases cj_mn co hz M (ms &&& (hz r ^^^ (-1))) with
              | none => exact Nat.le_refl _
              | some v => exact Nat.min_le_left _ _
            rw [ih ms x _ hM hx2 (Nat.lt_of_le_of_lt hle hB)]
            congr 1
            cases cj_mn co hz M (ms &&& (hz r ^^^ (-1))) with
            | none =>
              cases cj_mn co hz M ms with
              | none => rfl
              | some v2 => rfl
            | some v1 =>
              cases cj_mn co hz M ms with
              | none => show min B (x + cj_wt co r + v1) = min B (x + (v1 + cj_wt co r)); congr 1; omega
              | some v2 => show min (min B (x + cj_wt co r + v1)) (x + v2) = min B (x + min v2 (v1 + cj_wt co r)); omega
        · rw [if_neg h3]
          cases hm : cj_mn co hz (r :: M) ms with
          | none => rfl
          | some v => exact absurd (cj_sb.mpr (cj_mn_sub _ _ _ hm)) h3
    · rw [if_neg (fun h => h1 ((pk_lLT (by omega) hB).mp h))]
      cases cj_mn co hz (r :: M) ms with
      | none => rfl
      | some v => show lN B = lN (min B (x + v)); rw [Nat.min_eq_left (by omega)]
/-- a choice of runs of a list: its weight, its lines -/
def cj_wl (co : Nat → Nat) (f : Nat → Bool) : List Nat → Nat
  | [] => 0
  | r :: M => (bif f r then cj_wt co r else 0) + cj_wl co f M
def cj_hl (hz : Nat → Int64) (f : Nat → Bool) : List Nat → Int64
  | [] => 0
  | r :: M => bif f r then cj_hl hz f M ||| hz r else cj_hl hz f M
theorem cj_mn_low (f : Nat → Bool) : ∀ (L : List Nat) (ms : Int64), (∀ i, cj_tb ms i = true → cj_tb (cj_hl hz f L) i = true) → ∃ v, cj_mn co hz L ms = some v ∧ v ≤ cj_wl co f L
  | [], ms, h => by
    have e : ms = 0 := by
      refine cj_tb_ext (fun i _ => ?_)
      rw [cj_tb_0]
      cases hi : cj_tb ms i with
      | false => rfl
      | true =>
        have := h i hi
        rw [show cj_hl hz f [] = 0 from rfl, cj_tb_0] at this
        cases this
    exact ⟨0, if_pos e, Nat.le_refl _⟩
  | r :: M, ms, h => by
    rw [cj_mn_cons]
    cases hf : f r with
    | true =>
      have h2 : ∀ i, cj_tb (ms &&& (hz r ^^^ (-1))) i = true → cj_tb (cj_hl hz f M) i = true := by
        intro i hi
        rw [cj_tb_an] at hi
        have h3 := Bool.and_eq_true_iff.mp hi
        have h4 := h i h3.1
        rw [show cj_hl hz f (r :: M) = cj_hl hz f M ||| hz r by show (bif f r then _ else _) = _; rw [hf]; rfl, cj_tb_or] at h4
        cases hr : cj_tb (hz r) i with
        | true => rw [hr] at h3; simp at h3
        | false => rw [hr, Bool.or_false] at h4; exact h4
      obtain ⟨v, hv, hle⟩ := cj_mn_low f M _ h2
      rw [hv]
      have hw : cj_wl co f (r :: M) = cj_wt co r + cj_wl co f M := by show (bif f r then _ else _) + _ = _; rw [hf]; rfl
      cases cj_mn co hz M ms with
      | none => exact ⟨v + cj_wt co r, rfl, by rw [hw]; omega⟩
      | some v2 => exact ⟨min v2 (v + cj_wt co r), rfl, by rw [hw]; have := Nat.min_le_right v2 (v + cj_wt co r); omega⟩
    | false =>
      have e : cj_hl hz f (r :: M) = cj_hl hz f M := by show (bif f r then _ else _) = _; rw [hf]; rfl
      rw [e] at h
      obtain ⟨v, hv, hle⟩ := cj_mn_low f M ms h
      rw [hv]
      have hw : cj_wl co f (r :: M) = cj_wl co f M := by show (bif f r then _ else _) + _ = _; rw [hf]; exact Nat.zero_add _
      cases (cj_mn co hz M (ms &&& (hz r ^^^ (-1)))).map (fun v => v + cj_wt co r) with
      | none => exact ⟨_, rfl, by rw [hw]; exact hle⟩
      | some v2 => exact ⟨_, rfl, by rw [hw]; exact Nat.le_trans (Nat.min_le_left _ _) hle⟩
theorem cj_wl_congr {f g : Nat → Bool} : ∀ (L : List Nat), (∀ r ∈ L, f r = g r) → cj_wl co f L = cj_wl co g L ∧ cj_hl hz f L = cj_hl hz g L
  | [], _ => ⟨rfl, rfl⟩
  | r :: M, h => by
    have h1 := cj_wl_congr M (fun q hq => h q (List.mem_cons_of_mem _ hq))
    constructor
    · show (bif f r then _ else _) + _ = (bif g r then _ else _) + _
      rw [h r List.mem_cons_self, h1.1]
    · show (bif f r then _ else _) = bif g r then _ else _
      rw [h r List.mem_cons_self, h1.2]
theorem cj_mn_got : ∀ (L : List Nat) (ms : Int64) (v : Nat), L.Nodup → cj_mn co hz L ms = some v → ∃ f : Nat → Bool, (∀ i, cj_tb ms i = true → cj_tb (cj_hl hz f L) i = true) ∧ cj_wl co f L = v
  | [], ms, v, _, h => by
    by_cases e : ms = 0
    · rw [show cj_mn co hz [] ms = some 0 from if_pos e] at h
      cases h
      exact ⟨fun _ => false, fun i hi => (by rw [e, cj_tb_0] at hi; cases hi), rfl⟩
    · rw [show cj_mn co hz [] ms = none from if_neg e] at h
      cases h
  | r :: M, ms, v, hn, h => by
    have hrM : r ∉ M := (List.nodup_cons.mp hn).1
    have hM := (List.nodup_cons.mp hn).2
    have take : ∀ v2, cj_mn co hz M (ms &&& (hz r ^^^ (-1))) = some v2 → v = v2 + cj_wt co r → ∃ f : Nat → Bool, (∀ i, cj_tb ms i = true → cj_tb (cj_hl hz f (r :: M)) i = true) ∧ cj_wl co f (r :: M) = v := by
      intro v2 h2 hv
      obtain ⟨f, hf1, hf2⟩ := cj_mn_got M _ v2 hM h2
      have hc := cj_wl_congr (co := co) (hz := hz) (f := va_up f r true) (g := f) M (fun q hq => va_up_ne _ _ (fun e => hrM (by rw [← e]; exact hq)))
      refine ⟨va_up f r true, fun i hi => ?_, ?_⟩
      · show cj_tb (bif va_up f r true r then cj_hl hz (va_up f r true) M ||| hz r else _) i = true
        rw [va_up_self, hc.2]
        show cj_tb (cj_hl hz f M ||| hz r) i = true
        rw [cj_tb_or]
        cases hr : cj_tb (hz r) i with
        | true => simp
        | false => rw [hf1 i (by rw [cj_tb_an, hi, hr]; rfl)]; rfl
      · show (bif va_up f r true r then cj_wt co r else 0) + cj_wl co (va_up f r true) M = v
        rw [va_up_self, hc.1, hf2, hv]
        show cj_wt co r + v2 = _
        omega
    have leave : cj_mn co hz M ms = some v → ∃ f : Nat → Bool, (∀ i, cj_tb ms i = true → cj_tb (cj_hl hz f (r :: M)) i = true) ∧ cj_wl co f (r :: M) = v := by
      intro h2
      obtain ⟨f, hf1, hf2⟩ := cj_mn_got M _ v hM h2
      have hc := cj_wl_congr (co := co) (hz := hz) (f := va_up f r false) (g := f) M (fun q hq => va_up_ne _ _ (fun e => hrM (by rw [← e]; exact hq)))
      refine ⟨va_up f r false, fun i hi => ?_, ?_⟩
      · show cj_tb (bif va_up f r false r then _ else cj_hl hz (va_up f r false) M) i = true
        rw [va_up_self, hc.2]
        exact hf1 i hi
      · show (bif va_up f r false r then cj_wt co r else 0) + cj_wl co (va_up f r false) M = v
        rw [va_up_self, hc.1, hf2]
        exact Nat.zero_add _
    rw [cj_mn_cons] at h
    cases h1 : cj_mn co hz M ms with
    | none =>
      rw [h1] at h
      cases h2 : cj_mn co hz M (ms &&& (hz r ^^^ (-1))) with
      | none => rw [h2] at h; cases h
      | some v2 => rw [h2] at h; cases h; exact take v2 h2 rfl
    | some v1 =>
      rw [h1] at h
      cases h2 : cj_mn co hz M (ms &&& (hz r ^^^ (-1))) with
      | none => rw [h2] at h; cases h; exact leave h1
      | some v2 =>
        rw [h2] at h
        have h : some (min v1 (v2 + cj_wt co r)) = some v := h
        injection h with h
        rcases Nat.le_total v1 (v2 + cj_wt co r) with q | q
        · rw [Nat.min_eq_left q] at h
          subst h
          exact leave h1
        · rw [Nat.min_eq_right q] at h
          exact take v2 h2 h.symm
end CJS1
