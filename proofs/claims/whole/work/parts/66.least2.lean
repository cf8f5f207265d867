-- PURE: sets of runs as numbers; the reference's best
section CJS2
variable {ed co : Nat → Nat} {hz : Nat → Int64} {ea : Nat}
theorem cj_cd_mem : ∀ k r, r ∈ cj_cd ed ea k ↔ r < k ∧ ed r = ea
  | 0, r => by
    constructor
    · intro h; cases h
    · intro h; omega
  | k + 1, r => by
    by_cases e : ed k = ea
    · rw [cj_cd_t e, List.mem_append, List.mem_singleton, cj_cd_mem k r]
      constructor
      · rintro (h | h)
        · exact ⟨by omega, h.2⟩
        · subst h; exact ⟨by omega, e⟩
      · intro h
        by_cases q : r = k
        · exact Or.inr q
        · exact Or.inl ⟨by omega, h.2⟩
    · rw [cj_cd_f e, cj_cd_mem k r]
      constructor
      · intro h; exact ⟨by omega, h.2⟩
      · intro h
        have : r ≠ k := fun q => e (by rw [← q]; exact h.2)
        exact ⟨by omega, h.2⟩
theorem cj_cd_nodup : ∀ k, (cj_cd ed ea k).Nodup
  | 0 => List.nodup_nil
  | k + 1 => by
    by_cases e : ed k = ea
    · rw [cj_cd_t e]
      refine List.nodup_append.mpr ⟨cj_cd_nodup k, by simp, fun a ha b hb => ?_⟩
      have h1 := ((cj_cd_mem k a).mp ha).1
      have h2 := List.mem_singleton.mp hb
      omega
    · rw [cj_cd_f e]
      exact cj_cd_nodup k
theorem cj_or_snoc (r : Nat) : ∀ l : List Nat, cj_or hz (l ++ [r]) = cj_or hz l ||| hz r
  | [] => rfl
  | x :: l => by
    show cj_or hz (l ++ [r]) ||| hz x = (cj_or hz l ||| hz x) ||| hz r
    rw [cj_or_snoc r l]
    refine cj_tb_ext (fun i _ => ?_)
    rw [cj_tb_or, cj_tb_or, cj_tb_or, cj_tb_or]
    cases cj_tb (cj_or hz l) i <;> cases cj_tb (hz r) i <;> cases cj_tb (hz x) i <;> rfl
theorem cj_or_sn : ∀ k, cj_or hz (cj_cd ed ea k) = cj_sn ed hz ea k
  | 0 => rfl
  | k + 1 => by
    by_cases e : ed k = ea
    · rw [cj_cd_t e, cj_or_snoc, cj_or_sn k, cj_sn_t e]
    · rw [cj_cd_f e, cj_or_sn k, cj_sn_f e]
theorem cj_wl_snoc (f : Nat → Bool) (r : Nat) : ∀ l : List Nat, cj_wl co f (l ++ [r]) = cj_wl co f l + (bif f r then cj_wt co r else 0)
  | [] => by show _ + 0 = 0 + _; omega
  | x :: l => by
    show (bif f x then cj_wt co x else 0) + cj_wl co f (l ++ [r]) = ((bif f x then cj_wt co x else 0) + cj_wl co f l) + _
    rw [cj_wl_snoc f r l]
    omega
theorem cj_hl_bits (f : Nat → Bool) (i : Nat) : ∀ l : List Nat, cj_tb (cj_hl hz f l) i = l.any (fun r => f r && cj_tb (hz r) i)
  | [] => cj_tb_0 i
  | x :: l => by
    rw [List.any_cons, ← cj_hl_bits f i l]
    show cj_tb (bif f x then cj_hl hz f l ||| hz x else cj_hl hz f l) i = _
    cases f x with
    | true => show cj_tb (cj_hl hz f l ||| hz x) i = _; rw [cj_tb_or, Bool.true_and, Bool.or_comm]
    | false => rfl
theorem cj_hl_snoc (f : Nat → Bool) (r : Nat) (l : List Nat) : cj_hl hz f (l ++ [r]) = bif f r then cj_hl hz f l ||| hz r else cj_hl hz f l := by
  refine cj_tb_ext (fun i _ => ?_)
  rw [cj_hl_bits, List.any_append, ← cj_hl_bits]
  cases hf : f r with
  | true => show _ = cj_tb (cj_hl hz f l ||| hz r) i; rw [cj_tb_or]; simp [hf]
  | false => show _ = cj_tb (cj_hl hz f l) i; simp [hf]
theorem cj_mod_s (s k : Nat) : s % 2 ^ (k + 1) = s % 2 ^ k + 2 ^ k * (s.testBit k).toNat := by
  rw [Nat.mod_pow_succ, Nat.toNat_testBit]
/-- a set of runs of the edition: its weight and lines as the class and as the reference count them -/
theorem cj_num {s : Nat} : ∀ k, (∀ r, r < k → s.testBit r = true → ed r = ea) → cj_wl co s.testBit (cj_cd ed ea k) = cj_su co s k * 262144 + cj_cnt s.testBit k * 16384 + s % 2 ^ k ∧ cj_hl hz s.testBit (cj_cd ed ea k) = cj_hs hz s k
  | 0, _ => by
    refine ⟨?_, rfl⟩
    show 0 = 0 * 262144 + 0 * 16384 + s % 1
    omega
  | k + 1, h => by
    obtain ⟨h1, h2⟩ := cj_num (s := s) k (fun r hr => h r (by omega))
    cases ht : s.testBit k with
    | true =>
      have e := h k (Nat.lt_succ_self k) ht
      have hm := cj_mod_s s k
      rw [ht] at hm
      have hm : s % 2 ^ (k + 1) = s % 2 ^ k + 2 ^ k * 1 := hm
      rw [cj_cd_t e, cj_wl_snoc, cj_hl_snoc, ht, h1, h2, cj_su_t ht, cj_hs_t ht, cj_cs_t ht, hm]
      refine ⟨?_, rfl⟩
      show _ + cj_wt co k = _
      unfold cj_wt
      omega
    | false =>
      have hm := cj_mod_s s k
      rw [ht] at hm
      have hm : s % 2 ^ (k + 1) = s % 2 ^ k + 2 ^ k * 0 := hm
      rw [cj_su_f ht, cj_hs_f ht, cj_cs_f ht, hm]
      by_cases e : ed k = ea
      · rw [cj_cd_t e, cj_wl_snoc, cj_hl_snoc, ht, h1, h2]
        exact ⟨by show _ + 0 = _; omega, rfl⟩
      · rw [cj_cd_f e, h1, h2]
        exact ⟨by omega, rfl⟩
theorem cj_om_bit : ∀ k r, (cj_om ed ea k).testBit r = (decide (r < k) && decide (ed r = ea))
  | 0, r => by
    rw [show cj_om ed ea 0 = 0 from rfl, Nat.zero_testBit, decide_eq_false (Nat.not_lt_zero _)]
    rfl
  | k + 1, r => by
    by_cases e : ed k = ea
    · rw [cj_om_t e, show cj_om ed ea k + 2 ^ k = 2 ^ k * 1 + cj_om ed ea k by omega, Nat.testBit_two_pow_mul_add 1 (cj_om_lt k)]
      by_cases h : r < k
      · rw [if_pos h, cj_om_bit k r, decide_eq_true h, decide_eq_true (show r < k + 1 by omega)]
      · rw [if_neg h]
        by_cases q : r = k
        · subst q
          rw [Nat.sub_self, decide_eq_true (Nat.lt_succ_self r), decide_eq_true e]
          rfl
        · rw [decide_eq_false (show ¬ r < k + 1 by omega), Bool.false_and]
          obtain ⟨z, hz9⟩ : ∃ z, r - k = z + 1 := ⟨r - k - 1, by omega⟩
          rw [hz9, Nat.testBit_succ]
          simp
    · rw [cj_om_f e, cj_om_bit k r]
      by_cases q : r = k
      · subst q
        rw [decide_eq_false e, Bool.and_false, Bool.and_false]
      · by_cases h : r < k
        · rw [decide_eq_true h, decide_eq_true (show r < k + 1 by omega)]
        · rw [decide_eq_false h, decide_eq_false (show ¬ r < k + 1 by omega)]
theorem cj_sub32 {s own : Nat} (hs : s < 2 ^ 31) (ho : own < 2 ^ 31) : (nI s &&& (nI own ^^^ (-1)) = 0) ↔ ∀ r, s.testBit r = true → own.testBit r = true := by
  have hb : ∀ (k : Nat) (i : Nat), i < 32 → (nI k).toBitVec.getLsbD i = k.testBit i := fun k i hi => by
    show (BitVec.ofNat 32 k).getLsbD i = _
    rw [BitVec.getLsbD_ofNat]
    simp [hi]
  have hm : ∀ i, i < 32 → (-1 : Int32).toBitVec.getLsbD i = true := fun i hi => by
    rw [show (-1 : Int32).toBitVec = BitVec.allOnes 32 from by decide, BitVec.getLsbD_allOnes]
    simp [hi]
  constructor
  · intro h r hr
    by_cases h3 : r < 32
    · have h1 := congrArg (fun q : Int32 => q.toBitVec.getLsbD r) h
      have h1 : (nI s &&& (nI own ^^^ (-1))).toBitVec.getLsbD r = (0 : Int32).toBitVec.getLsbD r := h1
      rw [Int32.toBitVec_and, BitVec.getLsbD_and, Int32.toBitVec_xor, BitVec.getLsbD_xor, hb s r h3, hb own r h3, hm r h3, hr] at h1
      cases hq : own.testBit r with
      | true => rfl
      | false => rw [hq] at h1; simp at h1
    · rw [Nat.testBit_lt_two_pow (Nat.lt_of_lt_of_le hs (Nat.pow_le_pow_right (by decide) (by omega)))] at hr
      cases hr
  · intro h
    apply Int32.toBitVec_inj.mp
    apply BitVec.eq_of_getLsbD_eq
    intro i hi
    rw [Int32.toBitVec_and, BitVec.getLsbD_and, Int32.toBitVec_xor, BitVec.getLsbD_xor, hb s i hi, hb own i hi, hm i hi]
    cases hq : s.testBit i with
    | false => simp
    | true => rw [h i hq]; simp
/-- a choice as a number -/
def cj_nu (f : Nat → Bool) : Nat → Nat
  | 0 => 0
  | k + 1 => cj_nu f k + (bif f k then 2 ^ k else 0)
theorem cj_nu_lt (f : Nat → Bool) : ∀ k, cj_nu f k < 2 ^ k
  | 0 => Nat.zero_lt_one
  | k + 1 => by
    have h := cj_nu_lt f k
    have h2 : 2 ^ (k + 1) = 2 * 2 ^ k := by rw [Nat.pow_succ]; omega
    show cj_nu f k + (bif f k then 2 ^ k else 0) < _
    cases f k
    · show cj_nu f k + 0 < _; omega
    · show cj_nu f k + 2 ^ k < _; omega
theorem cj_nu_bit (f : Nat → Bool) : ∀ k r, (cj_nu f k).testBit r = (decide (r < k) && f r)
  | 0, r => by
    rw [show cj_nu f 0 = 0 from rfl, Nat.zero_testBit, decide_eq_false (Nat.not_lt_zero _)]
    rfl
  | k + 1, r => by
    cases e : f k with
    | true =>
      have e1 : cj_nu f (k + 1) = 2 ^ k * 1 + cj_nu f k := by
        show cj_nu f k + (bif f k then 2 ^ k else 0) = _
        rw [e]
        show cj_nu f k + 2 ^ k = _
        omega
      rw [e1, Nat.testBit_two_pow_mul_add 1 (cj_nu_lt f k)]
      by_cases h : r < k
      · rw [if_pos h, cj_nu_bit f k r, decide_eq_true h, decide_eq_true (show r < k + 1 by omega)]
      · rw [if_neg h]
        by_cases q : r = k
        · subst q
          rw [Nat.sub_self, decide_eq_true (Nat.lt_succ_self r), e]
          rfl
        · rw [decide_eq_false (show ¬ r < k + 1 by omega), Bool.false_and]
          obtain ⟨z, hz9⟩ : ∃ z, r - k = z + 1 := ⟨r - k - 1, by omega⟩
          rw [hz9, Nat.testBit_succ]
          simp
    | false =>
      have e1 : cj_nu f (k + 1) = cj_nu f k := by
        show cj_nu f k + (bif f k then 2 ^ k else 0) = _
        rw [e]
        rfl
      rw [e1, cj_nu_bit f k r]
      by_cases q : r = k
      · subst q
        rw [e, Bool.and_false, Bool.and_false]
      · by_cases h : r < k
        · rw [decide_eq_true h, decide_eq_true (show r < k + 1 by omega)]
        · rw [decide_eq_false h, decide_eq_false (show ¬ r < k + 1 by omega)]
end CJS2
def cj_wN (co : Nat → Nat) (rn s : Nat) : Nat := cj_su co s rn * 262144 + cj_on s * 16384 + s
def cj_vd (hz : Nat → Int64) (rn own : Nat) (all : Int64) (s : Nat) : Prop := nI s &&& (nI own ^^^ (-1)) = 0 ∧ cj_hs hz s rn = all
section CJS3
variable {co : Nat → Nat} {hz : Nat → Int64} {rn own : Nat} {all : Int64}
theorem cj_bt_iff {t s : Nat} (ht : t < s) (hs : s < 16384) : cj_bt co rn (some t) s = true ↔ cj_wN co rn s < cj_wN co rn t := by
  have h1 := cj_on_le s
  have h2 := cj_on_le t
  unfold cj_wN
  simp only [cj_bt, Bool.or_eq_true, Bool.and_eq_true, decide_eq_true_eq]
  omega
theorem cj_bs_spec : ∀ m, m ≤ 16384 → (cj_bs co hz rn own all m = none → ∀ s, s < m → ¬ cj_vd hz rn own all s) ∧ (∀ t, cj_bs co hz rn own all m = some t → cj_vd hz rn own all t ∧ t < m ∧ ∀ s, s < m → cj_vd hz rn own all s → cj_wN co rn t ≤ cj_wN co rn s)
  | 0, _ => ⟨fun _ s h => absurd h (Nat.not_lt_zero _), fun t h => by cases h⟩
  | m + 1, hm => by
    obtain ⟨ih1, ih2⟩ := cj_bs_spec m (by omega)
    have same : cj_bs co hz rn own all (m + 1) = cj_bs co hz rn own all m → (cj_vd hz rn own all m → ∃ t, cj_bs co hz rn own all m = some t ∧ cj_wN co rn t ≤ cj_wN co rn m) → (cj_bs co hz rn own all (m + 1) = none → ∀ s, s < m + 1 → ¬ cj_vd hz rn own all s) ∧ (∀ t, cj_bs co hz rn own all (m + 1) = some t → cj_vd hz rn own all t ∧ t < m + 1 ∧ ∀ s, s < m + 1 → cj_vd hz rn own all s → cj_wN co rn t ≤ cj_wN co rn s) := by
      intro e hv
      rw [e]
      refine ⟨fun hnone s hs hvs => ?_, fun t ht => ?_⟩
      · by_cases q : s = m
        · subst q
          obtain ⟨t, ht, -⟩ := hv hvs
          rw [hnone] at ht
          cases ht
        · exact ih1 hnone s (by omega) hvs
      · obtain ⟨a1, a2, a3⟩ := ih2 t ht
        refine ⟨a1, by omega, fun s hs hvs => ?_⟩
        by_cases q : s = m
        · subst q
          obtain ⟨t2, ht2, hle⟩ := hv hvs
          rw [ht] at ht2
          cases ht2
          exact hle
        · exact a3 s (by omega) hvs
    by_cases h1 : nI m &&& (nI own ^^^ (-1)) = 0
    · by_cases h2 : cj_hs hz m rn = all
      · cases h3 : cj_bt co rn (cj_bs co hz rn own all m) m with
        | true =>
          rw [cj_bs_t h1 h2 h3]
          refine ⟨fun h => (by cases h), fun t ht => ?_⟩
          cases ht
          refine ⟨⟨h1, h2⟩, Nat.lt_succ_self _, fun s hs hvs => ?_⟩
          by_cases q : s = m
          · rw [q]; exact Nat.le_refl _
          · cases hb : cj_bs co hz rn own all m with
            | none => exact absurd hvs (ih1 hb s (by omega))
            | some t =>
              rw [hb] at h3
              obtain ⟨a1, a2, a3⟩ := ih2 t hb
              have := (cj_bt_iff a2 (by omega)).mp h3
              have := a3 s (by omega) hvs
              omega
        | false =>
          refine same (cj_bs_3 h3) (fun _ => ?_)
          cases hb : cj_bs co hz rn own all m with
          | none => rw [hb] at h3; cases h3
          | some t =>
            rw [hb] at h3
            obtain ⟨a1, a2, a3⟩ := ih2 t hb
            refine ⟨t, rfl, Nat.not_lt.mp (fun q => ?_)⟩
            rw [(cj_bt_iff a2 (by omega)).mpr q] at h3
            cases h3
      · exact same (cj_bs_2 h2) (fun hv => absurd hv.2 h2)
    · exact same (cj_bs_1 h1) (fun hv => absurd hv.1 h1)
end CJS3
