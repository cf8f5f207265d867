-- PURE: every call keeps the relation
section CJR3
variable {E rn : Nat} {n ed co : Nat → Nat} {hz : Nat → Int64} {con : Nat → Nat → Int32} {ow : Nat → Nat → Int64} {con2 : Nat → Int32} {ow2 : Nat → Nat} {ge : Nat → Bool} {cl : Nat → Bool}
theorem cj_I_edition (I : cj_I E rn n ed co hz con ow con2 ow2 ge) : cj_I (e_E E) rn n ed co hz con ow con2 ow2 ge := by
  obtain ⟨hE, hn, hR, hed, hrest⟩ := I
  unfold e_E
  split
  · exact ⟨by omega, hn, hR, fun r h => by have := hed r h; omega, hrest⟩
  · exact ⟨hE, hn, hR, hed, hrest⟩
theorem o_line_some {x z : Int32} {e o : Nat} (h : o_line E n cl x z = some (e, o)) : e < E ∧ o < 4 ∧ n e < 40 := by
  unfold o_line at h
  cases h1 : cj_ix x E with
  | none => rw [h1] at h; cases h
  | some e1 =>
    rw [h1] at h
    cases h2 : cj_ix z 4 with
    | none => rw [h2] at h; cases h
    | some o1 =>
      rw [h2] at h
      dsimp only at h
      cases hc : cl e1 with
      | true => rw [hc] at h; cases h
      | false =>
        rw [hc] at h
        by_cases h3 : n e1 < 40
        · rw [if_pos h3] at h
          cases h
          exact ⟨cj_ix_lt h1, cj_ix_lt h2, h3⟩
        · rw [if_neg h3] at h
          cases h
theorem cj_I_line (I : cj_I E rn n ed co hz con ow con2 ow2 ge) (x y z : Int32) (g : Bool) : cj_I E rn (l_n n (o_line E n cl x z)) ed co hz (l_con n con y (o_line E n cl x z)) (l_ow n ow g (o_line E n cl x z)) (m_con n con2 y (o_line E n cl x z)) (m_ow n ow2 (o_line E n cl x z)) (m_ge n ge g (o_line E n cl x z)) := by
  cases ho : o_line E n cl x z with
  | none => exact I
  | some p =>
    obtain ⟨e, o⟩ := p
    obtain ⟨he, ho4, hne⟩ := o_line_some ho
    obtain ⟨hE, hn, hR, hed, hco, h4, hh, hc, hb⟩ := I
    refine ⟨hE, fun i => ?_, hR, hed, hco, fun k => ?_, fun r hr i hi => ?_, fun ea i hea hi => ?_, fun ea o2 i hea ho2 => ?_⟩
    · show va_up n e (n e + 1) i ≤ 40
      by_cases q : i = e
      · rw [q, va_up_self]; omega
      · rw [va_up_ne _ _ q]; exact hn i
    · show va_up ow2 (40 * e + n e) o k < 4
      by_cases q : k = 40 * e + n e
      · rw [q, va_up_self]; exact ho4
      · rw [va_up_ne _ _ q]; exact h4 k
    · show i < va_up n e (n e + 1) (ed r)
      have := hh r hr i hi
      by_cases q : ed r = e
      · rw [q, va_up_self]; rw [q] at this; omega
      · rw [va_up_ne _ _ q]; exact this
    · show va_up con e (va_up (con e) (n e) y) ea i = va_up con2 (40 * e + n e) y (40 * ea + i)
      by_cases q : ea = e
      · subst q
        rw [va_up_self]
        by_cases q2 : i = n ea
        · subst q2; rw [va_up_self, va_up_self]
        · rw [va_up_ne _ _ q2, va_up_ne _ _ (by omega)]; exact hc ea i hea hi
      · rw [va_up_ne _ _ q, va_up_ne _ _ (by omega)]; exact hc ea i hea hi
    · show cj_tb ((bif g then ow else va_up ow e (va_up (ow e) o (ow e o ||| cj_bit (n e)))) ea o2) i = (decide (i < va_up n e (n e + 1) ea) && (decide (va_up ow2 (40 * e + n e) o (40 * ea + i) = o2) && !va_up ge (40 * e + n e) g (40 * ea + i)))
      have hnea := hn ea
      by_cases q : ea = e
      · subst q
        rw [va_up_self]
        by_cases q2 : i = n ea
        · subst q2
          rw [va_up_self, va_up_self, decide_eq_true (Nat.lt_succ_self _)]
          cases g with
          | true =>
            show cj_tb (ow ea o2) (n ea) = _
            rw [hb ea o2 _ hea ho2, decide_eq_false (Nat.lt_irrefl _)]
            simp
          | false =>
            show cj_tb (va_up ow ea (va_up (ow ea) o (ow ea o ||| cj_bit (n ea))) ea o2) (n ea) = _
            rw [va_up_self]
            by_cases q3 : o2 = o
            · subst q3
              rw [va_up_self, cj_tb_or, cj_tb_bit (by omega)]
              simp
            · rw [va_up_ne _ _ q3, hb ea o2 _ hea ho2, decide_eq_false (Nat.lt_irrefl _), decide_eq_false (show ¬ o = o2 from fun h => q3 h.symm)]
              rfl
        · rw [va_up_ne _ _ (show 40 * ea + i ≠ 40 * ea + n ea by omega), va_up_ne _ _ (show 40 * ea + i ≠ 40 * ea + n ea by omega)]
          have e1 : decide (i < n ea + 1) = decide (i < n ea) := by
            by_cases q4 : i < n ea
            · rw [decide_eq_true q4, decide_eq_true (by omega)]
            · rw [decide_eq_false q4, decide_eq_false (by omega)]
          rw [e1, ← hb ea o2 i hea ho2]
          cases g with
          | true => rfl
          | false =>
            show cj_tb (va_up ow ea (va_up (ow ea) o (ow ea o ||| cj_bit (n ea))) ea o2) i = _
            rw [va_up_self]
            by_cases q3 : o2 = o
            · subst q3
              rw [va_up_self, cj_tb_or, cj_tb_bit (by omega), decide_eq_false q2, Bool.or_false]
            · rw [va_up_ne _ _ q3]
      · rw [va_up_ne _ _ q]
        have hl : cj_tb ((bif g then ow else va_up ow e (va_up (ow e) o (ow e o ||| cj_bit (n e)))) ea o2) i = cj_tb (ow ea o2) i := by
          cases g with
          | true => rfl
          | false =>
            show cj_tb (va_up ow e _ ea o2) i = _
            rw [va_up_ne _ _ q]
        rw [hl, hb ea o2 i hea ho2]
        by_cases q4 : i < n ea
        · rw [va_up_ne _ _ (show 40 * ea + i ≠ 40 * e + n e by omega), va_up_ne _ _ (show 40 * ea + i ≠ 40 * e + n e by omega)]
        · rw [decide_eq_false q4]; rfl
theorem cj_I_hit (I : cj_I E rn n ed co hz con ow con2 ow2 ge) (x y : Int32) : cj_I E rn n ed co (h_hit hz (o_hit rn n ed hz x y)) con ow con2 ow2 ge := by
  cases ho : o_hit rn n ed hz x y with
  | none => exact I
  | some p =>
    obtain ⟨j, i⟩ := p
    obtain ⟨hE, hn, hR, hed, hco, h4, hh, hc, hb⟩ := I
    have hji : j < rn ∧ i < n (ed j) := by
      unfold o_hit at ho
      cases h1 : cj_ix x rn with
      | none => rw [h1] at ho; cases ho
      | some j1 =>
        rw [h1] at ho
        dsimp only at ho
        cases h2 : cj_ix y (n (ed j1)) with
        | none => rw [h2] at ho; cases ho
        | some i1 =>
          rw [h2] at ho
          dsimp only at ho
          cases h3 : cj_tb (hz j1) i1 with
          | true => rw [h3] at ho; cases ho
          | false => rw [h3] at ho; cases ho; exact ⟨cj_ix_lt h1, cj_ix_lt h2⟩
    refine ⟨hE, hn, hR, hed, hco, h4, fun r hr k hk => ?_, hc, hb⟩
    have hk : cj_tb (va_up hz j (hz j ||| cj_bit i) r) k = true := hk
    have hnj := hn (ed j)
    by_cases q : r = j
    · subst q
      rw [va_up_self, cj_tb_or, cj_tb_bit (by omega)] at hk
      rcases Bool.or_eq_true_iff.mp hk with h | h
      · exact hh r hr k h
      · have := of_decide_eq_true h
        omega
    · rw [va_up_ne _ _ q] at hk
      exact hh r hr k hk
/-- a run that may come -/
def cj_ok (E rn : Nat) (n : Nat → Nat) (o : cj_new) : Prop := ∀ e c h, o = some (e, c, h) → rn < 14 ∧ e < E ∧ c ≤ 100000 ∧ ∀ i, cj_tb h i = true → i < n e
theorem cj_I_add (I : cj_I E rn n ed co hz con ow con2 ow2 ge) {o : cj_new} (ho : cj_ok E rn n o) : cj_I E (a_rn rn o) n (a_ed rn ed o) (a_co rn co o) (a_hz rn hz o) con ow con2 ow2 ge := by
  cases o with
  | none => exact I
  | some p =>
    obtain ⟨e, c, h⟩ := p
    obtain ⟨h14, he, hc0, hbt⟩ := ho e c h rfl
    obtain ⟨hE, hn, hR, hed, hco, h4, hh, hc, hb⟩ := I
    refine ⟨hE, hn, h14, fun r hr => ?_, fun r => ?_, h4, fun r hr i hi => ?_, hc, hb⟩
    · show va_up ed rn e r < E
      have hr : r < rn + 1 := hr
      by_cases q : r = rn
      · rw [q, va_up_self]; exact he
      · rw [va_up_ne _ _ q]; exact hed r (by omega)
    · show va_up co rn c r ≤ 100000
      by_cases q : r = rn
      · rw [q, va_up_self]; exact hc0
      · rw [va_up_ne _ _ q]; exact hco r
    · have hr : r < rn + 1 := hr
      have hi : cj_tb (va_up hz rn h r) i = true := hi
      show i < n (va_up ed rn e r)
      by_cases q : r = rn
      · rw [q, va_up_self] at hi; rw [q, va_up_self]; exact hbt i hi
      · rw [va_up_ne _ _ q] at hi; rw [va_up_ne _ _ q]; exact hh r (by omega) i hi
theorem cj_ok_room {e c : Nat} {h : Int64} (he : e < E) (hc : c ≤ 100000) (hb : ∀ i, cj_tb h i = true → i < n e) : cj_ok E rn n (o_room rn e c h) := by
  intro e1 c1 h1 q
  unfold o_room at q
  by_cases h14 : rn < 14
  · rw [if_pos h14] at q
    cases q
    exact ⟨h14, he, hc, hb⟩
  · rw [if_neg h14] at q
    cases q
theorem cj_ok_none : cj_ok E rn n none := fun _ _ _ h => by cases h
theorem cj_ok_run (x y : Int32) : cj_ok E rn n (o_run E rn x y) := by
  unfold o_run
  cases h1 : cj_ix x E with
  | none => exact cj_ok_none
  | some e =>
    cases h2 : cj_ix y 100001 with
    | none => exact cj_ok_none
    | some c => exact cj_ok_room (cj_ix_lt h1) (by have := cj_ix_lt h2; omega) (fun i h => by rw [cj_tb_0] at h; cases h)
theorem cj_ok_join (I : cj_I E rn n ed co hz con ow con2 ow2 ge) (x y : Int32) : cj_ok E rn n (o_join rn ed co hz x y) := by
  obtain ⟨hE, hn, hR, hed, hco, h4, hh, hc, hb⟩ := I
  unfold o_join
  cases h1 : cj_ix x rn with
  | none => exact cj_ok_none
  | some a =>
    cases h2 : cj_ix y rn with
    | none => exact cj_ok_none
    | some b =>
      dsimp only
      by_cases q : ed a = ed b
      · rw [if_pos q]
        refine cj_ok_room (hed a (cj_ix_lt h1)) (Nat.min_le_right _ _) (fun i h => ?_)
        rw [cj_tb_or] at h
        rcases Bool.or_eq_true_iff.mp h with h | h
        · exact hh a (cj_ix_lt h1) i h
        · rw [q]; exact hh b (cj_ix_lt h2) i h
      · rw [if_neg q]
        exact cj_ok_none
theorem cj_ok_map (I : cj_I E rn n ed co hz con ow con2 ow2 ge) (x y : Int32) : cj_ok E rn n (o_map E rn n con ed co hz x y) := by
  obtain ⟨hE, hn, hR, hed, hco, h4, hh, hc, hb⟩ := I
  unfold o_map
  cases h1 : cj_ix x rn with
  | none => exact cj_ok_none
  | some j =>
    cases h2 : cj_ix y E with
    | none => exact cj_ok_none
    | some e =>
      have := cj_ok_room (E := E) (rn := rn) (n := n) (e := e) (c := co j) (h := cj_po (cj_pp (con (ed j)) (con e) (n (ed j)) (n e)) (hz j) (n (ed j))) (cj_ix_lt h2) (hco j) (fun i h => cj_po_bits (hn e) (fun i q hq => cj_pp_lt hq) _ _ h)
      unfold o_room at this
      exact this
end CJR3
