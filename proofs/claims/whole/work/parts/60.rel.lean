-- PURE: class and reference hold the same
section CJR1
variable {a b a' b' : Nat → Int32} {h w : Nat}
theorem cj_row_congr {x : Int32} {prev prev' : Nat → Nat} (hb : ∀ j, j < w → b j = b' j) (hp : ∀ q, q ≤ w → prev q = prev' q) : ∀ q, q ≤ w → cj_row x b w prev q = cj_row x b' w prev' q
  | 0, _ => rfl
  | q + 1, hq => by
    show (if x = b (w - (q + 1)) then prev q + 1 else max (prev (q + 1)) (cj_row x b w prev q)) = if x = b' (w - (q + 1)) then prev' q + 1 else max (prev' (q + 1)) (cj_row x b' w prev' q)
    rw [hb _ (by omega), hp q (by omega), hp (q + 1) hq, cj_row_congr hb hp q (by omega)]
theorem cj_lcs_congr (ha : ∀ i, i < h → a i = a' i) (hb : ∀ j, j < w → b j = b' j) : ∀ k, k ≤ h → ∀ q, q ≤ w → cj_lcs a b h w k q = cj_lcs a' b' h w k q
  | 0, _, _, _ => rfl
  | k + 1, hk, q, hq => by
    show cj_row (a (h - (k + 1))) b w (cj_lcs a b h w k) q = cj_row (a' (h - (k + 1))) b' w (cj_lcs a' b' h w k) q
    rw [ha _ (by omega)]
    exact cj_row_congr hb (fun q2 h2 => cj_lcs_congr ha hb k (by omega) q2 h2) q hq
theorem cj_T_congr (ha : ∀ i, i < h → a i = a' i) (hb : ∀ j, j < w → b j = b' j) (i j : Nat) : cj_T a b h w i j = cj_T a' b' h w i j := cj_lcs_congr ha hb _ (by omega) _ (by omega)
theorem cj_fd_congr {x : Int32} (hb : ∀ j, j < w → b j = b' j) : ∀ d f, f + d ≤ w → cj_fd b x d f = cj_fd b' x d f
  | 0, _, _ => rfl
  | d + 1, f, hf => by
    show (if b f = x then some f else cj_fd b x d (f + 1)) = if b' f = x then some f else cj_fd b' x d (f + 1)
    rw [hb f (by omega), cj_fd_congr hb d (f + 1) (by omega)]
theorem cj_pk_congr (ha : ∀ i, i < h → a i = a' i) (hb : ∀ j, j < w → b j = b' j) {i f : Nat} (hi : i < h) (hf : f ≤ w) : cj_pk a b h w i f = cj_pk a' b' h w i f := by
  unfold cj_pk
  rw [ha i hi, cj_fd_congr hb _ _ (show f + (w - f) ≤ w by omega)]
  cases cj_fd b' (a' i) (w - f) f with
  | none => rfl
  | some q => dsimp only; rw [cj_T_congr ha hb, cj_T_congr ha hb]
theorem cj_pf_congr (ha : ∀ i, i < h → a i = a' i) (hb : ∀ j, j < w → b j = b' j) : ∀ i, i ≤ h → cj_pf a b h w i = cj_pf a' b' h w i
  | 0, _ => rfl
  | i + 1, hi => by
    show (match cj_pk a b h w i (cj_pf a b h w i) with | none => cj_pf a b h w i | some q => q + 1) = match cj_pk a' b' h w i (cj_pf a' b' h w i) with | none => cj_pf a' b' h w i | some q => q + 1
    rw [cj_pf_congr ha hb i (by omega), cj_pk_congr ha hb (by omega) (cj_pf_le i)]
theorem cj_pp_congr (ha : ∀ i, i < h → a i = a' i) (hb : ∀ j, j < w → b j = b' j) {i : Nat} (hi : i < h) : cj_pp a b h w i = cj_pp a' b' h w i := by
  unfold cj_pp
  rw [cj_pf_congr ha hb i (by omega), cj_pk_congr ha hb hi (cj_pf_le i)]
end CJR1
theorem cj_po_congr {pp pp' : Nat → Option Nat} {sm : Int64} : ∀ k, (∀ i, i < k → pp i = pp' i) → cj_po pp sm k = cj_po pp' sm k
  | 0, _ => rfl
  | k + 1, hk => by
    show (bif cj_tb sm k then (match pp k with | none => cj_po pp sm k | some q => cj_po pp sm k ||| cj_bit q) else cj_po pp sm k) = bif cj_tb sm k then (match pp' k with | none => cj_po pp' sm k | some q => cj_po pp' sm k ||| cj_bit q) else cj_po pp' sm k
    rw [hk k (by omega), cj_po_congr k (fun i hi => hk i (by omega))]
theorem cj_pa_congr {pp pp' : Nat → Option Nat} : ∀ k, (∀ i, i < k → pp i = pp' i) → cj_pa pp k = cj_pa pp' k
  | 0, _ => rfl
  | k + 1, hk => by
    show (match pp k with | none => cj_pa pp k | some q => cj_pa pp k ||| cj_bit q) = match pp' k with | none => cj_pa pp' k | some q => cj_pa pp' k ||| cj_bit q
    rw [hk k (by omega), cj_pa_congr k (fun i hi => hk i (by omega))]
-- bits of longs
theorem cj_tb_or (x y : Int64) (i : Nat) : cj_tb (x ||| y) i = (cj_tb x i || cj_tb y i) := by
  unfold cj_tb
  rw [Int64.toBitVec_or, BitVec.getLsbD_or]
theorem cj_tb_and (x y : Int64) (i : Nat) : cj_tb (x &&& y) i = (cj_tb x i && cj_tb y i) := by
  unfold cj_tb
  rw [Int64.toBitVec_and, BitVec.getLsbD_and]
theorem cj_tb_not (x : Int64) {i : Nat} (hi : i < 64) : cj_tb (x ^^^ (-1)) i = !cj_tb x i := by
  unfold cj_tb
  rw [Int64.toBitVec_xor, BitVec.getLsbD_xor]
  have : (-1 : Int64).toBitVec.getLsbD i = true := by
    rw [show (-1 : Int64).toBitVec = BitVec.allOnes 64 from by decide, BitVec.getLsbD_allOnes]
    simp [hi]
  rw [this]
  cases x.toBitVec.getLsbD i <;> rfl
theorem cj_tb_bit {k : Nat} (hk : k < 64) (i : Nat) : cj_tb (cj_bit k) i = decide (i = k) := by
  unfold cj_bit
  rw [cj_tb_lN, Nat.testBit_two_pow]
  by_cases e : i = k
  · subst e; simp [hk]
  · have e2 : ¬ k = i := fun h => e h.symm
    simp [e, e2]
theorem cj_tb_big {x : Int64} {i : Nat} (hi : 64 ≤ i) : cj_tb x i = false := BitVec.getLsbD_of_ge _ _ hi
theorem cj_tb_ext {x y : Int64} (h : ∀ i, i < 64 → cj_tb x i = cj_tb y i) : x = y := wb_inj (BitVec.eq_of_getLsbD_eq (fun i hi => h i hi))
theorem cj_tb_low {k : Nat} (hk : k ≤ 40) (i : Nat) : cj_tb (cj_bit k - lN 1) i = decide (i < k) := by
  unfold cj_bit
  have h1 : 1 ≤ 2 ^ k := Nat.one_le_two_pow
  rw [lN_sub h1, cj_tb_lN, Nat.testBit_two_pow_sub_one]
  by_cases e : i < k
  · simp [e, show i < 64 by omega]
  · simp [e]
theorem cj_po_pa {pp : Nat → Option Nat} {sm : Int64} : ∀ k, (∀ i, i < k → cj_tb sm i = true) → cj_po pp sm k = cj_pa pp k
  | 0, _ => rfl
  | k + 1, hk => by
    have ih := cj_po_pa (pp := pp) (sm := sm) k (fun i hi => hk i (by omega))
    cases hq : pp k with
    | none => rw [cj_po_n hq, cj_pa_n hq, ih]
    | some q => rw [cj_po_s (hk k (by omega)) hq, cj_pa_s hq, ih]
theorem cj_po_bits {pp : Nat → Option Nat} {sm : Int64} {w : Nat} (hw : w ≤ 40) (hpp : ∀ i q, pp i = some q → q < w) : ∀ k i, cj_tb (cj_po pp sm k) i = true → i < w
  | 0, i, h => by
    rw [show cj_po pp sm 0 = 0 from rfl, cj_tb_0] at h
    cases h
  | k + 1, i, h => by
    cases ht : cj_tb sm k with
    | false => rw [cj_po_f ht] at h; exact cj_po_bits hw hpp k i h
    | true =>
      cases hq : pp k with
      | none => rw [cj_po_n hq] at h; exact cj_po_bits hw hpp k i h
      | some q =>
        have hq2 := hpp k q hq
        rw [cj_po_s ht hq, cj_tb_or, cj_tb_bit (by omega)] at h
        rcases Bool.or_eq_true_iff.mp h with h | h
        · exact cj_po_bits hw hpp k i h
        · have := of_decide_eq_true h
          omega
-- the relation
def cj_I (E rn : Nat) (n ed co : Nat → Nat) (hz : Nat → Int64) (con : Nat → Nat → Int32) (ow : Nat → Nat → Int64) (con2 : Nat → Int32) (ow2 : Nat → Nat) (ge : Nat → Bool) : Prop :=
  E ≤ 8 ∧ (∀ i, n i ≤ 40) ∧ rn ≤ 14 ∧ (∀ r, r < rn → ed r < E) ∧ (∀ r, co r ≤ 100000) ∧ (∀ k, ow2 k < 4) ∧ (∀ r, r < rn → ∀ i, cj_tb (hz r) i = true → i < n (ed r)) ∧ (∀ ea i, ea < 8 → i < 40 → con ea i = con2 (40 * ea + i)) ∧ (∀ ea o i, ea < 8 → o < 4 → cj_tb (ow ea o) i = (decide (i < n ea) && (decide (ow2 (40 * ea + i) = o) && !ge (40 * ea + i))))
section CJR2
variable {E rn : Nat} {n ed co : Nat → Nat} {hz : Nat → Int64} {con : Nat → Nat → Int32} {ow : Nat → Nat → Int64} {con2 : Nat → Int32} {ow2 : Nat → Nat} {ge : Nat → Bool}
theorem cj_I_pp (I : cj_I E rn n ed co hz con ow con2 ow2 ge) {f g : Nat} (hf : f < 8) (hg : g < 8) {i : Nat} (hi : i < n f) : cj_pp (con f) (con g) (n f) (n g) i = cj_pp (cj_c2 con2 f) (cj_c2 con2 g) (n f) (n g) i := by
  obtain ⟨-, hn, -, -, -, -, -, hc, -⟩ := I
  have h1 := hn f
  have h2 := hn g
  exact cj_pp_congr (fun i hi => hc f i hf (by omega)) (fun j hj => hc g j hg (by omega)) hi
theorem f_same_eq (I : cj_I E rn n ed co hz con ow con2 ow2 ge) (x y z : Int32) : f_same E n con x y z = f_same E n (cj_c2 con2) x y z := by
  have hE := I.1
  unfold f_same
  cases h1 : cj_ix x E with
  | none => rfl
  | some f =>
    cases h2 : cj_ix y E with
    | none => rfl
    | some g =>
      cases h3 : cj_ix z (n f) with
      | none => simp only [h3]
      | some i =>
        simp only [h3]
        rw [cj_I_pp I (Nat.lt_of_lt_of_le (cj_ix_lt h1) hE) (Nat.lt_of_lt_of_le (cj_ix_lt h2) hE) (cj_ix_lt h3)]
theorem o_map_eq (I : cj_I E rn n ed co hz con ow con2 ow2 ge) (x y : Int32) : o_map E rn n con ed co hz x y = o_map E rn n (cj_c2 con2) ed co hz x y := by
  have hE := I.1
  have hed := I.2.2.2.1
  unfold o_map
  cases h1 : cj_ix x rn with
  | none => rfl
  | some j =>
    cases h2 : cj_ix y E with
    | none => rfl
    | some g =>
      simp only []
      rw [cj_po_congr _ (fun i hi => cj_I_pp I (Nat.lt_of_lt_of_le (hed j (cj_ix_lt h1)) hE) (Nat.lt_of_lt_of_le (cj_ix_lt h2) hE) hi)]
theorem cj_I_sh (I : cj_I E rn n ed co hz con ow con2 ow2 ge) {j o : Nat} (hj : j < rn) (ho : o < 4) : cj_pop (ow (ed j) o) = cj_shr n ow2 ge ed hz j o false ∧ cj_pop (ow (ed j) o &&& hz j) = cj_shr n ow2 ge ed hz j o true := by
  obtain ⟨hE, hn, -, hed, -, -, -, -, hb⟩ := I
  have he : ed j < 8 := Nat.lt_of_lt_of_le (hed j hj) hE
  have hnj := hn (ed j)
  unfold cj_pop cj_shr
  constructor
  · rw [cj_cnt_stop (b := n (ed j)) (by omega) (fun i hi _ => by rw [hb _ _ _ he ho, decide_eq_false (show ¬ i < n (ed j) by omega)]; rfl)]
    refine cj_cnt_congr (fun i hi => ?_)
    rw [hb _ _ _ he ho, decide_eq_true hi]
    unfold cj_F
    simp
  · rw [cj_cnt_stop (b := n (ed j)) (by omega) (fun i hi _ => by rw [cj_tb_and, hb _ _ _ he ho, decide_eq_false (show ¬ i < n (ed j) by omega)]; rfl)]
    refine cj_cnt_congr (fun i hi => ?_)
    rw [cj_tb_and, hb _ _ _ he ho, decide_eq_true hi]
    unfold cj_F
    simp [Bool.and_assoc]
theorem f_share_eq (I : cj_I E rn n ed co hz con ow con2 ow2 ge) (x z : Int32) (b : Bool) : f_shareC rn ed ow hz x z b = f_shareM rn n ow2 ge ed hz x z b := by
  unfold f_shareC f_shareM
  cases h1 : cj_ix x rn with
  | none => rfl
  | some j =>
    cases h2 : cj_ix z 4 with
    | none => rfl
    | some o =>
      have := cj_I_sh I (cj_ix_lt h1) (cj_ix_lt h2)
      cases b
      · simp only [cond_false]; rw [this.1]
      · simp only [cond_true]; rw [this.2]
theorem f_falls_eq (I : cj_I E rn n ed co hz con ow con2 ow2 ge) (x y z : Int32) : f_fallsC rn ed ow hz x y z = f_fallsM rn n ow2 ge ed hz x y z := by
  unfold f_fallsC f_fallsM
  cases h1 : cj_ix x rn with
  | none => rfl
  | some a =>
    cases h2 : cj_ix y rn with
    | none => rfl
    | some b =>
      cases h3 : cj_ix z 4 with
      | none => rfl
      | some o =>
        have p := cj_I_sh I (cj_ix_lt h1) (cj_ix_lt h3)
        have q := cj_I_sh I (cj_ix_lt h2) (cj_ix_lt h3)
        simp only []
        rw [p.1, p.2, q.1, q.2]
theorem cj_I_ug (I : cj_I E rn n ed co hz con ow con2 ow2 ge) {ea i : Nat} (he : ea < 8) : cj_tb (cj_ug ow ea 4) i = (decide (i < n ea) && !ge (40 * ea + i)) := by
  obtain ⟨-, -, -, -, -, h4, -, -, hb⟩ := I
  show cj_tb ((((0 ||| ow ea 0) ||| ow ea 1) ||| ow ea 2) ||| ow ea 3) i = _
  rw [cj_tb_or, cj_tb_or, cj_tb_or, cj_tb_or, cj_tb_0, hb ea 0 i he (by decide), hb ea 1 i he (by decide), hb ea 2 i he (by decide), hb ea 3 i he (by decide)]
  have := h4 (40 * ea + i)
  rcases (show ow2 (40 * ea + i) = 0 ∨ ow2 (40 * ea + i) = 1 ∨ ow2 (40 * ea + i) = 2 ∨ ow2 (40 * ea + i) = 3 by omega) with e | e | e | e <;> rw [e] <;> simp
theorem f_fresh_eq (I : cj_I E rn n ed co hz con ow con2 ow2 ge) (x y : Int32) (b : Bool) : f_freshC E rn n con ow ed hz x y b = f_freshM E rn n (cj_c2 con2) ge ed hz x y b := by
  have I0 := I
  obtain ⟨hE, hn, -, hed, -, -, -, -, -⟩ := I0
  unfold f_freshC f_freshM
  cases h1 : cj_ix x rn with
  | none => rfl
  | some j =>
    cases h2 : cj_ix y E with
    | none => rfl
    | some ea =>
      have hea : ea < 8 := Nat.lt_of_lt_of_le (cj_ix_lt h2) hE
      have hej : ed j < 8 := Nat.lt_of_lt_of_le (hed j (cj_ix_lt h1)) hE
      have hna := hn ea
      have hnj := hn (ed j)
      simp only []
      rw [cj_po_pa (n ea) (fun i hi => by rw [cj_tb_low hna]; exact decide_eq_true hi), cj_pa_congr (n ea) (fun i hi => cj_I_pp I hea hej hi)]
      generalize cj_pa (cj_pp (cj_c2 con2 ea) (cj_c2 con2 (ed j)) (n ea) (n (ed j))) (n ea) = old
      have hF : ∀ i, i < 64 → cj_tb (cj_ug ow (ed j) 4 &&& (old ^^^ (-1))) i = (decide (i < n (ed j)) && (!cj_tb old i && !ge (40 * ed j + i))) := fun i hi => by
        rw [cj_tb_and, cj_I_ug I hej, cj_tb_not _ hi]
        cases decide (i < n (ed j)) <;> cases ge (40 * ed j + i) <;> cases cj_tb old i <;> rfl
      cases b
      · simp only [cond_false]
        unfold cj_pop
        rw [cj_cnt_stop (b := n (ed j)) (by omega) (fun i hi h6 => by rw [hF i h6, decide_eq_false (show ¬ i < n (ed j) by omega)]; rfl)]
        rw [cj_cnt_congr (fun i hi => ?_)]
        rw [hF i (by omega), decide_eq_true hi]
        unfold cj_FR
        simp
      · simp only [cond_true]
        unfold cj_pop
        rw [cj_cnt_stop (b := n (ed j)) (by omega) (fun i hi h6 => by rw [cj_tb_and, hF i h6, decide_eq_false (show ¬ i < n (ed j) by omega)]; rfl)]
        rw [cj_cnt_congr (fun i hi => ?_)]
        rw [cj_tb_and, hF i (by omega), decide_eq_true hi]
        unfold cj_FR
        simp [Bool.and_assoc]
end CJR2
