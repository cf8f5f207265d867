-- THE REFERENCE: what its own arrays become
def m_con (n : Nat → Nat) (con : Nat → Int32) (y : Int32) (o : Option (Nat × Nat)) : Nat → Int32 := match o with
  | none => con
  | some (e, _) => va_up con (40 * e + n e) y
def m_ow (n : Nat → Nat) (ow : Nat → Nat) (o : Option (Nat × Nat)) : Nat → Nat := match o with
  | none => ow
  | some (e, o) => va_up ow (40 * e + n e) o
def m_ge (n : Nat → Nat) (ge : Nat → Bool) (g : Bool) (o : Option (Nat × Nat)) : Nat → Bool := match o with
  | none => ge
  | some (e, _) => va_up ge (40 * e + n e) g
theorem o_run_full {E rn : Nat} {x y : Int32} (h : ¬ rn < 14) : o_run E rn x y = none := by
  unfold o_run o_room
  cases cj_ix x E with
  | none => rfl
  | some e =>
    cases cj_ix y 100001 with
    | none => rfl
    | some c => exact if_neg h
theorem cj_sar_bit {x : Int64} {i : Nat} (hi : i < 64) : cj_tb (x >>> ((nI i).toInt64 &&& 63)) 0 = cj_tb x i := by
  unfold cj_tb
  rw [wb_c i hi, Int64.toBitVec_shiftRight, wb_tb, wb_sm i hi, BitVec.sshiftRight_eq', BitVec.toNat_ofNat, Nat.mod_eq_of_lt (by omega), BitVec.getLsbD_sshiftRight]
  simp [hi]
theorem cj_and1 (z : Int64) : (z &&& lN 1 = lN 1) ↔ cj_tb z 0 = true := by
  have hb : ∀ k, k < 64 → (lN 1).toBitVec.getLsbD k = decide (k = 0) := by
    intro k hk
    have := cj_tb_lN 1 k
    unfold cj_tb at this
    rw [this]
    cases k with
    | zero => simp
    | succ k => simp [Nat.testBit_succ]
  constructor
  · intro h
    have h1 := congrArg (fun q : Int64 => q.toBitVec.getLsbD 0) h
    rw [Int64.toBitVec_and, BitVec.getLsbD_and, hb 0 (by decide)] at h1
    simpa [cj_tb] using h1
  · intro h
    apply wb_inj
    apply BitVec.eq_of_getLsbD_eq
    intro k hk
    rw [Int64.toBitVec_and, BitVec.getLsbD_and, hb k hk]
    by_cases e : k = 0
    · subst e
      unfold cj_tb at h
      rw [h]
      rfl
    · simp [e]
theorem cj_sar_t {x : Int64} {i : Nat} (hi : i < 64) (h : (x >>> ((nI i).toInt64 &&& 63)) &&& lN 1 = lN 1) : cj_tb x i = true := by
  rw [← cj_sar_bit hi]
  exact (cj_and1 _).mp h
theorem cj_sar_f {x : Int64} {i : Nat} (hi : i < 64) (h : ¬ (x >>> ((nI i).toInt64 &&& 63)) &&& lN 1 = lN 1) : cj_tb x i = false := by
  cases hc : cj_tb x i with
  | false => rfl
  | true => exact absurd ((cj_and1 _).mpr (by rw [cj_sar_bit hi]; exact hc)) h
