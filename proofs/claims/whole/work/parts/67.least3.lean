-- PURE: class and reference find the same least cover
section CJS4
variable {E rn : Nat} {n ed co : Nat → Nat} {hz : Nat → Int64} {ea : Nat}
theorem cj_hl_true : ∀ l : List Nat, cj_hl hz (fun _ => true) l = cj_or hz l
  | [] => rfl
  | r :: l => by
    show cj_hl hz (fun _ => true) l ||| hz r = cj_or hz l ||| hz r
    rw [cj_hl_true l]
theorem cj_hl_or (f : Nat → Bool) (l : List Nat) (i : Nat) (h : cj_tb (cj_hl hz f l) i = true) : cj_tb (cj_or hz l) i = true := by
  rw [← cj_hl_true, cj_hl_bits]
  rw [cj_hl_bits] at h
  obtain ⟨r, hr, h2⟩ := List.any_eq_true.mp h
  exact List.any_eq_true.mpr ⟨r, hr, by rw [(Bool.and_eq_true_iff.mp h2).2]; rfl⟩
theorem cj_numN {s : Nat} (hR : rn ≤ 14) (hs : s < 2 ^ rn) (hb : ∀ r, r < rn → s.testBit r = true → ed r = ea) : cj_wl co s.testBit (cj_cd ed ea rn) = cj_wN co rn s ∧ cj_hl hz s.testBit (cj_cd ed ea rn) = cj_hs hz s rn := by
  obtain ⟨h1, h2⟩ := cj_num (co := co) (hz := hz) rn hb
  refine ⟨?_, h2⟩
  rw [h1, Nat.mod_eq_of_lt hs]
  unfold cj_wN cj_on
  rw [cj_cnt_stop hR (fun i hi _ => Nat.testBit_lt_two_pow (Nat.lt_of_lt_of_le hs (Nat.pow_le_pow_right (by decide) hi)))]
theorem cj_least (hR : rn ≤ 14) (hco : ∀ r, co r ≤ 100000) : ∃ t, t < 16384 ∧ cj_bs co hz rn (cj_om ed ea rn) (cj_sn ed hz ea rn) (2 ^ rn) = some t ∧ cj_best ed co hz rn ea = lN (cj_wN co rn t) := by
  have hp2 := cj_p2 hR
  have hon : cj_om ed ea rn < 2 ^ 31 := Nat.lt_of_lt_of_le (cj_om_lt rn) (by omega)
  have sub : ∀ s, s < 2 ^ rn → (nI s &&& (nI (cj_om ed ea rn) ^^^ (-1)) = 0 ↔ ∀ r, s.testBit r = true → r < rn ∧ ed r = ea) := fun s hs => by
    rw [cj_sub32 (by omega) hon]
    constructor
    · intro h r hr
      have := h r hr
      rw [cj_om_bit] at this
      have := Bool.and_eq_true_iff.mp this
      exact ⟨of_decide_eq_true this.1, of_decide_eq_true this.2⟩
    · intro h r hr
      have := h r hr
      rw [cj_om_bit, decide_eq_true this.1, decide_eq_true this.2]
      rfl
  obtain ⟨v0, hv0, -⟩ := cj_mn_low (co := co) (hz := hz) (fun _ => true) (cj_cd ed ea rn) (cj_sn ed hz ea rn) (fun i hi => by rw [cj_hl_true, cj_or_sn]; exact hi)
  obtain ⟨f, hf1, hf2⟩ := cj_mn_got (co := co) (hz := hz) _ _ v0 (cj_cd_nodup rn) hv0
  have hbit : ∀ r, (cj_nu (fun r => f r && decide (ed r = ea)) rn).testBit r = (decide (r < rn) && (f r && decide (ed r = ea))) := cj_nu_bit _ rn
  have hs0 := cj_nu_lt (fun r => f r && decide (ed r = ea)) rn
  generalize cj_nu (fun r => f r && decide (ed r = ea)) rn = s0 at hbit hs0
  have hb0 : ∀ r, s0.testBit r = true → r < rn ∧ ed r = ea := fun r hr => by
    rw [hbit] at hr
    have h1 := Bool.and_eq_true_iff.mp hr
    exact ⟨of_decide_eq_true h1.1, of_decide_eq_true (Bool.and_eq_true_iff.mp h1.2).2⟩
  have hc := cj_wl_congr (co := co) (hz := hz) (f := s0.testBit) (g := f) (cj_cd ed ea rn) (fun r hr => by
    have h1 := (cj_cd_mem rn r).mp hr
    rw [hbit, decide_eq_true h1.1, decide_eq_true h1.2, Bool.and_true, Bool.true_and])
  have hn0 := cj_numN (co := co) (hz := hz) (ea := ea) (ed := ed) hR hs0 (fun r _ hr => (hb0 r hr).2)
  have hall : cj_hs hz s0 rn = cj_sn ed hz ea rn := by
    rw [← hn0.2, hc.2]
    refine cj_tb_ext (fun i _ => ?_)
    cases h1 : cj_tb (cj_sn ed hz ea rn) i with
    | true => exact hf1 i h1
    | false =>
      cases h2 : cj_tb (cj_hl hz f (cj_cd ed ea rn)) i with
      | false => rfl
      | true =>
        have := cj_hl_or f _ i h2
        rw [cj_or_sn, h1] at this
        cases this
  have hvd0 : cj_vd hz rn (cj_om ed ea rn) (cj_sn ed hz ea rn) s0 := ⟨(sub s0 hs0).mpr hb0, hall⟩
  have hw0 : cj_wN co rn s0 = v0 := by rw [← hn0.1, hc.1, hf2]
  obtain ⟨b1, b2⟩ := cj_bs_spec (co := co) (hz := hz) (rn := rn) (own := cj_om ed ea rn) (all := cj_sn ed hz ea rn) (2 ^ rn) hp2
  cases hb : cj_bs co hz rn (cj_om ed ea rn) (cj_sn ed hz ea rn) (2 ^ rn) with
  | none => exact absurd hvd0 (b1 hb s0 hs0)
  | some t =>
    obtain ⟨⟨c1, c2⟩, c3, c4⟩ := b2 t hb
    have hle := c4 s0 hs0 hvd0
    have hnt := cj_numN (co := co) (hz := hz) (ea := ea) (ed := ed) hR c3 (fun r _ hr => ((sub t c3).mp c1 r hr).2)
    obtain ⟨v, hv, hvle⟩ := cj_mn_low (co := co) (hz := hz) t.testBit (cj_cd ed ea rn) (cj_sn ed hz ea rn) (fun i hi => by rw [hnt.2, c2]; exact hi)
    rw [hv0] at hv
    injection hv with hv
    have he : cj_wN co rn t = v0 := by rw [hnt.1] at hvle; omega
    refine ⟨t, by omega, rfl, ?_⟩
    have hsu := cj_su_le (s := t) hco rn
    have hon14 := cj_on_le t
    have hlen := cj_cd_len (ed := ed) (ea := ea) rn
    have hbig : cj_wN co rn t < 2 ^ 50 := by unfold cj_wN; omega
    unfold cj_best
    rw [show (0 : Int64) = lN 0 from rfl, show (9223372036854775807 : Int64) = lN 9223372036854775807 from by decide, cj_ll_mn hco _ _ _ _ (fun r hr => by have := ((cj_cd_mem rn r).mp hr).1; omega) (by omega) (by decide), cj_or_sn, hv0, he]
    show lN (min 9223372036854775807 (0 + v0)) = lN v0
    rw [Nat.zero_add, Nat.min_eq_right (by omega)]
theorem cj_sarN {x k : Nat} (hx : x < 2 ^ 63) (hk : k < 64) : lN x >>> ((nI k).toInt64 &&& 63) = lN (x / 2 ^ k) := by
  apply wb_inj
  rw [wb_c k hk, Int64.toBitVec_shiftRight, wb_tb, wb_tb, wb_sm k hk, BitVec.sshiftRight_eq', BitVec.toNat_ofNat, Nat.mod_eq_of_lt (show k < 2 ^ 64 by omega)]
  have hm : (BitVec.ofNat 64 x).msb = false := by
    rw [BitVec.msb_eq_false_iff_two_mul_lt, BitVec.toNat_ofNat, Nat.mod_eq_of_lt (by omega)]
    omega
  rw [BitVec.sshiftRight_eq_of_msb_false hm]
  apply BitVec.eq_of_toNat_eq
  rw [BitVec.toNat_ushiftRight, BitVec.toNat_ofNat, Nat.mod_eq_of_lt (by omega), Nat.shiftRight_eq_div_pow, wb_tb, BitVec.toNat_ofNat, Nat.mod_eq_of_lt (Nat.lt_of_le_of_lt (Nat.div_le_self _ _) (by omega))]
theorem cj_least2 (hR : rn ≤ 14) (hco : ∀ r, co r ≤ 100000) : (cj_best ed co hz rn ea >>> ((nI 18).toInt64 &&& 63)).toInt32 = nI (cj_bc co rn (cj_bs co hz rn (cj_om ed ea rn) (cj_sn ed hz ea rn) (2 ^ rn))) ∧ (cj_best ed co hz rn ea &&& 16383).toInt32 = oI (cj_bs co hz rn (cj_om ed ea rn) (cj_sn ed hz ea rn) (2 ^ rn)) := by
  obtain ⟨t, ht, hb, he⟩ := cj_least (ed := ed) (hz := hz) (ea := ea) hR hco
  have hsu := cj_su_le (s := t) hco rn
  have hon14 := cj_on_le t
  have hbig : cj_wN co rn t < 2 ^ 50 := by unfold cj_wN; omega
  rw [hb, he]
  constructor
  · rw [cj_sarN (by omega) (by decide), lN_i]
    show nI (cj_wN co rn t / 262144) = nI (cj_su co t rn)
    congr 1
    unfold cj_wN
    omega
  · rw [show (16383 : Int64) = lN (2 ^ 14 - 1) from by decide, wb_mask (by omega) (by decide), lN_i]
    show nI (cj_wN co rn t % 16384) = nI t
    congr 1
    unfold cj_wN
    omega
end CJS4
section CJR4
variable {E rn : Nat} {n ed co : Nat → Nat} {hz : Nat → Int64} {con : Nat → Nat → Int32} {ow : Nat → Nat → Int64} {con2 : Nat → Int32} {ow2 : Nat → Nat} {ge : Nat → Bool}
theorem f_least_eq (I : cj_I E rn n ed co hz con ow con2 ow2 ge) {x : Int32} : f_leastC E rn ed co hz x = f_leastM E rn ed co hz x := by
  unfold f_leastC f_leastM
  cases cj_ix x E with
  | none => rfl
  | some ea => exact (cj_least2 I.2.2.1 I.2.2.2.2.1).1
theorem c_least_eq (I : cj_I E rn n ed co hz con ow con2 ow2 ge) {ch x : Int32} : c_leastC E rn ed co hz ch x = c_leastM E rn ed co hz ch x := by
  unfold c_leastC c_leastM
  cases cj_ix x E with
  | none => rfl
  | some ea => exact (cj_least2 I.2.2.1 I.2.2.2.2.1).2
end CJR4
