-- PURE: how many bits of a long are set, as the machine's own bitCount counts them
/-- how many of the first k are true -/
def cj_cnt (f : Nat → Bool) : Nat → Nat
  | 0 => 0
  | k + 1 => cj_cnt f k + (f k).toNat
theorem cj_cnt_congr {f g : Nat → Bool} : ∀ {k : Nat}, (∀ i, i < k → f i = g i) → cj_cnt f k = cj_cnt g k
  | 0, _ => rfl
  | k + 1, h => by
    show cj_cnt f k + (f k).toNat = cj_cnt g k + (g k).toNat
    rw [cj_cnt_congr (fun i hi => h i (Nat.lt_succ_of_lt hi)), h k (Nat.lt_succ_self k)]
theorem cj_cnt_le (f : Nat → Bool) : ∀ k : Nat, cj_cnt f k ≤ k
  | 0 => Nat.le_refl 0
  | k + 1 => by
    have h := cj_cnt_le f k
    have h2 : (f k).toNat ≤ 1 := by cases f k <;> decide
    show cj_cnt f k + (f k).toNat ≤ k + 1
    omega
theorem cj_cnt_add (f : Nat → Bool) (k : Nat) : ∀ j : Nat, cj_cnt f (k + j) = cj_cnt f k + cj_cnt (fun i => f (k + i)) j
  | 0 => rfl
  | j + 1 => by
    show cj_cnt f (k + j) + (f (k + j)).toNat = cj_cnt f k + (cj_cnt (fun i => f (k + i)) j + (f (k + j)).toNat)
    rw [cj_cnt_add f k j]
    omega
theorem cj_cnt_zero {f : Nat → Bool} : ∀ {k : Nat}, (∀ i, i < k → f i = false) → cj_cnt f k = 0
  | 0, _ => rfl
  | k + 1, h => by
    show cj_cnt f k + (f k).toNat = 0
    rw [cj_cnt_zero (fun i hi => h i (Nat.lt_succ_of_lt hi)), h k (Nat.lt_succ_self k)]
    rfl
/-- beyond b nothing is true: the count up to any k past b is that up to b -/
theorem cj_cnt_stop {f : Nat → Bool} {b k : Nat} (hb : b ≤ k) (h : ∀ i, b ≤ i → i < k → f i = false) : cj_cnt f k = cj_cnt f b := by
  obtain ⟨j, rfl⟩ : ∃ j, k = b + j := ⟨k - b, by omega⟩
  rw [cj_cnt_add, cj_cnt_zero (fun i hi => h (b + i) (by omega) (by omega))]
  rfl
def cj_val : List Nat → Nat
  | [] => 0
  | a :: l => a + 256 * cj_val l
def cj_s1 (n m : Nat) : Nat := n - ((n / 2) &&& m)
def cj_s2 (n m : Nat) : Nat := (n &&& m) + ((n / 4) &&& m)
def cj_s3 (n m : Nat) : Nat := (n + n / 16) &&& m
theorem cj_and8 (a y b m : Nat) (ha : a < 256) (hb : b < 256) : (a + 256 * y) &&& (b + 256 * m) = (a &&& b) + 256 * (y &&& m) := by
  have h1 := Nat.and_mod_two_pow (a := a + 256 * y) (b := b + 256 * m) (n := 8)
  have h2 := Nat.and_div_two_pow (a := a + 256 * y) (b := b + 256 * m) (n := 8)
  rw [show (2:Nat) ^ 8 = 256 from rfl] at h1 h2
  rw [show (a + 256 * y) % 256 = a by omega, show (b + 256 * m) % 256 = b by omega] at h1
  rw [show (a + 256 * y) / 256 = y by omega, show (b + 256 * m) / 256 = m by omega] at h2
  have h3 := Nat.div_add_mod ((a + 256 * y) &&& (b + 256 * m)) 256
  omega
theorem cj_b1 : ∀ a, a < 256 → (a / 2 + 128) &&& 0x55 = (a / 2) &&& 0x55 := by decide +kernel
theorem cj_b2 : ∀ a, a < 256 → ∀ r, r < 4 → (a / 4 + 64 * r) &&& 0x33 = (a / 4) &&& 0x33 := by decide +kernel
theorem cj_s1c (a y m : Nat) (ha : a < 256) : cj_s1 (a + 256 * y) (0x55 + 256 * m) = cj_s1 a 0x55 + 256 * cj_s1 y m := by
  unfold cj_s1
  have e : (a + 256 * y) / 2 = (a / 2 + 128 * (y % 2)) + 256 * (y / 2) := by omega
  have hu : a / 2 + 128 * (y % 2) < 256 := by omega
  rw [e, cj_and8 _ _ _ _ hu (by decide)]
  have h1 : (a / 2 + 128 * (y % 2)) &&& 0x55 = (a / 2) &&& 0x55 := by
    rcases (show y % 2 = 0 ∨ y % 2 = 1 by omega) with h | h
    · rw [h]; rfl
    · rw [h]; exact cj_b1 a ha
  rw [h1]
  have l1 : (a / 2) &&& 0x55 ≤ a / 2 := Nat.and_le_left
  have l2 : (y / 2) &&& m ≤ y / 2 := Nat.and_le_left
  omega
theorem cj_s2c (a y m : Nat) (ha : a < 256) : cj_s2 (a + 256 * y) (0x33 + 256 * m) = cj_s2 a 0x33 + 256 * cj_s2 y m := by
  unfold cj_s2
  have e : (a + 256 * y) / 4 = (a / 4 + 64 * (y % 4)) + 256 * (y / 4) := by omega
  have hu : a / 4 + 64 * (y % 4) < 256 := by omega
  rw [e, cj_and8 _ _ _ _ hu (by decide), cj_and8 _ _ _ _ ha (by decide), cj_b2 a ha (y % 4) (by omega)]
  omega
theorem cj_and15 (x : Nat) : x &&& 15 = x % 16 := Nat.and_two_pow_sub_one_eq_mod x 4
theorem cj_s3c (a y m : Nat) (ha : a ≤ 68) (hy : y % 16 ≤ 4) : cj_s3 (a + 256 * y) (0x0f + 256 * m) = cj_s3 a 0x0f + 256 * cj_s3 y m := by
  unfold cj_s3
  have e : a + 256 * y + (a + 256 * y) / 16 = (a + a / 16 + 16 * (y % 16)) + 256 * (y + y / 16) := by omega
  rw [e, cj_and8 _ _ _ _ (by omega) (by decide), cj_and15, cj_and15]
  omega
/-- the count of a byte, by the three steps -/
def cj_p8 (a : Nat) : Nat := cj_s3 (cj_s2 (cj_s1 a 0x55) 0x33) 0x0f
theorem cj_p8_ok : ∀ a, a < 256 → cj_p8 a = cj_cnt a.testBit 8 := by decide +kernel
theorem cj_b12 : ∀ a, a < 256 → cj_s1 a 0x55 < 256 ∧ cj_s2 (cj_s1 a 0x55) 0x33 ≤ 68 ∧ cj_s2 (cj_s1 a 0x55) 0x33 % 16 ≤ 4 := by decide +kernel
def cj_all (n m5 m3 m0 : Nat) : Nat := cj_s3 (cj_s2 (cj_s1 n m5) m3) m0
theorem cj_low (y m5 m3 : Nat) (ya m5a m3a : Nat) (y' : Nat) (hy : y = ya + 256 * y') (ha : ya < 256) (h5 : m5 = 0x55 + 256 * m5a) (h3 : m3 = 0x33 + 256 * m3a) : cj_s2 (cj_s1 y m5) m3 % 16 ≤ 4 := by
  subst hy
  subst h5
  subst h3
  rw [cj_s1c _ _ _ ha, cj_s2c _ _ _ (cj_b12 ya ha).1]
  have := (cj_b12 ya ha).2.2
  omega
theorem cj_allc (a y m5 m3 m0 : Nat) (ha : a < 256) (hy : cj_s2 (cj_s1 y m5) m3 % 16 ≤ 4) : cj_all (a + 256 * y) (0x55 + 256 * m5) (0x33 + 256 * m3) (0x0f + 256 * m0) = cj_p8 a + 256 * cj_all y m5 m3 m0 := by
  unfold cj_all cj_p8
  rw [cj_s1c _ _ _ ha, cj_s2c _ _ _ (cj_b12 a ha).1, cj_s3c _ _ _ (cj_b12 a ha).2.1 hy]
theorem cj_all0 (a : Nat) : cj_all a 0x55 0x33 0x0f = cj_p8 a := rfl
theorem cj_tb8 (a y : Nat) (ha : a < 256) (k : Nat) : cj_cnt (a + 256 * y).testBit (8 + k) = cj_p8 a + cj_cnt y.testBit k := by
  rw [cj_cnt_add, cj_p8_ok a ha]
  have h1 : ∀ i, i < 8 → (a + 256 * y).testBit i = a.testBit i := by
    intro i hi
    have := Nat.testBit_two_pow_mul_add y (i := 8) (b := a) ha i
    rw [if_pos hi] at this
    rw [Nat.add_comm]
    exact this
  have h2 : ∀ i, i < k → (a + 256 * y).testBit (8 + i) = y.testBit i := by
    intro i _
    have := Nat.testBit_two_pow_mul_add y (i := 8) (b := a) ha (8 + i)
    rw [if_neg (by omega), show 8 + i - 8 = i by omega] at this
    rw [Nat.add_comm a]
    exact this
  rw [cj_cnt_congr h1, cj_cnt_congr (g := y.testBit) h2]
/-- the sum of bytes of at most 8 each -/
def cj_fold (v : Nat) : Nat := let t1 := v + v / 256; let t2 := t1 + t1 / 65536; (t2 + t2 / 4294967296) % 128
theorem cj_dv1 (a b : Nat) (h : a < 65536) : (a + 65536 * b) / 65536 = b := by omega
theorem cj_dv2 (a b : Nat) (h : a < 4294967296) : (a + 4294967296 * b) / 4294967296 = b := by omega
theorem cj_dv0 (a b : Nat) (h : a < 256) : (a + 256 * b) / 256 = b := by omega
theorem cj_md (a z : Nat) (h : a < 128) : (a + 256 * z) % 128 = a := by omega
theorem cj_fold_ok (p0 p1 p2 p3 p4 p5 p6 p7 : Nat) (h0 : p0 ≤ 8) (h1 : p1 ≤ 8) (h2 : p2 ≤ 8) (h3 : p3 ≤ 8) (h4 : p4 ≤ 8) (h5 : p5 ≤ 8) (h6 : p6 ≤ 8) (h7 : p7 ≤ 8) :
    cj_fold (p0 + 256 * (p1 + 256 * (p2 + 256 * (p3 + 256 * (p4 + 256 * (p5 + 256 * (p6 + 256 * p7))))))) = p0 + p1 + p2 + p3 + p4 + p5 + p6 + p7 := by
  unfold cj_fold
  dsimp only
  generalize e5 : p6 + 256 * p7 = q5
  generalize e4 : p5 + 256 * q5 = q4
  generalize e3 : p4 + 256 * q4 = q3
  generalize e2 : p3 + 256 * q3 = q2
  generalize e1 : p2 + 256 * q2 = q1
  generalize e0 : p1 + 256 * q1 = q0
  rw [cj_dv0 p0 q0 (by omega)]
  have t1 : p0 + 256 * q0 + q0 = (p0 + p1 + 256 * (p1 + p2)) + 65536 * (q1 + q2) := by
    rw [← e0, ← e1]
    omega
  rw [t1, cj_dv1 _ _ (by omega)]
  have s34 : q3 + q4 = (p4 + p5 + 256 * (p5 + p6)) + 65536 * (q5 + p7) := by
    rw [← e3, ← e4, ← e5]
    omega
  have s12 : q1 + q2 = (p2 + p3 + 256 * (p3 + p4)) + 65536 * (q3 + q4) := by
    rw [← e1, ← e2, ← e3]
    omega
  have t2 : (p0 + p1 + 256 * (p1 + p2)) + 65536 * (q1 + q2) + (q1 + q2) = (p0 + p1 + p2 + p3 + 256 * (p1 + p2 + p3 + p4) + 65536 * (p2 + p3 + p4 + p5 + 256 * (p3 + p4 + p5 + p6))) + 4294967296 * (q3 + q4 + (q5 + p7)) := by
    generalize q1 + q2 = a at s12 ⊢
    generalize q3 + q4 = b at s12 s34 ⊢
    generalize q5 + p7 = d at s34 ⊢
    omega
  rw [t2, cj_dv2 _ _ (by omega)]
  have t3 : (p0 + p1 + p2 + p3 + 256 * (p1 + p2 + p3 + p4) + 65536 * (p2 + p3 + p4 + p5 + 256 * (p3 + p4 + p5 + p6))) + 4294967296 * (q3 + q4 + (q5 + p7)) + (q3 + q4 + (q5 + p7)) = (p0 + p1 + p2 + p3 + p4 + p5 + p6 + p7) + 256 * ((p1 + p2 + p3 + p4) + 256 * (p2 + p3 + p4 + p5 + 256 * (p3 + p4 + p5 + p6)) + 16777216 * (q3 + q4 + (q5 + p7)) + (p5 + p6) + 256 * (q5 + p7) + p7) := by
    rw [s34, ← e5]
    omega
  rw [t3, cj_md _ _ (by omega)]
theorem cj_p8_le (a : Nat) (ha : a < 256) : cj_p8 a ≤ 8 := by rw [cj_p8_ok a ha]; exact cj_cnt_le _ _
/-- the machine's count of a number below 2^64 is the number of its bits -/
theorem cj_swar (n : Nat) (h : n < 2 ^ 64) : cj_fold (cj_all n 0x5555555555555555 0x3333333333333333 0x0f0f0f0f0f0f0f0f) = cj_cnt n.testBit 64 ∧ cj_all n 0x5555555555555555 0x3333333333333333 0x0f0f0f0f0f0f0f0f < 2 ^ 60 := by
  obtain ⟨a0, y0, e0, h0, i0⟩ : ∃ a y, n = a + 256 * y ∧ a < 256 ∧ y < 2 ^ 56 := ⟨n % 256, n / 256, by omega, by omega, by omega⟩
  obtain ⟨a1, y1, e1, h1, i1⟩ : ∃ a y, y0 = a + 256 * y ∧ a < 256 ∧ y < 2 ^ 48 := ⟨y0 % 256, y0 / 256, by omega, by omega, by omega⟩
  obtain ⟨a2, y2, e2, h2, i2⟩ : ∃ a y, y1 = a + 256 * y ∧ a < 256 ∧ y < 2 ^ 40 := ⟨y1 % 256, y1 / 256, by omega, by omega, by omega⟩
  obtain ⟨a3, y3, e3, h3, i3⟩ : ∃ a y, y2 = a + 256 * y ∧ a < 256 ∧ y < 2 ^ 32 := ⟨y2 % 256, y2 / 256, by omega, by omega, by omega⟩
  obtain ⟨a4, y4, e4, h4, i4⟩ : ∃ a y, y3 = a + 256 * y ∧ a < 256 ∧ y < 2 ^ 24 := ⟨y3 % 256, y3 / 256, by omega, by omega, by omega⟩
  obtain ⟨a5, y5, e5, h5, i5⟩ : ∃ a y, y4 = a + 256 * y ∧ a < 256 ∧ y < 2 ^ 16 := ⟨y4 % 256, y4 / 256, by omega, by omega, by omega⟩
  obtain ⟨a6, y6, e6, h6, i6⟩ : ∃ a y, y5 = a + 256 * y ∧ a < 256 ∧ y < 256 := ⟨y5 % 256, y5 / 256, by omega, by omega, by omega⟩
  have z6 : cj_all y5 (0x55 + 256 * 0x55) (0x33 + 256 * 0x33) (0x0f + 256 * 0x0f) = cj_p8 a6 + 256 * cj_p8 y6 := by
    rw [e6, cj_allc _ _ _ _ _ h6 (by have := (cj_b12 y6 i6).2.2; omega)]
    rfl
  have z5 : cj_all y4 (0x55 + 256 * 0x5555) (0x33 + 256 * 0x3333) (0x0f + 256 * 0x0f0f) = cj_p8 a5 + 256 * cj_all y5 0x5555 0x3333 0x0f0f := by
    rw [e5, cj_allc _ _ _ _ _ h5 (cj_low _ _ _ a6 0x55 0x33 y6 e6 h6 rfl rfl)]
  have z4 : cj_all y3 (0x55 + 256 * 0x555555) (0x33 + 256 * 0x333333) (0x0f + 256 * 0x0f0f0f) = cj_p8 a4 + 256 * cj_all y4 0x555555 0x333333 0x0f0f0f := by
    rw [e4, cj_allc _ _ _ _ _ h4 (cj_low _ _ _ a5 0x5555 0x3333 y5 e5 h5 rfl rfl)]
  have z3 : cj_all y2 (0x55 + 256 * 0x55555555) (0x33 + 256 * 0x33333333) (0x0f + 256 * 0x0f0f0f0f) = cj_p8 a3 + 256 * cj_all y3 0x55555555 0x33333333 0x0f0f0f0f := by
    rw [e3, cj_allc _ _ _ _ _ h3 (cj_low _ _ _ a4 0x555555 0x333333 y4 e4 h4 rfl rfl)]
  have z2 : cj_all y1 (0x55 + 256 * 0x5555555555) (0x33 + 256 * 0x3333333333) (0x0f + 256 * 0x0f0f0f0f0f) = cj_p8 a2 + 256 * cj_all y2 0x5555555555 0x3333333333 0x0f0f0f0f0f := by
    rw [e2, cj_allc _ _ _ _ _ h2 (cj_low _ _ _ a3 0x55555555 0x33333333 y3 e3 h3 rfl rfl)]
  have z1 : cj_all y0 (0x55 + 256 * 0x555555555555) (0x33 + 256 * 0x333333333333) (0x0f + 256 * 0x0f0f0f0f0f0f) = cj_p8 a1 + 256 * cj_all y1 0x555555555555 0x333333333333 0x0f0f0f0f0f0f := by
    rw [e1, cj_allc _ _ _ _ _ h1 (cj_low _ _ _ a2 0x5555555555 0x3333333333 y2 e2 h2 rfl rfl)]
  have z0 : cj_all n (0x55 + 256 * 0x55555555555555) (0x33 + 256 * 0x33333333333333) (0x0f + 256 * 0x0f0f0f0f0f0f0f) = cj_p8 a0 + 256 * cj_all y0 0x55555555555555 0x33333333333333 0x0f0f0f0f0f0f0f := by
    rw [e0, cj_allc _ _ _ _ _ h0 (cj_low _ _ _ a1 0x555555555555 0x333333333333 y1 e1 h1 rfl rfl)]
  have z : cj_all n 0x5555555555555555 0x3333333333333333 0x0f0f0f0f0f0f0f0f = cj_p8 a0 + 256 * (cj_p8 a1 + 256 * (cj_p8 a2 + 256 * (cj_p8 a3 + 256 * (cj_p8 a4 + 256 * (cj_p8 a5 + 256 * (cj_p8 a6 + 256 * cj_p8 y6)))))) :=
    z0.trans (by rw [show cj_all y0 0x55555555555555 0x33333333333333 0x0f0f0f0f0f0f0f = _ from z1, show cj_all y1 0x555555555555 0x333333333333 0x0f0f0f0f0f0f = _ from z2, show cj_all y2 0x5555555555 0x3333333333 0x0f0f0f0f0f = _ from z3, show cj_all y3 0x55555555 0x33333333 0x0f0f0f0f = _ from z4, show cj_all y4 0x555555 0x333333 0x0f0f0f = _ from z5, show cj_all y5 0x5555 0x3333 0x0f0f = _ from z6])
  have l0 := cj_p8_le a0 h0
  have l1 := cj_p8_le a1 h1
  have l2 := cj_p8_le a2 h2
  have l3 := cj_p8_le a3 h3
  have l4 := cj_p8_le a4 h4
  have l5 := cj_p8_le a5 h5
  have l6 := cj_p8_le a6 h6
  have l7 := cj_p8_le y6 i6
  refine ⟨?_, by rw [z]; omega⟩
  rw [z, cj_fold_ok _ _ _ _ _ _ _ _ l0 l1 l2 l3 l4 l5 l6 l7]
  have c : cj_cnt n.testBit 64 = cj_p8 a0 + (cj_p8 a1 + (cj_p8 a2 + (cj_p8 a3 + (cj_p8 a4 + (cj_p8 a5 + (cj_p8 a6 + cj_p8 y6)))))) := by
    have q6 : cj_cnt y6.testBit 8 = cj_p8 y6 := (cj_p8_ok y6 i6).symm
    rw [e0, show (64 : Nat) = 8 + 56 from rfl, cj_tb8 _ _ h0, e1, show (56 : Nat) = 8 + 48 from rfl, cj_tb8 _ _ h1, e2, show (48 : Nat) = 8 + 40 from rfl, cj_tb8 _ _ h2, e3, show (40 : Nat) = 8 + 32 from rfl, cj_tb8 _ _ h3, e4, show (32 : Nat) = 8 + 24 from rfl, cj_tb8 _ _ h4, e5, show (24 : Nat) = 8 + 16 from rfl, cj_tb8 _ _ h5, e6, show (16 : Nat) = 8 + 8 from rfl, cj_tb8 _ _ h6, q6]
  rw [c]
  omega
