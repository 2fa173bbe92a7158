/-! bits at the level of Ints -/
theorem nI_ofInt (n : Nat) : nI n = Int32.ofInt (n : Int) := by
  apply Int32.toBitVec_inj.1
  show BitVec.ofNat 32 n = BitVec.ofInt 32 (n : Int)
  exact (BitVec.ofInt_natCast 32 n).symm
theorem nI_and (a b : Nat) : nI a &&& nI b = nI (a &&& b) := by
  apply Int32.toBitVec_inj.1
  show BitVec.ofNat 32 a &&& BitVec.ofNat 32 b = BitVec.ofNat 32 (a &&& b)
  apply BitVec.eq_of_getLsbD_eq
  intro i hi
  simp [hi]
theorem nI_or (a b : Nat) : nI a ||| nI b = nI (a ||| b) := by
  apply Int32.toBitVec_inj.1
  show BitVec.ofNat 32 a ||| BitVec.ofNat 32 b = BitVec.ofNat 32 (a ||| b)
  apply BitVec.eq_of_getLsbD_eq
  intro i hi
  simp [hi]
theorem nI_xor (a b : Nat) : nI a ^^^ nI b = nI (a ^^^ b) := by
  apply Int32.toBitVec_inj.1
  show BitVec.ofNat 32 a ^^^ BitVec.ofNat 32 b = BitVec.ofNat 32 (a ^^^ b)
  apply BitVec.eq_of_getLsbD_eq
  intro i hi
  simp [hi]
theorem nI_toN {z : Int} (h : 0 ≤ z) : Int32.ofInt z = nI z.toNat := by
  rw [nI_ofInt, Int.toNat_of_nonneg h]
theorem b_and {a b : Int} (ha : 0 ≤ a) (hb : 0 ≤ b) : Int32.ofInt a &&& Int32.ofInt b = Int32.ofInt ((a.toNat &&& b.toNat : Nat) : Int) := by
  rw [nI_toN ha, nI_toN hb, nI_and, nI_ofInt]
theorem b_or {a b : Int} (ha : 0 ≤ a) (hb : 0 ≤ b) : Int32.ofInt a ||| Int32.ofInt b = Int32.ofInt ((a.toNat ||| b.toNat : Nat) : Int) := by
  rw [nI_toN ha, nI_toN hb, nI_or, nI_ofInt]
theorem b_xor {a b : Int} (ha : 0 ≤ a) (hb : 0 ≤ b) : Int32.ofInt a ^^^ Int32.ofInt b = Int32.ofInt ((a.toNat ^^^ b.toNat : Nat) : Int) := by
  rw [nI_toN ha, nI_toN hb, nI_xor, nI_ofInt]
theorem b_cnt : ∀ n, n < 32 → ((nI n &&& 31).toBitVec.smod 32).toNat = n := by decide +kernel
theorem b_shl {a s : Int} (ha : 0 ≤ a) (hs : 0 ≤ s ∧ s < 32) (h : a * 2 ^ s.toNat < 4294967296) : Int32.ofInt a <<< (Int32.ofInt s &&& 31) = Int32.ofInt (a * 2 ^ s.toNat) := by
  obtain ⟨x, rfl⟩ := Int.eq_ofNat_of_zero_le ha
  obtain ⟨y, rfl⟩ := Int.eq_ofNat_of_zero_le hs.1
  rw [← nI_ofInt, ← nI_ofInt]
  have h2 : x * 2 ^ y < 2 ^ 32 := by
    have h3 : ((x * 2 ^ y : Nat) : Int) < 4294967296 := by
      rw [Int.natCast_mul, Int.natCast_pow]
      exact h
    omega
  rw [pk_shlN (nI y &&& 31) y (b_cnt y (by omega)) h2, nI_ofInt, Int.natCast_mul, Int.natCast_pow]
  rfl
theorem b_shr {a s : Int} (ha : -2147483648 ≤ a ∧ a ≤ 2147483647) (hs : 0 ≤ s ∧ s < 32) : Int32.ofInt a >>> (Int32.ofInt s &&& 31) = Int32.ofInt (a / 2 ^ s.toNat) := by
  obtain ⟨y, rfl⟩ := Int.eq_ofNat_of_zero_le hs.1
  rw [← nI_ofInt y, Int.toNat_natCast]
  apply Int32.toInt_inj.mp
  have h2 : -2147483648 ≤ a / 2 ^ y ∧ a / 2 ^ y ≤ 2147483647 := by
    have hp : (0 : Int) < 2 ^ y := Int.pow_pos (by omega)
    constructor
    · rw [Int.le_ediv_iff_mul_le hp]
      have : (1 : Int) ≤ 2 ^ y := hp
      have h5 : (-2147483648 : Int) * 2 ^ y ≤ -2147483648 * 1 := Int.mul_le_mul_of_nonpos_left (by omega) this
      omega
    · apply Int.le_of_lt_add_one
      apply Int.ediv_lt_of_lt_mul hp
      have : (1 : Int) ≤ 2 ^ y := hp
      have h5 : (2147483648 : Int) * 1 ≤ 2147483648 * 2 ^ y := Int.mul_le_mul_of_nonneg_left this (by omega)
      omega
  rw [pk_shr _ _ y (b_cnt y (by omega)), i32_rng ha, i32_rng h2, Int.shiftRight_eq_div_pow]
  rfl
theorem b_i2b {a : Int} (ha : -2147483648 ≤ a ∧ a ≤ 2147483647) : (Int32.ofInt a).toInt8.toInt32 = Int32.ofInt (a.bmod 256) := by
  apply Int32.toInt_inj.mp
  have h1 : -128 ≤ a.bmod 256 ∧ a.bmod 256 ≤ 127 := by
    have := Int.le_bmod (x := a) (m := 256) (by decide)
    have h2 := Int.bmod_lt (x := a) (m := 256) (by decide)
    omega
  rw [i32_rng (by omega), Int8.toInt_toInt32, Int32.toInt_toInt8, i32_rng ha]
theorem bmod_rng (a : Int) : -128 ≤ a.bmod 256 ∧ a.bmod 256 ≤ 127 := by
  have := Int.le_bmod (x := a) (m := 256) (by decide)
  have h2 := Int.bmod_lt (x := a) (m := 256) (by decide)
  omega
theorem bmod_id {a : Int} (h : -128 ≤ a ∧ a ≤ 127) : a.bmod 256 = a := by
  rw [Int.bmod_def]
  have e1 : ((256 : Nat) : Int) = 256 := by decide
  rw [e1]
  split <;> omega
theorem and_lt {a b n : Nat} (h : a < 2 ^ n) : a &&& b < 2 ^ n := Nat.lt_of_le_of_lt Nat.and_le_left h
theorem pow_le_lt {s n : Nat} (h : s ≤ n) : (2 : Int) ^ s ≤ 2 ^ n := by
  have : (2 : Nat) ^ s ≤ 2 ^ n := Nat.pow_le_pow_right (by decide) h
  have h2 : ((2 ^ s : Nat) : Int) ≤ ((2 ^ n : Nat) : Int) := by omega
  rw [Int.natCast_pow, Int.natCast_pow] at h2
  exact h2
