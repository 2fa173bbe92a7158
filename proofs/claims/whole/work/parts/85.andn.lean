/-! i without N -/
def andn (i N : Int) : Int := ((i.toNat ^^^ (i.toNat &&& N.toNat) : Nat) : Int)
theorem andn_all : ∀ i : Nat, i < 256 → ∀ N : Nat, N < 256 → nI i &&& Int32.ofInt (-(N : Int) - 1) = nI (i ^^^ (i &&& N)) := by decide +kernel
theorem noti_all : ∀ N : Nat, N < 256 → nI N ^^^ Int32.ofInt (-1) = Int32.ofInt (-(N : Int) - 1) := by decide +kernel
theorem b_noti {N : Int} (h : 0 ≤ N ∧ N < 256) : Int32.ofInt N ^^^ Int32.ofInt (-1) = Int32.ofInt (-N - 1) := by
  obtain ⟨n, rfl⟩ := Int.eq_ofNat_of_zero_le h.1
  exact noti_all n (by omega)
theorem b_andn {i N : Int} (hi : 0 ≤ i ∧ i < 256) (h : 0 ≤ N ∧ N < 256) : Int32.ofInt i &&& Int32.ofInt (-N - 1) = Int32.ofInt (andn i N) := by
  obtain ⟨n, rfl⟩ := Int.eq_ofNat_of_zero_le h.1
  obtain ⟨m, rfl⟩ := Int.eq_ofNat_of_zero_le hi.1
  exact andn_all m (by omega) n (by omega)
theorem andn_bit {i N : Int} (b : Nat) : (andn i N).toNat.testBit b = true ↔ i.toNat.testBit b = true ∧ N.toNat.testBit b = false := by
  unfold andn
  rw [Int.toNat_natCast, Nat.testBit_xor, Nat.testBit_and]
  cases i.toNat.testBit b <;> cases N.toNat.testBit b <;> decide
theorem andn_rng {i N : Int} (hi : 0 ≤ i ∧ i < 256) : 0 ≤ andn i N ∧ andn i N < 256 := by
  have h1 : i.toNat ^^^ (i.toNat &&& N.toNat) < 2 ^ 8 := Nat.xor_lt_two_pow (by omega) (by have : i.toNat &&& N.toNat ≤ i.toNat := Nat.and_le_left; omega)
  unfold andn
  omega
theorem andn_0 {i N : Int} (hi : 0 ≤ i ∧ i < 256) : andn i N = 0 ↔ sub2 i N := by
  constructor
  · intro h b hb
    cases e : N.toNat.testBit b with
    | true => rfl
    | false =>
      have := (andn_bit (i := i) (N := N) b).mpr ⟨hb, e⟩
      rw [h, show (0 : Int).toNat = 0 from rfl, Nat.zero_testBit] at this
      cases this
  · intro h
    refine eq_of_bits (andn_rng hi).1 (by decide) (fun b => ?_)
    rw [show (0 : Int).toNat = 0 from rfl, Nat.zero_testBit]
    cases e : (andn i N).toNat.testBit b with
    | false => rfl
    | true =>
      have h2 := (andn_bit b).mp e
      rw [h b h2.1] at h2
      cases h2.2
