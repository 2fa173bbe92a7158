/-! sets of words as bits -/
def sub2 (a b : Int) : Prop := ∀ i : Nat, a.toNat.testBit i = true → b.toNat.testBit i = true
theorem sub2_rf (a : Int) : sub2 a a := fun _ h => h
theorem sub2_tr {a b c : Int} (h : sub2 a b) (h2 : sub2 b c) : sub2 a c := fun i q => h2 i (h i q)
/-- a with bit w -/
def orb (a w : Int) : Int := ((a.toNat ||| (1 * 2 ^ w.toNat : Int).toNat : Nat) : Int)
theorem p2_nat {w : Int} : ((1 * 2 ^ w.toNat : Int)).toNat = 2 ^ w.toNat := by
  rw [Int.one_mul, show ((2 : Int) ^ w.toNat) = ((2 ^ w.toNat : Nat) : Int) by rw [Int.natCast_pow]; rfl]
  rfl
theorem orb_bit {a w : Int} {i : Nat} : (orb a w).toNat.testBit i = true ↔ a.toNat.testBit i = true ∨ i = w.toNat := by
  unfold orb
  rw [p2_nat, Int.toNat_natCast, Nat.testBit_or, Bool.or_eq_true, Nat.testBit_two_pow, decide_eq_true_eq]
  constructor
  · rintro (h | h)
    · exact Or.inl h
    · exact Or.inr h.symm
  · rintro (h | h)
    · exact Or.inl h
    · exact Or.inr h.symm
theorem orb_rng {a w : Int} (ha : 0 ≤ a ∧ a < 256) (hw : 0 ≤ w ∧ w < 8) : 0 ≤ orb a w ∧ orb a w < 256 := by
  unfold orb
  rw [p2_nat]
  have h1 : 2 ^ w.toNat < 2 ^ 8 := Nat.pow_lt_pow_right (by decide) (by omega)
  have h2 : a.toNat ||| 2 ^ w.toNat < 2 ^ 8 := Nat.or_lt_two_pow (by omega) h1
  omega
theorem and_p2 {a w : Int} (ha : 0 ≤ a) (hw : 0 ≤ w) : (((a.toNat &&& (1 * 2 ^ w.toNat : Int).toNat : Nat) : Int) = 0) ↔ a.toNat.testBit w.toNat = false := by
  rw [p2_nat]
  constructor
  · intro h
    have h2 : a.toNat &&& 2 ^ w.toNat = 0 := by omega
    have h3 : (a.toNat &&& 2 ^ w.toNat).testBit w.toNat = false := by rw [h2]; simp
    rw [Nat.testBit_and, Nat.testBit_two_pow_self, Bool.and_true] at h3
    exact h3
  · intro h
    have h2 : a.toNat &&& 2 ^ w.toNat = 0 := by
      apply Nat.eq_of_testBit_eq
      intro i
      rw [Nat.testBit_and, Nat.testBit_two_pow, Nat.zero_testBit]
      by_cases e : w.toNat = i
      · rw [← e, h]; rfl
      · simp [e]
    omega
theorem bit_lt8 {a : Int} {i : Nat} (ha : 0 ≤ a ∧ a < 256) (h : a.toNat.testBit i = true) : i < 8 := by
  rcases Nat.lt_or_ge i 8 with q | q
  · exact q
  · have h1 : 2 ^ 8 ≤ 2 ^ i := Nat.pow_le_pow_right (by decide) q
    rw [Nat.testBit_lt_two_pow (show a.toNat < 2 ^ i by omega)] at h
    cases h
/-- each place holds the least of those above it -/
def Low (w : Int) (K K' : Int → Int) : Prop := (∀ S, 0 ≤ S → S < 256 → ∃ T, (0 ≤ T ∧ T < 256) ∧ sub2 S T ∧ K' S = K T) ∧ (∀ S T, 0 ≤ S → S < 256 → 0 ≤ T → T < 256 → sub2 S T → (∀ i : Nat, T.toNat.testBit i = true → S.toNat.testBit i = false → (i : Int) < w) → K' S ≤ K T)
theorem eq_of_bits {a b : Int} (ha : 0 ≤ a) (hb : 0 ≤ b) (h : ∀ i : Nat, a.toNat.testBit i = b.toNat.testBit i) : a = b := by
  have := Nat.eq_of_testBit_eq h
  omega
theorem Low_0 {K : Int → Int} : Low 0 K K := by
  refine ⟨fun S q1 q2 => ⟨S, ⟨q1, q2⟩, sub2_rf S, rfl⟩, fun S T q1 q2 q3 q4 hs hd => ?_⟩
  have e : S = T := eq_of_bits q1 q3 (fun i => by
    cases h1 : S.toNat.testBit i with
    | true => rw [hs i h1]
    | false =>
      cases h2 : T.toNat.testBit i with
      | false => rfl
      | true => have := hd i h2 h1; omega)
  rw [e]
  exact Int.le_refl _
theorem Low_s {w : Int} {K K1 K2 : Int → Int} (hw : 0 ≤ w ∧ w < 8) (h : Low w K K1) (h2 : ∀ S, 0 ≤ S → S < 256 → K2 S = if S.toNat.testBit w.toNat = false ∧ K1 (orb S w) < K1 S then K1 (orb S w) else K1 S) : Low (w + 1) K K2 := by
  refine ⟨fun S q1 q2 => ?_, fun S T q1 q2 q3 q4 hs hd => ?_⟩
  · rw [h2 S q1 q2]
    split
    · have ho := orb_rng ⟨q1, q2⟩ hw
      obtain ⟨T, t1, t2, t3⟩ := h.1 (orb S w) ho.1 ho.2
      exact ⟨T, t1, sub2_tr (fun i hi => orb_bit.mpr (Or.inl hi)) t2, t3⟩
    · exact h.1 S q1 q2
  · have hle : K2 S ≤ K1 S := by
      rw [h2 S q1 q2]
      split
      · rename_i g; omega
      · exact Int.le_refl _
    by_cases e : T.toNat.testBit w.toNat = true ∧ S.toNat.testBit w.toNat = false
    · have ho := orb_rng ⟨q1, q2⟩ hw
      have h5 : K2 S ≤ K1 (orb S w) := by
        rw [h2 S q1 q2]
        split
        · exact Int.le_refl _
        · rename_i g
          have : ¬ K1 (orb S w) < K1 S := fun z => g ⟨e.2, z⟩
          omega
      have h6 := h.2 (orb S w) T ho.1 ho.2 q3 q4 (fun i hi => by
        rcases orb_bit.mp hi with z | z
        · exact hs i z
        · rw [z]; exact e.1) (fun i z1 z2 => by
        have z3 : S.toNat.testBit i = false := by
          cases hq : S.toNat.testBit i with
          | false => rfl
          | true => rw [orb_bit.mpr (Or.inl hq)] at z2; cases z2
        have z4 := hd i z1 z3
        have z5 : i ≠ w.toNat := fun z => by rw [orb_bit.mpr (Or.inr z)] at z2; cases z2
        omega)
      omega
    · have h6 := h.2 S T q1 q2 q3 q4 hs (fun i z1 z2 => by
        have z4 := hd i z1 z2
        have z5 : i ≠ w.toNat := fun z => e (by rw [← z]; exact ⟨z1, z2⟩)
        omega)
      omega
