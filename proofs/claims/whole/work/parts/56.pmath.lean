/-! what the answers are, and that each is one alone -/
def nrB (c : Cfg) : Int := bsI (kP c) 1 (kW c)
def PB (c : Cfg) (f g : Int → Int) (r : Int) : Prop := (nrB c = 0 ∧ r = -1) ∨ (nrB c ≠ 0 ∧ (∀ j, 0 ≤ j → j < nK c → cdK c j = false) ∧ r = -1) ∨ (nrB c ≠ 0 ∧ ∃ b, FM (cdK c) f (nK c) b ∧ r = g b)
theorem PB_one {c : Cfg} {f g : Int → Int} {r s : Int} (h : PB c f g r) (h2 : PB c f g s) : r = s := by
  rcases h with ⟨a, b⟩ | ⟨a, a2, b⟩ | ⟨a, b, hb, e⟩
  · rcases h2 with ⟨d, z⟩ | ⟨d, -, z⟩ | ⟨d, -⟩
    · omega
    · exact absurd a d
    · exact absurd a d
  · rcases h2 with ⟨d, z⟩ | ⟨d, -, z⟩ | ⟨d, b2, hb2, z⟩
    · exact absurd d a
    · omega
    · have h9 := a2 b2 hb2.1 hb2.2.1
      rw [hb2.2.2.1] at h9
      cases h9
  · rcases h2 with ⟨d, z⟩ | ⟨d, d2, z⟩ | ⟨d, b2, hb2, z⟩
    · exact absurd d a
    · have h9 := d2 b hb.1 hb.2.1
      rw [hb.2.2.1] at h9
      cases h9
    · rw [e, z, FM_one hb hb2]
def SvR (c : Cfg) (M : Mem) : Prop := (nrB c = 0 ∧ M 21 1 = -1 ∧ M 21 3 = -1) ∨ (nrB c ≠ 0 ∧ SvOK c M)
theorem SvR_c {c : Cfg} {M M' : Mem} (h1 : M' 21 = M 21) (h2 : M' 22 = M 22) (h3 : M' 23 = M 23) (h : SvR c M) : SvR c M' := by
  rcases h with ⟨a, b, d⟩ | ⟨a, b⟩
  · exact Or.inl ⟨a, by rw [h1]; exact b, by rw [h1]; exact d⟩
  · exact Or.inr ⟨a, SvOK_c h1 h2 h3 b⟩
theorem vl4_rng {c : Cfg} (hW : WfK c) (b : Int) : 0 ≤ vl 4 (rwX c b) (kL c) ∧ vl 4 (rwX c b) (kL c) ≤ 16383 := by
  have hl := hW.2.2.2.2.2.2.1
  have h1 := pk4_lt (x := rwX c b) (n := kL c) (fun i _ _ => rwX_rng hW b i) (kL c) hl.1 (Int.le_refl _)
  have h5 : (4 : Nat) ^ (kL c).toNat ≤ 4 ^ 7 := Nat.pow_le_pow_right (by decide) (by omega)
  have h6 : ((4 ^ (kL c).toNat : Nat) : Int) ≤ ((4 ^ 7 : Nat) : Int) := by omega
  rw [Int.natCast_pow] at h6
  have h3 : ((4 ^ 7 : Nat) : Int) = 16384 := by decide
  have h4 : ((4 : Nat) : Int) = 4 := rfl
  rw [h4] at h6
  omega
theorem dg4_row {c : Cfg} (hW : WfK c) {b i : Int} (hi : 0 ≤ i ∧ i < kL c) : dg 4 (kL c) (vl 4 (rwX c b) (kL c)) i = rwX c b i := by
  have hl := hW.2.2.2.2.2.2.1
  exact (vl_dg (N := 4) (x := rwX c b) (by decide) (kL c) hl.1 (fun j _ _ => by have := rwX_rng hW b j; omega) i hi.1 hi.2).symm
theorem SvR_cen {c : Cfg} {M : Mem} (h : SvR c M) : PB c (rdK c) (rdK c) (M 21 1) := by
  rcases h with ⟨a, b, d⟩ | ⟨a, b⟩
  · exact Or.inl ⟨a, b⟩
  · rcases b.1 with ⟨q, z⟩ | ⟨k, q, z, -⟩
    · exact Or.inr (Or.inl ⟨a, q, z⟩)
    · exact Or.inr (Or.inr ⟨a, k, q, z⟩)
theorem SvR_med {c : Cfg} {M : Mem} (h : SvR c M) : PB c (suK c) (suK c) (M 21 3) := by
  rcases h with ⟨a, b, d⟩ | ⟨a, b⟩
  · exact Or.inl ⟨a, d⟩
  · rcases b.2.1 with ⟨q, z⟩ | ⟨k, q, z, -⟩
    · exact Or.inr (Or.inl ⟨a, q, z⟩)
    · exact Or.inr (Or.inr ⟨a, k, q, z⟩)
theorem SvR_rng {c : Cfg} {M : Mem} (hW : WfK c) (h : SvR c M) : (-1 ≤ M 21 1 ∧ M 21 1 ≤ 63) ∧ (-1 ≤ M 21 3 ∧ M 21 3 ≤ 504) ∧ (M 21 1 ≠ -1 → 0 ≤ M 21 2 ∧ M 21 2 ≤ 16383) ∧ (M 21 3 ≠ -1 → 0 ≤ M 21 4 ∧ M 21 4 ≤ 16383) := by
  rcases h with ⟨a, b, d⟩ | ⟨a, b⟩
  · omega
  · obtain ⟨x1, x2, -, -⟩ := b
    have y1 : (-1 ≤ M 21 1 ∧ M 21 1 ≤ 63) ∧ (M 21 1 ≠ -1 → 0 ≤ M 21 2 ∧ M 21 2 ≤ 16383) := by
      rcases x1 with ⟨-, z⟩ | ⟨k, -, z, z2⟩
      · omega
      · have := rdK_rng hW k
        have := vl4_rng hW k
        omega
    have y2 : (-1 ≤ M 21 3 ∧ M 21 3 ≤ 504) ∧ (M 21 3 ≠ -1 → 0 ≤ M 21 4 ∧ M 21 4 ≤ 16383) := by
      rcases x2 with ⟨-, z⟩ | ⟨k, -, z, z2, -⟩
      · omega
      · have := rdK_rng hW k
        have := vl4_rng hW k
        omega
    exact ⟨y1.1, y2.1, y1.2, y2.2⟩
theorem SvR_ca {c : Cfg} {M : Mem} {i : Int} (hW : WfK c) (h : SvR c M) : PB c (rdK c) (fun b => if 0 ≤ i ∧ i < kL c then rwX c b i else -1) (if M 21 1 = -1 then -1 else if 0 ≤ i ∧ i < kL c then dg 4 (kL c) (M 21 2) i else -1) := by
  rcases h with ⟨a, b, d⟩ | ⟨a, b⟩
  · exact Or.inl ⟨a, by rw [if_pos b]⟩
  · rcases b.1 with ⟨q, z⟩ | ⟨k, q, z, z2⟩
    · exact Or.inr (Or.inl ⟨a, q, by rw [if_pos z]⟩)
    · refine Or.inr (Or.inr ⟨a, k, q, ?_⟩)
      have := rdK_rng hW k
      rw [if_neg (by omega), z2]
      by_cases e : 0 ≤ i ∧ i < kL c
      · rw [if_pos e, dg4_row hW e]
        simp only [e, and_self, if_true]
      · rw [if_neg e]
        simp only [e, if_false]
theorem SvR_ma {c : Cfg} {M : Mem} {i : Int} (hW : WfK c) (h : SvR c M) : PB c (suK c) (fun b => if 0 ≤ i ∧ i < kL c then rwX c b i else -1) (if M 21 3 = -1 then -1 else if 0 ≤ i ∧ i < kL c then dg 4 (kL c) (M 21 4) i else -1) := by
  rcases h with ⟨a, b, d⟩ | ⟨a, b⟩
  · exact Or.inl ⟨a, by rw [if_pos d]⟩
  · rcases b.2.1 with ⟨q, z⟩ | ⟨k, q, z, z2, -⟩
    · exact Or.inr (Or.inl ⟨a, q, by rw [if_pos z]⟩)
    · refine Or.inr (Or.inr ⟨a, k, q, ?_⟩)
      have := rdK_rng hW k
      rw [if_neg (by omega), z2]
      by_cases e : 0 ≤ i ∧ i < kL c
      · rw [if_pos e, dg4_row hW e]
        simp only [e, and_self, if_true]
      · rw [if_neg e]
        simp only [e, if_false]
theorem SvR_ms {c : Cfg} {M : Mem} (hW : WfK c) (h : SvR c M) : PB c (suK c) (fun b => cnI (fun j => cdK c j && decide (suK c j = suK c b)) (nK c)) (if M 21 3 = -1 then -1 else M 21 5) := by
  rcases h with ⟨a, b, d⟩ | ⟨a, b⟩
  · exact Or.inl ⟨a, by rw [if_pos d]⟩
  · rcases b.2.1 with ⟨q, z⟩ | ⟨k, q, z, -, z2⟩
    · exact Or.inr (Or.inl ⟨a, q, by rw [if_pos z]⟩)
    · refine Or.inr (Or.inr ⟨a, k, q, ?_⟩)
      have := rdK_rng hW k
      rw [if_neg (by omega), z2]
/-- within, lettersAt -/
def PW1 (c : Cfg) (rr r : Int) : Prop := ((0 ≤ rr ∧ rr ≤ 63) ∧ nrB c ≠ 0 ∧ r = cnI (fun j => cdK c j && decide (rdK c j ≤ rr)) (nK c)) ∨ (¬ ((0 ≤ rr ∧ rr ≤ 63) ∧ nrB c ≠ 0) ∧ r = -1)
theorem PW1_one {c : Cfg} {rr r s : Int} (h : PW1 c rr r) (h2 : PW1 c rr s) : r = s := by
  rcases h with ⟨a, b, e⟩ | ⟨a, e⟩ <;> rcases h2 with ⟨d, g, z⟩ | ⟨d, z⟩
  · rw [e, z]
  · exact absurd ⟨a, b⟩ d
  · exact absurd ⟨d, g⟩ a
  · rw [e, z]
def LtB (c : Cfg) (rr i r : Int) : Prop := (0 ≤ r ∧ r < 16) ∧ ∀ b : Nat, b < 4 → (r.toNat.testBit b = true ↔ ∃ j, (0 ≤ j ∧ j < nK c) ∧ (cdK c j && decide (rdK c j ≤ rr)) = true ∧ rwX c j i = (b : Int))
theorem LtB_one {c : Cfg} {rr i r s : Int} (h : LtB c rr i r) (h2 : LtB c rr i s) : r = s := by
  have a := h.1
  have b := h2.1
  have e : r.toNat = s.toNat := by
    apply Nat.eq_of_testBit_eq
    intro t
    by_cases ht : t < 4
    · rw [Bool.eq_iff_iff, h.2 t ht, h2.2 t ht]
    · have p4 : 2 ^ 4 ≤ 2 ^ t := Nat.pow_le_pow_right (by decide) (by omega)
      rw [Nat.testBit_lt_two_pow (show r.toNat < 2 ^ t by omega), Nat.testBit_lt_two_pow (show s.toNat < 2 ^ t by omega)]
  omega
def PLt (c : Cfg) (rr i r : Int) : Prop := (((0 ≤ rr ∧ rr ≤ 63) ∧ nrB c ≠ 0 ∧ (0 ≤ i ∧ i < kL c)) ∧ LtB c rr i r) ∨ (¬ ((0 ≤ rr ∧ rr ≤ 63) ∧ nrB c ≠ 0 ∧ (0 ≤ i ∧ i < kL c)) ∧ r = -1)
theorem PLt_one {c : Cfg} {rr i r s : Int} (h : PLt c rr i r) (h2 : PLt c rr i s) : r = s := by
  rcases h with ⟨a, e⟩ | ⟨a, e⟩ <;> rcases h2 with ⟨d, z⟩ | ⟨d, z⟩
  · exact LtB_one e z
  · exact absurd a d
  · exact absurd d a
  · rw [e, z]
theorem spot_lt {c : Cfg} {z rr i : Int} (hW : WfK c) (hi : 0 ≤ i ∧ i < kL c) (h : SeenOK c z (fun j => cdK c j && decide (rdK c j ≤ rr)) (nK c)) : LtB c rr i (z / 2 ^ (4 * i).toNat % 16) := by
  obtain ⟨h1, h2⟩ := h
  have hl := hW.2.2.2.2.2.2.1
  refine ⟨⟨Int.emod_nonneg _ (by decide), Int.emod_lt_of_pos _ (by decide)⟩, fun b hb => ?_⟩
  have e : (z / 2 ^ (4 * i).toNat % 16).toNat = z.toNat / 2 ^ (4 * i).toNat % 2 ^ 4 := by
    obtain ⟨x, rfl⟩ := Int.eq_ofNat_of_zero_le h1.1
    have e1 : ((x : Int) / 2 ^ (4 * i).toNat % 16) = ((x / 2 ^ (4 * i).toNat % 2 ^ 4 : Nat) : Int) := by
      rw [Int.natCast_emod, Int.natCast_ediv, Int.natCast_pow]
      rfl
    rw [e1, Int.toNat_natCast, Int.toNat_natCast]
  rw [e, Nat.testBit_mod_two_pow, Nat.testBit_div_two_pow]
  simp only [hb, decide_true, Bool.true_and]
  rw [h2]
  constructor
  · rintro ⟨j, a, d, g⟩
    refine ⟨j, a, d, ?_⟩
    obtain ⟨i2, q1, q2⟩ := spN_bit _ _ |>.mp g
    have r1 := rwX_rng hW j (i2 : Int)
    have e3 : i = (i2 : Int) := by omega
    rw [e3]
    omega
  · rintro ⟨j, a, d, g⟩
    refine ⟨j, a, d, spN_bit _ _ |>.mpr ⟨i.toNat, by omega, ?_⟩⟩
    rw [Int.toNat_of_nonneg hi.1, g]
    omega
