/-! what a survey of the first k rows tells -/
def cdK (c : Cfg) (k : Int) : Bool := cdI c (rwX c k)
def rdK (c : Cfg) (k : Int) : Int := rdI c (rwX c k)
def suK (c : Cfg) (k : Int) : Int := suI c (rwX c k)
def SeenOK (c : Cfg) (z : Int) (p : Int → Bool) (k : Int) : Prop := (0 ≤ z ∧ z < 268435456) ∧ ∀ b : Nat, z.toNat.testBit b = true ↔ ∃ j, (0 ≤ j ∧ j < k) ∧ p j = true ∧ (spN (rwX c j) (kL c).toNat).testBit b = true
def SvI (c : Cfg) (M : Mem) (k : Int) : Prop :=
  (((∀ j, 0 ≤ j → j < k → cdK c j = false) ∧ M 21 1 = -1) ∨ ∃ b, FM (cdK c) (rdK c) k b ∧ M 21 1 = rdK c b ∧ M 21 2 = vl 4 (rwX c b) (kL c)) ∧
  (((∀ j, 0 ≤ j → j < k → cdK c j = false) ∧ M 21 3 = -1) ∨ ∃ b, FM (cdK c) (suK c) k b ∧ M 21 3 = suK c b ∧ M 21 4 = vl 4 (rwX c b) (kL c) ∧ M 21 5 = cnI (fun j => cdK c j && decide (suK c j = suK c b)) k) ∧
  (∀ r, 0 ≤ r → r ≤ 63 → M 22 r = cnI (fun j => cdK c j && decide (rdK c j = r)) k) ∧
  (∀ r, 0 ≤ r → r ≤ 63 → SeenOK c (M 23 r) (fun j => cdK c j && decide (rdK c j = r)) k)
theorem rwX_rng {c : Cfg} (hW : WfK c) (k i : Int) : 0 ≤ rwX c k i ∧ rwX c k i ≤ 3 := by
  have h := hW.1
  have := dg_rng (N := kN c) (n := kL c) (k := k) (i := i) (by omega)
  unfold rwX
  omega
theorem foldW_rng {f p : Int → Int} : ∀ n : Nat, (∀ w : Int, 0 ≤ w → w < (n : Int) → 0 ≤ f w ∧ f w ≤ 63) → (0 ≤ mxW f p n ∧ mxW f p n ≤ 63) ∧ (0 ≤ smW f p n ∧ smW f p n ≤ 63 * n)
  | 0, _ => by simp [mxW, smW]
  | n + 1, h => by
    have ih := foldW_rng (f := f) (p := p) n (fun w q1 q2 => h w q1 (by omega))
    have a := h n (by omega) (by omega)
    rw [mxW, smW, mx]
    split
    · constructor
      · split <;> omega
      · omega
    · omega
theorem rdK_rng {c : Cfg} (hW : WfK c) (k : Int) : (0 ≤ rdK c k ∧ rdK c k ≤ 63) ∧ (0 ≤ suK c k ∧ suK c k ≤ 504) := by
  have hw := hW.2.2.2.2.2.1
  have h := foldW_rng (f := Dw c (rwX c k)) (p := kP c) (kW c).toNat (fun w q1 q2 => Dw_rng hW ⟨q1, by omega⟩ (fun i _ _ => rwX_rng hW k i))
  unfold rdK suK rdI suI
  omega
theorem SvI_0 {c : Cfg} {M : Mem} (h1 : M 21 1 = -1) (h3 : M 21 3 = -1) (h4 : ∀ r, 0 ≤ r → r ≤ 63 → M 22 r = 0 ∧ M 23 r = 0) : SvI c M 0 := by
  refine ⟨Or.inl ⟨fun j q1 q2 => by omega, h1⟩, Or.inl ⟨fun j q1 q2 => by omega, h3⟩, fun r q1 q2 => by rw [(h4 r q1 q2).1]; rfl, fun r q1 q2 => ?_⟩
  rw [(h4 r q1 q2).2]
  refine ⟨by decide, fun b => ?_⟩
  simp
  intro j z1 z2
  omega
theorem SvI_no {c : Cfg} {M : Mem} {k : Int} (h : SvI c M k) (h0 : 0 ≤ k) (hn : cdK c k = false) : SvI c M (k + 1) := by
  obtain ⟨a1, a2, a3, a4⟩ := h
  refine ⟨?_, ?_, fun r q1 q2 => ?_, fun r q1 q2 => ?_⟩
  · rcases a1 with ⟨b1, b2⟩ | ⟨b, b1, b2, b3⟩
    · refine Or.inl ⟨fun j q1 q2 => ?_, b2⟩
      by_cases e : j = k
      · rw [e]; exact hn
      · exact b1 j q1 (by omega)
    · exact Or.inr ⟨b, FM_keep b1 (Or.inl hn), b2, b3⟩
  · rcases a2 with ⟨b1, b2⟩ | ⟨b, b1, b2, b3, b4⟩
    · refine Or.inl ⟨fun j q1 q2 => ?_, b2⟩
      by_cases e : j = k
      · rw [e]; exact hn
      · exact b1 j q1 (by omega)
    · refine Or.inr ⟨b, FM_keep b1 (Or.inl hn), b2, b3, ?_⟩
      rw [cnI_s h0, b4]
      simp [hn]
  · rw [cnI_s h0, a3 r q1 q2]
    simp [hn]
  · have b := a4 r q1 q2
    refine ⟨b.1, fun t => ?_⟩
    rw [b.2 t]
    constructor
    · rintro ⟨j, z1, z2, z3⟩
      exact ⟨j, by omega, z2, z3⟩
    · rintro ⟨j, z1, z2, z3⟩
      by_cases e : j = k
      · rw [e] at z2; simp [hn] at z2
      · exact ⟨j, by omega, z2, z3⟩
theorem SvI_yes {c : Cfg} {M M' : Mem} {k : Int} (hW : WfK c) (h : SvI c M k) (h0 : 0 ≤ k) (hy : cdK c k = true) (h1 : ∀ j, M' 22 j = if j = rdK c k then M 22 (rdK c k) + 1 else M 22 j) (h2 : ∀ j, M' 23 j = if j = rdK c k then (((M 23 (rdK c k)).toNat ||| (spI (rwX c k) (kL c)).toNat : Nat) : Int) else M 23 j)
    (h3 : M' 21 1 = if M 21 1 = -1 ∨ rdK c k < M 21 1 then rdK c k else M 21 1) (h4 : M' 21 2 = if M 21 1 = -1 ∨ rdK c k < M 21 1 then vl 4 (rwX c k) (kL c) else M 21 2)
    (h5 : M' 21 3 = if M 21 3 = -1 ∨ suK c k < M 21 3 then suK c k else M 21 3) (h6 : M' 21 4 = if M 21 3 = -1 ∨ suK c k < M 21 3 then vl 4 (rwX c k) (kL c) else M 21 4) (h7 : M' 21 5 = if M 21 3 = -1 ∨ suK c k < M 21 3 then 1 else if suK c k = M 21 3 then M 21 5 + 1 else M 21 5) : SvI c M' (k + 1) := by
  obtain ⟨a1, a2, a3, a4⟩ := h
  have hr := rdK_rng hW k
  refine ⟨?_, ?_, fun r q1 q2 => ?_, fun r q1 q2 => ?_⟩
  · right
    rcases a1 with ⟨b1, b2⟩ | ⟨b, b1, b2, b3⟩
    · exact ⟨k, FM_first b1 hy h0, by rw [h3, if_pos (Or.inl b2)], by rw [h4, if_pos (Or.inl b2)]⟩
    · have hb := rdK_rng hW b
      by_cases e : rdK c k < rdK c b
      · exact ⟨k, FM_new b1 hy e h0, by rw [h3, if_pos (Or.inr (by rw [b2]; exact e))], by rw [h4, if_pos (Or.inr (by rw [b2]; exact e))]⟩
      · exact ⟨b, FM_keep b1 (Or.inr (by omega)), by rw [h3, if_neg (by omega), b2], by rw [h4, if_neg (by omega), b3]⟩
  · right
    rcases a2 with ⟨b1, b2⟩ | ⟨b, b1, b2, b3, b4⟩
    · refine ⟨k, FM_first b1 hy h0, by rw [h5, if_pos (Or.inl b2)], by rw [h6, if_pos (Or.inl b2)], ?_⟩
      rw [h7, if_pos (Or.inl b2), cnI_s h0, cnI_zero k h0 (fun j q1 q2 => by simp [b1 j q1 q2])]
      simp [hy]
    · have hb := rdK_rng hW b
      by_cases e : suK c k < suK c b
      · refine ⟨k, FM_new b1 hy e h0, by rw [h5, if_pos (Or.inr (by rw [b2]; exact e))], by rw [h6, if_pos (Or.inr (by rw [b2]; exact e))], ?_⟩
        rw [h7, if_pos (Or.inr (by rw [b2]; exact e)), cnI_s h0, cnI_zero k h0 (fun j q1 q2 => ?_)]
        · simp [hy]
        · by_cases g : cdK c j = true
          · have := b1.2.2.2 j q1 q2 g
            simp only [Bool.and_eq_false_iff, decide_eq_false_iff_not]
            right
            omega
          · simp [g]
      · refine ⟨b, FM_keep b1 (Or.inr (by omega)), by rw [h5, if_neg (by omega), b2], by rw [h6, if_neg (by omega), b3], ?_⟩
        rw [h7, if_neg (by omega), cnI_s h0, ← b4, b2]
        by_cases g : suK c k = suK c b
        · rw [if_pos g, if_pos (by simp [hy, g])]
        · rw [if_neg g, if_neg (by simp [hy, g])]; omega
  · rw [h1, cnI_s h0]
    by_cases e : r = rdK c k
    · rw [if_pos e, if_pos (by simp [hy, e]), ← e, a3 r q1 q2]
    · rw [if_neg e, if_neg (by simp [hy]; omega), a3 r q1 q2]; omega
  · rw [h2]
    by_cases e : r = rdK c k
    · rw [if_pos e, ← e]
      have b := a4 r q1 q2
      have b9 : 0 ≤ M 23 r ∧ M 23 r < 268435456 := b.1
      have hl := hW.2.2.2.2.2.2.1
      have hs := spI_rng (x := rwX c k) (p := kL c) hl (fun i _ _ => rwX_rng hW k i)
      refine ⟨⟨by omega, ?_⟩, fun t => ?_⟩
      · have : (M 23 r).toNat ||| (spI (rwX c k) (kL c)).toNat < 2 ^ 28 := Nat.or_lt_two_pow (by omega) (by omega)
        omega
      · rw [Int.toNat_natCast, Nat.testBit_or, Bool.or_eq_true, b.2 t]
        constructor
        · rintro (⟨j, z1, z2, z3⟩ | z)
          · exact ⟨j, by omega, z2, z3⟩
          · refine ⟨k, by omega, by simp [hy, e], ?_⟩
            unfold spI at z
            rw [Int.toNat_natCast] at z
            exact z
        · rintro ⟨j, z1, z2, z3⟩
          by_cases g : j = k
          · right
            unfold spI
            rw [Int.toNat_natCast, ← g]
            exact z3
          · exact Or.inl ⟨j, by omega, z2, z3⟩
    · rw [if_neg e]
      have b := a4 r q1 q2
      refine ⟨b.1, fun t => ?_⟩
      rw [b.2 t]
      constructor
      · rintro ⟨j, z1, z2, z3⟩
        exact ⟨j, by omega, z2, z3⟩
      · rintro ⟨j, z1, z2, z3⟩
        by_cases g : j = k
        · rw [g] at z2
          simp only [Bool.and_eq_true, decide_eq_true_eq] at z2
          omega
        · exact ⟨j, by omega, z2, z3⟩
/-- the whole survey -/
def SvOK (c : Cfg) (M : Mem) : Prop :=
  (((∀ j, 0 ≤ j → j < nK c → cdK c j = false) ∧ M 21 1 = -1) ∨ ∃ b, FM (cdK c) (rdK c) (nK c) b ∧ M 21 1 = rdK c b ∧ M 21 2 = vl 4 (rwX c b) (kL c)) ∧
  (((∀ j, 0 ≤ j → j < nK c → cdK c j = false) ∧ M 21 3 = -1) ∨ ∃ b, FM (cdK c) (suK c) (nK c) b ∧ M 21 3 = suK c b ∧ M 21 4 = vl 4 (rwX c b) (kL c) ∧ M 21 5 = cnI (fun j => cdK c j && decide (suK c j = suK c b)) (nK c)) ∧
  (∀ r, 0 ≤ r → r ≤ 63 → M 22 r = cnI (fun j => cdK c j && decide (rdK c j ≤ r)) (nK c)) ∧
  (∀ r, 0 ≤ r → r ≤ 63 → SeenOK c (M 23 r) (fun j => cdK c j && decide (rdK c j ≤ r)) (nK c))
theorem SvOK_c {c : Cfg} {M M' : Mem} (h1 : M' 21 = M 21) (h2 : M' 22 = M 22) (h3 : M' 23 = M 23) (h : SvOK c M) : SvOK c M' := by
  unfold SvOK at h ⊢
  rw [h1, h2, h3]
  exact h
