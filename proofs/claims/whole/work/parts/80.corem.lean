/-! held sets, core and cover -/
def Hd (c : Cfg) (r S : Int) : Prop := ∃ k, (0 ≤ k ∧ k < nK c) ∧ cdK c k = true ∧ ∀ b : Nat, S.toNat.testBit b = true → ((b : Int) < kW c ∧ kP c (b : Int) = 1) ∧ Dw c (rwX c k) (b : Int) ≤ r
theorem Ky_Hd {c : Cfg} {K : Int → Int} {r S : Int} (hW : WfK c) (h : KyOK c K) (hr : 0 ≤ r ∧ r ≤ 63) (hS : 0 ≤ S ∧ S < 256) : K S / 16384 ≤ r ↔ Hd c r S := by
  have hw := hW.2.2.2.2.2.1
  constructor
  · intro q
    rcases h.1 S hS.1 hS.2 with a | ⟨k, a, b, s, d, e, g⟩
    · omega
    · have hv := vl4_rng hW k
      have hv2 : pkK c k = vl 4 (rwX c k) (kL c) := rfl
      refine ⟨k, a, b, fun i hi => ⟨(g i hi).1, ?_⟩⟩
      have := (g i hi).2
      omega
  · rintro ⟨k, a, b, g⟩
    have hv := vl4_rng hW k
    have hv2 : pkK c k = vl 4 (rwX c k) (kL c) := rfl
    have := h.2 k a.1 a.2 b S hS.1 hS.2 (fun i hi => (nrB_bit hw.1).mpr (g i hi).1) r hr.1 (fun i hi => (g i hi).2)
    omega
def CoI (c : Cfg) (r x z i : Int) : Prop := (x = 0 ∧ z = 9 ∧ ∀ S, 1 ≤ S → S < i → sub2 S (nrB c) → Hd c r S) ∨ ((1 ≤ x ∧ x < i) ∧ z = bc8 x ∧ sub2 x (nrB c) ∧ ¬ Hd c r x ∧ ∀ S, 1 ≤ S → S < i → sub2 S (nrB c) → ¬ Hd c r S → bc8 x < bc8 S ∨ (bc8 x = bc8 S ∧ x ≤ S))
def CoS (c : Cfg) (r x : Int) : Prop := (x = 0 ∧ ∀ S, 1 ≤ S → S < 256 → sub2 S (nrB c) → Hd c r S) ∨ ((1 ≤ x ∧ x < 256) ∧ sub2 x (nrB c) ∧ ¬ Hd c r x ∧ ∀ S, 1 ≤ S → S < 256 → sub2 S (nrB c) → ¬ Hd c r S → bc8 x < bc8 S ∨ (bc8 x = bc8 S ∧ x ≤ S))
theorem bc8_rng (s : Int) : 0 ≤ bc8 s ∧ bc8 s ≤ 8 := by
  have := pcN_le s.toNat 8
  unfold bc8
  omega
theorem CoI_0 {c : Cfg} {r : Int} : CoI c r 0 9 1 := Or.inl ⟨rfl, rfl, fun S q1 q2 => by omega⟩
theorem CoI_rng {c : Cfg} {r x z i : Int} (h : CoI c r x z i) (hi : 1 ≤ i) : (0 ≤ x ∧ x < i) ∧ (0 ≤ z ∧ z ≤ 9) := by
  have h9 := bc8_rng x
  rcases h with ⟨a, b, -⟩ | ⟨a, b, -⟩ <;> omega
theorem CoI_skip {c : Cfg} {r x z i : Int} (h : CoI c r x z i) (hi : 1 ≤ i) (hs : sub2 i (nrB c) → ¬ Hd c r i → z ≤ bc8 i) : CoI c r x z (i + 1) := by
  rcases h with ⟨a, b, d⟩ | ⟨a, b, d, e, g⟩
  · refine Or.inl ⟨a, b, fun S q1 q2 q3 => ?_⟩
    by_cases z1 : S = i
    · subst z1
      refine Classical.byContradiction fun q => ?_
      have := hs q3 q
      have := bc8_rng S
      omega
    · exact d S q1 (by omega) q3
  · refine Or.inr ⟨by omega, b, d, e, fun S q1 q2 q3 q4 => ?_⟩
    by_cases z1 : S = i
    · subst z1
      have := hs q3 q4
      omega
    · exact g S q1 (by omega) q3 q4
theorem CoI_new {c : Cfg} {r x z i : Int} (h : CoI c r x z i) (hi : 1 ≤ i) (h1 : sub2 i (nrB c)) (h2 : ¬ Hd c r i) (h3 : bc8 i < z) : CoI c r i (bc8 i) (i + 1) := by
  refine Or.inr ⟨by omega, rfl, h1, h2, fun S q1 q2 q3 q4 => ?_⟩
  by_cases z1 : S = i
  · subst z1
    exact Or.inr ⟨rfl, Int.le_refl _⟩
  · rcases h with ⟨a, b, d⟩ | ⟨a, b, d, e, g⟩
    · exact absurd (d S q1 (by omega) q3) q4
    · have := g S q1 (by omega) q3 q4
      omega
theorem CoI_end {c : Cfg} {r x z : Int} (h : CoI c r x z 256) : CoS c r x := by
  rcases h with ⟨a, b, d⟩ | ⟨a, b, d⟩
  · exact Or.inl ⟨a, d⟩
  · exact Or.inr ⟨a, d⟩
theorem CoS_one {c : Cfg} {r x y : Int} (h : CoS c r x) (h2 : CoS c r y) : x = y := by
  rcases h with ⟨a, b⟩ | ⟨a, b, d, e⟩ <;> rcases h2 with ⟨a2, b2⟩ | ⟨a2, b2, d2, e2⟩
  · omega
  · exact absurd (b y a2.1 a2.2 b2) d2
  · exact absurd (b2 x a.1 a.2 b) d
  · have h5 := e y a2.1 a2.2 b2 d2
    have h6 := e2 x a.1 a.2 b d
    omega
theorem CoS_rng {c : Cfg} {r x : Int} (h : CoS c r x) : 0 ≤ x ∧ x < 256 := by
  rcases h with ⟨a, -⟩ | ⟨a, -⟩ <;> omega
/-- n + 1 held sets that make up S -/
def HCv (c : Cfg) (r : Int) (n : Nat) (S : Int) : Prop := ∃ f : Nat → Int, (∀ i, i ≤ n → (0 ≤ f i ∧ f i < 256) ∧ Hd c r (f i)) ∧ ∀ b : Nat, S.toNat.testBit b = true → ∃ i, i ≤ n ∧ (f i).toNat.testBit b = true
theorem Cov_H {c : Cfg} {K : Int → Int} {r S : Int} {n : Nat} (hW : WfK c) (h : KyOK c K) (hr : 0 ≤ r ∧ r ≤ 63) : Cov K r n S ↔ HCv c r n S := by
  constructor
  · rintro ⟨f, f1, f2⟩
    exact ⟨f, fun i hi => ⟨(f1 i hi).1, (Ky_Hd hW h hr (f1 i hi).1).mp (f1 i hi).2⟩, f2⟩
  · rintro ⟨f, f1, f2⟩
    exact ⟨f, fun i hi => ⟨(f1 i hi).1, (Ky_Hd hW h hr (f1 i hi).1).mpr (f1 i hi).2⟩, f2⟩
def CvS (c : Cfg) (r x : Int) : Prop := ((1 ≤ x ∧ x < 9) ∧ HCv c r (x - 1).toNat (nrB c) ∧ ∀ y, 1 ≤ y → y < x → ¬ HCv c r (y - 1).toNat (nrB c)) ∨ (x = -2 ∧ ∀ y : Int, 1 ≤ y → y < 9 → ¬ HCv c r (y - 1).toNat (nrB c))
theorem CvS_one {c : Cfg} {r x y : Int} (h : CvS c r x) (h2 : CvS c r y) : x = y := by
  rcases h with ⟨a, b, d⟩ | ⟨a, b⟩ <;> rcases h2 with ⟨a2, b2, d2⟩ | ⟨a2, b2⟩
  · rcases Int.lt_trichotomy x y with q | q | q
    · exact absurd b (d2 x a.1 q)
    · exact q
    · exact absurd b2 (d y a2.1 q)
  · exact absurd b (b2 x a.1 a.2)
  · exact absurd b2 (b y a2.1 a2.2)
  · omega
def CtS (c : Cfg) (k x : Int) : Prop := ((0 ≤ x ∧ x ≤ 63) ∧ HCv c x (k - 1).toNat (nrB c) ∧ ∀ y, 0 ≤ y → y < x → ¬ HCv c y (k - 1).toNat (nrB c)) ∨ (x = -1 ∧ ∀ y : Int, 0 ≤ y → y ≤ 63 → ¬ HCv c y (k - 1).toNat (nrB c))
theorem CtS_one {c : Cfg} {k x y : Int} (h : CtS c k x) (h2 : CtS c k y) : x = y := by
  rcases h with ⟨a, b, d⟩ | ⟨a, b⟩ <;> rcases h2 with ⟨a2, b2, d2⟩ | ⟨a2, b2⟩
  · rcases Int.lt_trichotomy x y with q | q | q
    · exact absurd b (d2 x a.1 q)
    · exact q
    · exact absurd b2 (d y a2.1 q)
  · exact absurd b (b2 x a.1 a.2)
  · exact absurd b2 (b y a2.1 a2.2)
  · omega
def FwS (V : Int → Int) (r x : Int) : Prop := ((1 ≤ x ∧ x < 9) ∧ V x ≤ r ∧ ∀ y, 1 ≤ y → y < x → ¬ V y ≤ r) ∨ (x = -2 ∧ ∀ y : Int, 1 ≤ y → y < 9 → ¬ V y ≤ r)
theorem St_cv {c : Cfg} {M : Mem} {r x : Int} (hW : WfK c) (hr : 0 ≤ r ∧ r ≤ 63) (hn : nrB c ≠ 0) (h : StR c M) (h2 : FwS (M 25) r x) : CvS c r x := by
  obtain ⟨k1, k2, -⟩ := h.2.2.2 hn
  have key : ∀ y, 1 ≤ y → y < 9 → (M 25 y ≤ r ↔ HCv c r (y - 1).toNat (nrB c)) := fun y q1 q2 => (k2 y q1 q2 r).trans (Cov_H hW k1 hr)
  rcases h2 with ⟨a, b, d⟩ | ⟨a, b⟩
  · exact Or.inl ⟨a, (key x a.1 a.2).mp b, fun y q1 q2 q3 => d y q1 q2 ((key y q1 (by omega)).mpr q3)⟩
  · exact Or.inr ⟨a, fun y q1 q2 q3 => b y q1 q2 ((key y q1 q2).mpr q3)⟩
theorem St_ct {c : Cfg} {M : Mem} {k : Int} (hW : WfK c) (hk : 1 ≤ k ∧ k < 9) (hn : nrB c ≠ 0) (h : StR c M) : CtS c k (if M 25 k ≤ 63 then M 25 k else -1) := by
  obtain ⟨k1, k2, k3⟩ := h.2.2.2 hn
  have hv := k3 k hk.1 hk.2
  have key : ∀ y, 0 ≤ y → y ≤ 63 → (M 25 k ≤ y ↔ HCv c y (k - 1).toNat (nrB c)) := fun y q1 q2 => (k2 k hk.1 hk.2 y).trans (Cov_H hW k1 ⟨q1, q2⟩)
  split
  · rename_i e
    exact Or.inl ⟨⟨hv.1, e⟩, (key _ hv.1 e).mp (Int.le_refl _), fun y q1 q2 q3 => by have := (key y q1 (by omega)).mpr q3; omega⟩
  · rename_i e
    exact Or.inr ⟨rfl, fun y q1 q2 q3 => by have := (key y q1 q2).mpr q3; omega⟩
