/-! an order of the targets, sorted by insertion -/
def PermO (O : Int → Int) (n : Int) : Prop := (∀ i, 0 ≤ i → i < n → 0 ≤ O i ∧ O i < n) ∧ (∀ t, 0 ≤ t → t < n → ∃ j, 0 ≤ j ∧ j < n ∧ O j = t)
def SrtO (D O : Int → Int) (i : Int) : Prop := ∀ x y, 0 ≤ x → x ≤ y → y < i → D (O x) ≤ D (O y)
theorem ins_perm {O O' : Int → Int} {n i j : Int} (hO : PermO O n) (hi : 0 ≤ i ∧ i < n) (hj : -1 ≤ j ∧ j < i) (h : ∀ x, O' x = if x = j + 1 then O i else if j + 1 < x ∧ x ≤ i then O (x - 1) else O x) : PermO O' n := by
  refine ⟨fun x q1 q2 => ?_, fun t q1 q2 => ?_⟩
  · rw [h x]
    split
    · exact hO.1 i hi.1 hi.2
    · split
      · exact hO.1 (x - 1) (by omega) (by omega)
      · exact hO.1 x q1 q2
  · obtain ⟨m, m1, m2, m3⟩ := hO.2 t q1 q2
    by_cases e : m = i
    · exact ⟨j + 1, by omega, by omega, by rw [h, if_pos rfl, ← e]; exact m3⟩
    · by_cases g : j < m ∧ m < i
      · exact ⟨m + 1, by omega, by omega, by rw [h, if_neg (by omega), if_pos (by omega), show m + 1 - 1 = m by omega]; exact m3⟩
      · exact ⟨m, m1, m2, by rw [h, if_neg (by omega), if_neg (by omega)]; exact m3⟩
theorem ins_sort {D O O' : Int → Int} {i j : Int} (hi : 0 ≤ i) (hj : -1 ≤ j ∧ j < i) (hs : SrtO D O i) (hb : ∀ x, j < x → x < i → D (O i) < D (O x)) (hl : 0 ≤ j → D (O j) ≤ D (O i)) (h : ∀ x, O' x = if x = j + 1 then O i else if j + 1 < x ∧ x ≤ i then O (x - 1) else O x) : SrtO D O' (i + 1) := by
  intro x y q1 q2 q3
  rw [h x, h y]
  by_cases e1 : x = j + 1
  · rw [if_pos e1]
    by_cases e2 : y = j + 1
    · rw [if_pos e2]; exact Int.le_refl _
    · rw [if_neg e2, if_pos (by omega)]
      have := hb (y - 1) (by omega) (by omega)
      omega
  · rw [if_neg e1]
    by_cases e2 : y = j + 1
    · rw [if_pos e2, if_neg (by omega)]
      have h1 := hl (by omega)
      have h2 := hs x j q1 (by omega) (by omega)
      omega
    · rw [if_neg e2]
      by_cases e3 : j + 1 < x ∧ x ≤ i
      · rw [if_pos e3, if_pos (by omega)]
        exact hs (x - 1) (y - 1) (by omega) (by omega) (by omega)
      · rw [if_neg e3]
        by_cases e4 : j + 1 < y ∧ y ≤ i
        · rw [if_pos e4]
          exact hs x (y - 1) q1 (by omega) (by omega)
        · rw [if_neg e4]
          exact hs x y q1 q2 (by omega)
/-- the sets of the nearest targets are offered: what one row leaves in the keys -/
def Snd (K K' : Int → Int) (wd D : Int → Int) (n pk : Int) : Prop := ∀ S, 0 ≤ S → S < 256 → K' S = K S ∨ ∃ r, (0 ≤ r ∧ r ≤ 63) ∧ K' S = r * 16384 + pk ∧ ∀ b : Nat, S.toNat.testBit b = true → ∃ t, (0 ≤ t ∧ t < n) ∧ wd t = (b : Int) ∧ D t ≤ r
def Dec (K K' : Int → Int) : Prop := ∀ S, 0 ≤ S → S < 256 → K' S ≤ K S
def Cmp (K' : Int → Int) (wd D : Int → Int) (n pk A : Int) : Prop := ∀ S, 0 ≤ S → S < 256 → sub2 S A → ∀ r, 0 ≤ r → (∀ t, 0 ≤ t → t < n → S.toNat.testBit (wd t).toNat = true → D t ≤ r) → ∃ T, (0 ≤ T ∧ T < 256) ∧ sub2 S T ∧ K' T ≤ r * 16384 + pk
def Bts (wd O : Int → Int) (i A : Int) : Prop := ∀ b : Nat, A.toNat.testBit b = true ↔ ∃ j, (0 ≤ j ∧ j < i) ∧ wd (O j) = (b : Int)
theorem hold_0 {K K' wd D O : Int → Int} {n pk : Int} (hpk : 0 ≤ pk) (h : ∀ j, K' j = if j = 0 ∧ pk < K 0 then pk else K j) : Snd K K' wd D n pk ∧ Dec K K' ∧ Cmp K' wd D n pk 0 ∧ Bts wd O 0 0 := by
  refine ⟨fun S q1 q2 => ?_, fun S q1 q2 => ?_, fun S q1 q2 hs r hr _ => ?_, fun b => ?_⟩
  · rw [h S]
    split
    · rename_i e
      refine Or.inr ⟨0, by decide, by omega, fun b hb => ?_⟩
      rw [e.1] at hb
      simp at hb
    · exact Or.inl rfl
  · rw [h S]
    split
    · rename_i e; rw [e.1]; omega
    · exact Int.le_refl _
  · refine ⟨0, by decide, hs, ?_⟩
    rw [h 0]
    split
    · omega
    · omega
  · simp
    intro j q1 q2
    omega
theorem hold_s {K K1 K2 wd D O : Int → Int} {n pk i A : Int} (hpk : 0 ≤ pk) (hi : 0 ≤ i ∧ i < n) (hA : 0 ≤ A ∧ A < 256) (hP : PermO O n) (hS : SrtO D O n) (hD : ∀ t, 0 ≤ t → t < n → 0 ≤ D t ∧ D t ≤ 63) (hw : ∀ t, 0 ≤ t → t < n → 0 ≤ wd t ∧ wd t < 8) (h1 : Snd K K1 wd D n pk) (h2 : Dec K K1) (h3 : Cmp K1 wd D n pk A) (h4 : Bts wd O i A) (h : ∀ j, K2 j = if j = orb A (wd (O i)) ∧ D (O i) * 16384 + pk < K1 (orb A (wd (O i))) then D (O i) * 16384 + pk else K1 j) :
    Snd K K2 wd D n pk ∧ Dec K K2 ∧ Cmp K2 wd D n pk (orb A (wd (O i))) ∧ Bts wd O (i + 1) (orb A (wd (O i))) := by
  have hO := hP.1 i hi.1 hi.2
  have hDi := hD (O i) hO.1 hO.2
  have hwi := hw (O i) hO.1 hO.2
  have ho := orb_rng hA hwi
  have hb : Bts wd O (i + 1) (orb A (wd (O i))) := by
    intro b
    rw [orb_bit, h4 b]
    constructor
    · rintro (⟨j, z1, z2⟩ | z)
      · exact ⟨j, by omega, z2⟩
      · exact ⟨i, by omega, by omega⟩
    · rintro ⟨j, z1, z2⟩
      by_cases e : j = i
      · right; rw [e] at z2; omega
      · exact Or.inl ⟨j, by omega, z2⟩
  have hdec : ∀ S, K2 S ≤ K1 S := by
    intro S
    rw [h S]
    split
    · rename_i e; rw [e.1]; omega
    · exact Int.le_refl _
  refine ⟨fun S q1 q2 => ?_, fun S q1 q2 => Int.le_trans (hdec S) (h2 S q1 q2), fun S q1 q2 hs r hr hq => ?_, hb⟩
  · rw [h S]
    split
    · rename_i e
      refine Or.inr ⟨D (O i), hDi, rfl, fun b hb2 => ?_⟩
      rw [e.1] at hb2
      obtain ⟨j, z1, z2⟩ := (hb b).mp hb2
      have hOj := hP.1 j z1.1 (by omega)
      exact ⟨O j, hOj, z2, hS j i z1.1 (by omega) hi.2⟩
    · exact h1 S q1 q2
  · by_cases e : S.toNat.testBit (wd (O i)).toNat = true
    · have h5 := hq (O i) hO.1 hO.2 e
      refine ⟨orb A (wd (O i)), ho, hs, ?_⟩
      rw [h]
      have h6 : D (O i) * 16384 ≤ r * 16384 := by omega
      split
      · omega
      · rename_i g
        have : ¬ D (O i) * 16384 + pk < K1 (orb A (wd (O i))) := fun z => g ⟨rfl, z⟩
        omega
    · obtain ⟨T, t1, t2, t3⟩ := h3 S q1 q2 (fun b hb2 => by
        rcases orb_bit.mp (hs b hb2) with z | z
        · exact z
        · rw [z] at hb2; exact absurd hb2 e) r hr hq
      exact ⟨T, t1, t2, Int.le_trans (hdec T) t3⟩
