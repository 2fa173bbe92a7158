/-! parts of sets, one by one -/
theorem sm_le : ∀ (i s t : Nat), i &&& s = i → t &&& s = t → t < i → t ≤ (i - 1) &&& s := by
  intro i
  induction i using Nat.strongRecOn with
  | _ i ih =>
    intro s t h1 h2 h3
    have d1 : i / 2 &&& s / 2 = i / 2 := by rw [← Nat.and_div_two, h1]
    have d2 : t / 2 &&& s / 2 = t / 2 := by rw [← Nat.and_div_two, h2]
    by_cases e : i % 2 = 1
    · have hs : s % 2 = 1 := by
        have h : (i &&& s) % 2 = 1 := by rw [h1]; exact e
        exact (Nat.and_mod_two_eq_one.mp h).2
      have h4 : ((i - 1) &&& s) / 2 = i / 2 := by rw [Nat.and_div_two, show (i - 1) / 2 = i / 2 by omega, d1]
      omega
    · have h4 : ((i - 1) &&& s) / 2 = (i / 2 - 1) &&& s / 2 := by rw [Nat.and_div_two, show (i - 1) / 2 = i / 2 - 1 by omega]
      by_cases g : t / 2 < i / 2
      · have h5 := ih (i / 2) (by omega) (s / 2) (t / 2) d1 d2 g
        by_cases k : t % 2 = 1
        · have hs : s % 2 = 1 := by
            have h : (t &&& s) % 2 = 1 := by rw [h2]; exact k
            exact (Nat.and_mod_two_eq_one.mp h).2
          have h6 : ((i - 1) &&& s) % 2 = 1 := Nat.and_mod_two_eq_one.mpr ⟨by omega, hs⟩
          omega
        · omega
      · omega
theorem sub2_and {a b : Int} (ha : 0 ≤ a) : ((a.toNat &&& b.toNat : Nat) : Int) = a ↔ sub2 a b := by
  constructor
  · intro h i hi
    have h2 : a.toNat &&& b.toNat = a.toNat := by omega
    rw [← h2, Nat.testBit_and, Bool.and_eq_true] at hi
    exact hi.2
  · intro h
    have h2 : a.toNat &&& b.toNat = a.toNat := by
      apply Nat.eq_of_testBit_eq
      intro i
      rw [Nat.testBit_and]
      cases e : a.toNat.testBit i with
      | false => rfl
      | true => rw [h i e]; rfl
    omega
/-- the next smaller part of s -/
def nxs (i s : Int) : Int := (((i - 1).toNat &&& s.toNat : Nat) : Int)
theorem nxs_ok {i s : Int} (hi : 0 < i) (hs : 0 ≤ s) (h : sub2 i s) : 0 ≤ nxs i s ∧ nxs i s < i ∧ sub2 (nxs i s) s ∧ ∀ t, 0 ≤ t → t < i → sub2 t s → t ≤ nxs i s := by
  have h1 : i.toNat &&& s.toNat = i.toNat := by have := (sub2_and (by omega)).mpr h; omega
  have h2 : (i - 1).toNat = i.toNat - 1 := by omega
  unfold nxs
  rw [h2]
  refine ⟨by omega, ?_, ?_, ?_⟩
  · have : i.toNat - 1 &&& s.toNat ≤ i.toNat - 1 := Nat.and_le_left
    omega
  · intro b hb
    rw [Int.toNat_natCast, Nat.testBit_and, Bool.and_eq_true] at hb
    exact hb.2
  · intro t q1 q2 q3
    have h3 : t.toNat &&& s.toNat = t.toNat := by have := (sub2_and q1).mpr q3; omega
    have := sm_le i.toNat s.toNat t.toNat h1 h3 (by omega)
    omega
theorem low_all : ∀ s, s < 256 → 0 < s → ∃ p, p < 8 ∧ s.testBit p = true ∧ nI s &&& Int32.ofInt (-(s : Int)) = nI (2 ^ p) := by decide +kernel
theorem b_low {s : Int} (h : 0 < s ∧ s < 256) : ∃ p : Nat, p < 8 ∧ s.toNat.testBit p = true ∧ Int32.ofInt s &&& Int32.ofInt (-s) = Int32.ofInt (1 * 2 ^ (p : Int).toNat) := by
  obtain ⟨n, rfl⟩ := Int.eq_ofNat_of_zero_le (show 0 ≤ s by omega)
  obtain ⟨p, h1, h2, h3⟩ := low_all n (by omega) (by omega)
  refine ⟨p, h1, h2, ?_⟩
  rw [show (1 * 2 ^ (p : Int).toNat : Int) = ((2 ^ p : Nat) : Int) by rw [Int.one_mul, Int.natCast_pow]; rfl]
  exact h3
def xr (a b : Int) : Int := ((a.toNat ^^^ b.toNat : Nat) : Int)
theorem xr_ok {s a : Int} (hs : 0 ≤ s ∧ s < 256) (ha : 0 < a ∧ a < 256) (h : sub2 a s) : 0 ≤ xr s a ∧ xr s a < 256 ∧ xr s a ≠ s ∧ (∀ b : Nat, (xr s a).toNat.testBit b = true ↔ s.toNat.testBit b = true ∧ a.toNat.testBit b = false) ∧ xr s a < s := by
  have h1 : s.toNat ^^^ a.toNat < 2 ^ 8 := Nat.xor_lt_two_pow (by omega) (by omega)
  have hb : ∀ b : Nat, (xr s a).toNat.testBit b = true ↔ s.toNat.testBit b = true ∧ a.toNat.testBit b = false := by
    intro b
    unfold xr
    rw [Int.toNat_natCast, Nat.testBit_xor]
    have := h b
    cases e1 : s.toNat.testBit b <;> cases e2 : a.toNat.testBit b <;> simp_all
  have hsub : sub2 (xr s a) s := fun b q => ((hb b).mp q).1
  have hle : xr s a ≤ s := by
    have h5 := (sub2_and (a := xr s a) (by unfold xr; omega)).mpr hsub
    have h6 : (xr s a).toNat &&& s.toNat ≤ s.toNat := Nat.and_le_right
    omega
  have hne : xr s a ≠ s := by
    intro q
    have h7 : a = 0 := eq_of_bits (by omega) (by omega) (fun b => by
      cases e : a.toNat.testBit b with
      | false => simp
      | true =>
        have h8 := h b e
        rw [← q, hb b, e] at h8
        cases h8.2)
    omega
  refine ⟨by unfold xr; omega, by unfold xr; omega, hne, hb, by omega⟩
/-- what partOnce does to one set -/
def PtS (R P : Int → Int) (s : Int) (p : Nat) (lo r : Int) : Prop := P s ≤ r ∨ ∃ a, (lo < a ∧ a < 256) ∧ sub2 a s ∧ a.toNat.testBit p = true ∧ R a / 16384 ≤ r ∧ P (xr s a) ≤ r
theorem PtS_top {R P : Int → Int} {s r : Int} {p : Nat} (hs : 0 ≤ s) : PtS R P s p s r ↔ P s ≤ r := by
  constructor
  · rintro (h | ⟨a, h1, h2, -⟩)
    · exact h
    · have h5 := (sub2_and (a := a) (b := s) (by omega)).mpr h2
      have h6 : a.toNat &&& s.toNat ≤ s.toNat := Nat.and_le_right
      omega
  · exact Or.inl
theorem PtS_in {R P : Int → Int} {s a r : Int} {p : Nat} (ha : a < 256) (h : sub2 a s) (hb : a.toNat.testBit p = true) : PtS R P s p (a - 1) r ↔ PtS R P s p a r ∨ (R a / 16384 ≤ r ∧ P (xr s a) ≤ r) := by
  constructor
  · rintro (g | ⟨x, g1, g2⟩)
    · exact Or.inl (Or.inl g)
    · by_cases e : x = a
      · rw [e] at g2; exact Or.inr g2.2.2
      · exact Or.inl (Or.inr ⟨x, by omega, g2⟩)
  · rintro ((g | ⟨x, g1, g2⟩) | g)
    · exact Or.inl g
    · exact Or.inr ⟨x, by omega, g2⟩
    · exact Or.inr ⟨a, by omega, h, hb, g⟩
theorem PtS_out {R P : Int → Int} {s a r : Int} {p : Nat} (hb : a.toNat.testBit p = false) : PtS R P s p (a - 1) r ↔ PtS R P s p a r := by
  constructor
  · rintro (g | ⟨x, g1, g2⟩)
    · exact Or.inl g
    · by_cases e : x = a
      · rw [e, hb] at g2; cases g2.2.1
      · exact Or.inr ⟨x, by omega, g2⟩
  · rintro (g | ⟨x, g1, g2⟩)
    · exact Or.inl g
    · exact Or.inr ⟨x, by omega, g2⟩
theorem PtS_nx {R P : Int → Int} {s a r : Int} {p : Nat} (ha : 0 < a) (hs : 0 ≤ s) (h : sub2 a s) : PtS R P s p (nxs a s) r ↔ PtS R P s p (a - 1) r := by
  obtain ⟨n1, n2, n3, n4⟩ := nxs_ok ha hs h
  constructor
  · rintro (g | ⟨x, g1, g2⟩)
    · exact Or.inl g
    · refine Or.inr ⟨x, ?_, g2⟩
      have : ¬ x < a := fun q => by have := n4 x (by omega) q g2.1; omega
      omega
  · rintro (g | ⟨x, g1, g2⟩)
    · exact Or.inl g
    · exact Or.inr ⟨x, by omega, g2⟩
def mx2 (a b : Int) : Int := if a ≤ b then b else a
theorem mx2_le {a b r : Int} : mx2 a b ≤ r ↔ a ≤ r ∧ b ≤ r := by
  unfold mx2
  split <;> omega
theorem mx2_rng {a b : Int} (ha : 0 ≤ a ∧ a ≤ 131071) (hb : 0 ≤ b ∧ b ≤ 131071) : 0 ≤ mx2 a b ∧ mx2 a b ≤ 131071 := by
  unfold mx2
  split <;> omega
theorem PtS_st {R P : Int → Int} {s a v w : Int} {p : Nat} (ha : a < 256) (h : sub2 a s) (hb : a.toNat.testBit p = true) (hg : ∀ r, v ≤ r ↔ PtS R P s p a r) (hw : (w = v ∧ v ≤ mx2 (R a / 16384) (P (xr s a))) ∨ (w = mx2 (R a / 16384) (P (xr s a)) ∧ w < v)) (r : Int) : w ≤ r ↔ PtS R P s p (a - 1) r := by
  rw [PtS_in ha h hb, ← hg r, ← mx2_le]
  omega
/-- n + 1 sets within r that hold all of S -/
def Cov (R : Int → Int) (r : Int) (n : Nat) (S : Int) : Prop := ∃ f : Nat → Int, (∀ i, i ≤ n → (0 ≤ f i ∧ f i < 256) ∧ R (f i) / 16384 ≤ r) ∧ ∀ b : Nat, S.toNat.testBit b = true → ∃ i, i ≤ n ∧ (f i).toNat.testBit b = true
def Mon (R : Int → Int) : Prop := ∀ S T, 0 ≤ S → S < 256 → 0 ≤ T → T < 256 → sub2 S T → R S ≤ R T
theorem Cov_0 {R : Int → Int} {r S : Int} (hR : Mon R) (hS : 0 ≤ S ∧ S < 256) : R S / 16384 ≤ r ↔ Cov R r 0 S := by
  constructor
  · intro h
    exact ⟨fun _ => S, fun i _ => ⟨hS, h⟩, fun b hb => ⟨0, Nat.le_refl _, hb⟩⟩
  · rintro ⟨f, h1, h2⟩
    have h3 := h1 0 (Nat.le_refl _)
    have h4 := hR S (f 0) hS.1 hS.2 h3.1.1 h3.1.2 (fun b hb => by
      obtain ⟨i, i1, i2⟩ := h2 b hb
      rw [show i = 0 by omega] at i2
      exact i2)
    omega
theorem Cov_z {R : Int → Int} {r : Int} {n : Nat} (hR : Mon R) : R 0 / 16384 ≤ r ↔ Cov R r n 0 := by
  constructor
  · intro h
    exact ⟨fun _ => 0, fun i _ => ⟨⟨Int.le_refl 0, (by decide : (0 : Int) < 256)⟩, h⟩, fun b hb => by rw [show (0 : Int).toNat = 0 from rfl, Nat.zero_testBit] at hb; cases hb⟩
  · rintro ⟨f, h1, h2⟩
    have h3 := h1 0 (Nat.zero_le _)
    have h4 := hR 0 (f 0) (by decide) (by decide) h3.1.1 h3.1.2 (fun b hb => by rw [show (0 : Int).toNat = 0 from rfl, Nat.zero_testBit] at hb; cases hb)
    omega
theorem Cov_s {R P : Int → Int} {r S : Int} {n p : Nat} (hR : Mon R) (hS : 0 ≤ S ∧ S < 256) (hp : S.toNat.testBit p = true) (hP : ∀ T, 0 ≤ T → T ≤ S → sub2 T S → (P T ≤ r ↔ Cov R r n T)) : PtS R P S p 0 r ↔ Cov R r (n + 1) S := by
  constructor
  · rintro (h | ⟨a, a1, a2, a3, a4, a5⟩)
    · obtain ⟨f, f1, f2⟩ := (hP S hS.1 (Int.le_refl _) (sub2_rf S)).mp h
      refine ⟨fun i => if i ≤ n then f i else f 0, fun i hi => ?_, fun b hb => ?_⟩
      · by_cases e : i ≤ n
        · simp only [e, if_true]; exact f1 i e
        · simp only [e, if_false]; exact f1 0 (Nat.zero_le _)
      · obtain ⟨i, i1, i2⟩ := f2 b hb
        exact ⟨i, by omega, by simp only [i1, if_true]; exact i2⟩
    · have hx := xr_ok hS a1 a2
      obtain ⟨f, f1, f2⟩ := (hP (xr S a) hx.1 (by omega) (fun b hb => ((hx.2.2.2.1 b).mp hb).1)).mp a5
      refine ⟨fun i => if i ≤ n then f i else a, fun i hi => ?_, fun b hb => ?_⟩
      · by_cases e : i ≤ n
        · simp only [e, if_true]; exact f1 i e
        · simp only [e, if_false]; exact ⟨by omega, a4⟩
      · cases e : a.toNat.testBit b with
        | true => exact ⟨n + 1, Nat.le_refl _, by simp only [show ¬ n + 1 ≤ n by omega, if_false]; exact e⟩
        | false =>
          obtain ⟨i, i1, i2⟩ := f2 b ((hx.2.2.2.1 b).mpr ⟨hb, e⟩)
          exact ⟨i, by omega, by simp only [i1, if_true]; exact i2⟩
  · rintro ⟨f, f1, f2⟩
    obtain ⟨z, z1, z2⟩ := f2 p hp
    have hz := f1 z z1
    have hab : ∀ b : Nat, (((S.toNat &&& (f z).toNat : Nat) : Int)).toNat.testBit b = true ↔ S.toNat.testBit b = true ∧ (f z).toNat.testBit b = true := fun b => by
      rw [Int.toNat_natCast, Nat.testBit_and, Bool.and_eq_true]
    have hal : S.toNat &&& (f z).toNat ≤ S.toNat := Nat.and_le_left
    obtain ⟨a, ha⟩ : ∃ a, a = ((S.toNat &&& (f z).toNat : Nat) : Int) := ⟨_, rfl⟩
    rw [← ha] at hab
    have ha0 : a ≠ 0 := fun q => by
      have := (hab p).mpr ⟨hp, z2⟩
      rw [q, show (0 : Int).toNat = 0 from rfl, Nat.zero_testBit] at this
      cases this
    have ha1 : 0 < a ∧ a < 256 := by omega
    have ha2 : sub2 a S := fun b hb => ((hab b).mp hb).1
    have hx := xr_ok hS ha1 ha2
    have hRa := hR a (f z) (by omega) (by omega) hz.1.1 hz.1.2 (fun b hb => ((hab b).mp hb).2)
    refine Or.inr ⟨a, ha1, ha2, (hab p).mpr ⟨hp, z2⟩, by omega, ?_⟩
    refine (hP (xr S a) hx.1 (by omega) (fun b hb => ((hx.2.2.2.1 b).mp hb).1)).mpr ⟨fun i => if i = z then f (n + 1) else f i, fun i hi => ?_, fun b hb => ?_⟩
    · by_cases e : i = z
      · simp only [e, if_true]; exact f1 (n + 1) (Nat.le_refl _)
      · simp only [e, if_false]; exact f1 i (by omega)
    · have h5 := (hx.2.2.2.1 b).mp hb
      obtain ⟨i, i1, i2⟩ := f2 b h5.1
      have hiz : i ≠ z := fun q => by
        rw [q] at i2
        have h6 := (hab b).mpr ⟨h5.1, i2⟩
        rw [h5.2] at h6
        cases h6
      by_cases e : i = n + 1
      · exact ⟨z, by omega, by simp only [if_true]; rw [← e]; exact i2⟩
      · exact ⟨i, by omega, by simp only [hiz, if_false]; exact i2⟩
theorem Ky_mon {c : Cfg} {K : Int → Int} (hW : WfK c) (hr : ∀ S, 0 ≤ S → S < 256 → 0 ≤ K S ∧ K S ≤ 2147483647) (h : KyOK c K) : Mon K := fun S T q1 q2 q3 q4 hs => by
  have hw := hW.2.2.2.2.2.1
  have hr1 := hr S q1 q2
  rcases h.1 T q3 q4 with a | ⟨k, a, b, r, d, e, g⟩
  · omega
  · rw [e]
    refine h.2 k a.1 a.2 b S q1 q2 (fun i hi => (nrB_bit hw.1).mpr (g i (hs i hi)).1) r d.1 (fun i hi => (g i (hs i hi)).2)
