/-! the reference's cover -/
theorem Hd_mono {c : Cfg} {r S T : Int} (h : Hd c r T) (hs : sub2 S T) : Hd c r S := by
  obtain ⟨k, k1, k2, k3⟩ := h
  exact ⟨k, k1, k2, fun b hb => k3 b (hs b hb)⟩
theorem andn_xr {s a : Int} (hs : 0 ≤ s ∧ s < 256) (ha : 0 < a ∧ a < 256) (h : sub2 a s) : andn s a = xr s a := by
  have hx := xr_ok hs ha h
  refine eq_of_bits (andn_rng hs).1 hx.1 (fun b => ?_)
  rw [Bool.eq_iff_iff, andn_bit, hx.2.2.2.1 b]
def RtS (c : Cfg) (r : Int) (B : Int → Int) (s a j : Int) : Prop := ∃ x, (a < x ∧ x < 256) ∧ sub2 x s ∧ Hd c r x ∧ B (andn s x) + 1 ≤ j
def HCj (c : Cfg) (r j S : Int) : Prop := S = 0 ∨ (1 ≤ j ∧ HCv c r (j - 1).toNat S)
theorem HC_s {c : Cfg} {r S j : Int} {B : Int → Int} (hS : 0 < S ∧ S < 256) (hj : 0 ≤ j ∧ j ≤ 8) (hB : ∀ T, 0 ≤ T → T < S → 0 ≤ B T) (hP : ∀ T, 0 ≤ T → T < S → sub2 T S → ∀ i, 0 ≤ i → i ≤ 8 → (B T ≤ i ↔ HCj c r i T)) : RtS c r B S 0 j ↔ HCj c r j S := by
  have hS0 : 0 ≤ S ∧ S < 256 := by omega
  constructor
  · rintro ⟨a, a1, a2, a3, a4⟩
    have hx := xr_ok hS0 a1 a2
    rw [andn_xr hS0 a1 a2] at a4
    have h0 := hB _ hx.1 hx.2.2.2.2
    have h1 := (hP _ hx.1 hx.2.2.2.2 (fun b hb => ((hx.2.2.2.1 b).mp hb).1) (j - 1) (by omega) (by omega)).mp (by omega)
    refine Or.inr ⟨by omega, ?_⟩
    rcases h1 with q | ⟨q, f, f1, f2⟩
    · refine ⟨fun _ => a, fun i _ => ⟨⟨Int.le_of_lt a1.1, a1.2⟩, a3⟩, fun b hb => ⟨0, Nat.zero_le _, ?_⟩⟩
      cases e : a.toNat.testBit b with
      | true => rfl
      | false =>
        have h5 := (hx.2.2.2.1 b).mpr ⟨hb, e⟩
        rw [q, show (0 : Int).toNat = 0 from rfl, Nat.zero_testBit] at h5
        cases h5
    · obtain ⟨n, hn⟩ : ∃ n, n = (j - 1 - 1).toNat := ⟨_, rfl⟩
      rw [← hn] at f1 f2
      rw [show (j - 1).toNat = n + 1 by omega]
      refine ⟨fun i => if i ≤ n then f i else a, fun i hi => ?_, fun b hb => ?_⟩
      · by_cases e : i ≤ n
        · simp only [e, if_true]; exact f1 i e
        · simp only [e, if_false]; exact ⟨by omega, a3⟩
      · cases e : a.toNat.testBit b with
        | true => exact ⟨n + 1, Nat.le_refl _, by simp only [show ¬ n + 1 ≤ n by omega, if_false]; exact e⟩
        | false =>
          obtain ⟨i, i1, i2⟩ := f2 b ((hx.2.2.2.1 b).mpr ⟨hb, e⟩)
          exact ⟨i, by omega, by simp only [i1, if_true]; exact i2⟩
  · rintro (q | ⟨q, f, f1, f2⟩)
    · omega
    · obtain ⟨p, -, hp, -⟩ := b_low hS
      obtain ⟨z, z1, z2⟩ := f2 p hp
      have hz := f1 z z1
      have hab : ∀ b : Nat, (((S.toNat &&& (f z).toNat : Nat) : Int)).toNat.testBit b = true ↔ S.toNat.testBit b = true ∧ (f z).toNat.testBit b = true := fun b => by
        rw [Int.toNat_natCast, Nat.testBit_and, Bool.and_eq_true]
      have hal : S.toNat &&& (f z).toNat ≤ S.toNat := Nat.and_le_left
      obtain ⟨a, ha⟩ : ∃ a, a = ((S.toNat &&& (f z).toNat : Nat) : Int) := ⟨_, rfl⟩
      rw [← ha] at hab
      have ha0 : a ≠ 0 := fun q => by
        have := (hab p).mpr ⟨hp, z2⟩
        rw [q, show (0 : Int).toNat = 0 from rfl, Nat.zero_testBit] at this
        cases this
      have ha1 : 0 < a ∧ a < 256 := by omega
      have ha2 : sub2 a S := fun b hb => ((hab b).mp hb).1
      have hx := xr_ok hS0 ha1 ha2
      refine ⟨a, ha1, ha2, Hd_mono hz.2 (fun b hb => ((hab b).mp hb).2), ?_⟩
      rw [andn_xr hS0 ha1 ha2]
      have h9 : HCj c r (j - 1) (xr S a) := by
        by_cases e0 : xr S a = 0
        · exact Or.inl e0
        · have hout : ∀ b : Nat, (xr S a).toNat.testBit b = true → ∃ i, i ≤ (j - 1).toNat ∧ i ≠ z ∧ (f i).toNat.testBit b = true := fun b hb => by
            have h5 := (hx.2.2.2.1 b).mp hb
            obtain ⟨i, i1, i2⟩ := f2 b h5.1
            refine ⟨i, i1, fun q => ?_, i2⟩
            rw [q] at i2
            have h6 := (hab b).mpr ⟨h5.1, i2⟩
            rw [h5.2] at h6
            cases h6
          obtain ⟨p2, -, hp2, -⟩ := b_low (s := xr S a) (by omega)
          obtain ⟨i0, y1, y2, -⟩ := hout p2 hp2
          obtain ⟨n, hn⟩ : ∃ n, n = (j - 1 - 1).toNat := ⟨_, rfl⟩
          have hj2 : 1 ≤ j - 1 := by omega
          have hn2 : (j - 1).toNat = n + 1 := by omega
          rw [hn2] at f1 z1 hout
          refine Or.inr ⟨hj2, ?_⟩
          rw [← hn]
          refine ⟨fun i => if i = z then f (n + 1) else f i, fun i hi => ?_, fun b hb => ?_⟩
          · by_cases e : i = z
            · simp only [e, if_true]; exact f1 (n + 1) (Nat.le_refl _)
            · simp only [e, if_false]; exact f1 i (by omega)
          · obtain ⟨i, i1, i2, i3⟩ := hout b hb
            by_cases e : i = n + 1
            · exact ⟨z, by omega, by simp only [if_true]; rw [← e]; exact i3⟩
            · exact ⟨i, by omega, by simp only [i2, if_false]; exact i3⟩
      have h10 := (hP _ hx.1 hx.2.2.2.2 (fun b hb => ((hx.2.2.2.1 b).mp hb).1) (j - 1) (by omega) (by omega)).mpr h9
      omega
