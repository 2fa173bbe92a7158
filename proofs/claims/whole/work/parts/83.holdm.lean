/-! the reference's held sets -/
theorem b_and1 {a : Int} (ha : 0 ≤ a) : Int32.ofInt a &&& Int32.ofInt 1 = Int32.ofInt (a % 2) := by
  rw [b_and ha (by decide)]
  obtain ⟨x, rfl⟩ := Int.eq_ofNat_of_zero_le ha
  congr 1
  rw [show (1 : Int).toNat = 2 ^ 1 - 1 by decide, Int.toNat_natCast, Nat.and_two_pow_sub_one_eq_mod]
  rfl
theorem dv_nat {x i : Int} (hx : 0 ≤ x) : x / 2 ^ i.toNat = ((x.toNat / 2 ^ i.toNat : Nat) : Int) := by
  obtain ⟨n, rfl⟩ := Int.eq_ofNat_of_zero_le hx
  rw [Int.toNat_natCast, Int.natCast_ediv, Int.natCast_pow]
  rfl
theorem tb_mod {x i : Int} (hx : 0 ≤ x) : x / 2 ^ i.toNat % 2 = if x.toNat.testBit i.toNat = true then 1 else 0 := by
  rw [dv_nat hx, Nat.testBit_eq_decide_div_mod_eq]
  split
  · rename_i h
    have := of_decide_eq_true h
    omega
  · rename_i h
    have h2 : ¬ (x.toNat / 2 ^ i.toNat % 2 = 1) := fun q => h (decide_eq_true q)
    omega
theorem dv_pos {x i : Int} (hx : 0 ≤ x ∧ x < 256) : 0 ≤ x / 2 ^ i.toNat ∧ x / 2 ^ i.toNat < 256 := by
  rw [dv_nat hx.1]
  have h5 : x.toNat / 2 ^ i.toNat ≤ x.toNat := Nat.div_le_self _ _
  generalize x.toNat / 2 ^ i.toNat = q at h5 ⊢
  omega
def hsK (c : Cfg) (r k w : Int) : Int := bsI (fun u => if kP c u = 1 ∧ Dw c (rwX c k) u ≤ r then 1 else 0) 1 w
theorem hs_no {c : Cfg} {r k w : Int} (hw : 0 ≤ w) (h : ¬ (kP c w = 1 ∧ Dw c (rwX c k) w ≤ r)) : hsK c r k (w + 1) = hsK c r k w := by
  unfold hsK
  refine bsI_no hw ?_
  simp only [h, if_false]
  decide
theorem hs_yes {c : Cfg} {r k w : Int} (hw : 0 ≤ w) (h : kP c w = 1 ∧ Dw c (rwX c k) w ≤ r) : hsK c r k (w + 1) = (((hsK c r k w).toNat ||| (1 * 2 ^ w.toNat : Int).toNat : Nat) : Int) := by
  unfold hsK
  refine bsI_yes hw ?_
  simp only [h, and_self, if_true]
theorem hs_bit {c : Cfg} {r k w : Int} (hw : 0 ≤ w) (b : Nat) : (hsK c r k w).toNat.testBit b = true ↔ (b : Int) < w ∧ kP c (b : Int) = 1 ∧ Dw c (rwX c k) (b : Int) ≤ r := by
  unfold hsK bsI
  rw [Int.toNat_natCast, hvN_bit, Bool.and_eq_true, decide_eq_true_eq, decide_eq_true_eq]
  by_cases e : kP c (b : Int) = 1 ∧ Dw c (rwX c k) (b : Int) ≤ r
  · rw [if_pos e]
    constructor
    · rintro ⟨a, d⟩; exact ⟨by omega, e⟩
    · rintro ⟨a, d⟩; exact ⟨by omega, rfl⟩
  · rw [if_neg e]
    constructor
    · rintro ⟨a, d⟩; exact absurd d (by decide)
    · rintro ⟨a, d⟩; exact absurd d e
def H01 (I : Int → Int) : Prop := ∀ S, 0 ≤ S → S < 256 → I S = 0 ∨ I S = 1
def HoA (c : Cfg) (r n : Int) (I : Int → Int) : Prop := ∀ S, 0 ≤ S → S < 256 → (I S = 1 ↔ ∃ k, (0 ≤ k ∧ k < n) ∧ cdK c k = true ∧ S = hsK c r k (kW c))
theorem HoA_0 {c : Cfg} {r : Int} {I : Int → Int} (h : ∀ S, 0 ≤ S → S < 256 → I S = 0) : HoA c r 0 I := fun S q1 q2 => by
  rw [h S q1 q2]
  constructor
  · intro q; omega
  · rintro ⟨k, a, -⟩; omega
theorem HoA_no {c : Cfg} {r n : Int} {I : Int → Int} (h : HoA c r n I) (hn : cdK c n = false) : HoA c r (n + 1) I := fun S q1 q2 => by
  rw [h S q1 q2]
  constructor
  · rintro ⟨k, a, b⟩; exact ⟨k, by omega, b⟩
  · rintro ⟨k, a, b⟩
    by_cases e : k = n
    · rw [e, hn] at b; cases b.1
    · exact ⟨k, by omega, b⟩
theorem HoA_yes {c : Cfg} {r n : Int} {I I2 : Int → Int} (h : HoA c r n I) (h0 : 0 ≤ n) (hn : cdK c n = true) (h2 : ∀ S, I2 S = if S = hsK c r n (kW c) then 1 else I S) : HoA c r (n + 1) I2 := fun S q1 q2 => by
  rw [h2 S]
  by_cases e : S = hsK c r n (kW c)
  · rw [if_pos e]
    exact ⟨fun _ => ⟨n, by omega, hn, e⟩, fun _ => rfl⟩
  · rw [if_neg e, h S q1 q2]
    constructor
    · rintro ⟨k, a, b⟩; exact ⟨k, by omega, b⟩
    · rintro ⟨k, a, b⟩
      by_cases g : k = n
      · rw [g] at b; exact absurd b.2 e
      · exact ⟨k, by omega, b⟩
theorem H01_up {I I2 : Int → Int} {t : Int} (h : H01 I) (h2 : ∀ S, I2 S = if S = t then 1 else I S) : H01 I2 := fun S q1 q2 => by
  rw [h2 S]
  split
  · exact Or.inr rfl
  · exact h S q1 q2
def Dn (w : Int) (I I' : Int → Int) : Prop := ∀ S, 0 ≤ S → S < 256 → (I' S = 1 ↔ ∃ T, (0 ≤ T ∧ T < 256) ∧ sub2 S T ∧ I T = 1 ∧ ∀ i : Nat, T.toNat.testBit i = true → S.toNat.testBit i = false → (i : Int) < w)
theorem Dn_0 {I : Int → Int} : Dn 0 I I := fun S q1 q2 => by
  constructor
  · intro h
    exact ⟨S, ⟨q1, q2⟩, sub2_rf S, h, fun i h1 h2 => by rw [h1] at h2; cases h2⟩
  · rintro ⟨T, t1, t2, t3, t4⟩
    have e : S = T := eq_of_bits q1 t1.1 (fun i => by
      cases h1 : S.toNat.testBit i with
      | true => rw [t2 i h1]
      | false =>
        cases h2 : T.toNat.testBit i with
        | false => rfl
        | true => have := t4 i h2 h1; omega)
    rw [e]; exact t3
theorem Dn_s {w : Int} {I I1 I2 : Int → Int} (hw : 0 ≤ w ∧ w < 8) (h : Dn w I I1) (h2 : ∀ S, 0 ≤ S → S < 256 → (I2 S = 1 ↔ I1 S = 1 ∨ (S.toNat.testBit w.toNat = false ∧ I1 (orb S w) = 1))) : Dn (w + 1) I I2 := fun S q1 q2 => by
  have ho := orb_rng ⟨q1, q2⟩ hw
  rw [h2 S q1 q2, h S q1 q2, h (orb S w) ho.1 ho.2]
  constructor
  · rintro (⟨T, t1, t2, t3, t4⟩ | ⟨g, T, t1, t2, t3, t4⟩)
    · exact ⟨T, t1, t2, t3, fun i a b => by have := t4 i a b; omega⟩
    · refine ⟨T, t1, fun i hi => t2 i (orb_bit.mpr (Or.inl hi)), t3, fun i a b => ?_⟩
      by_cases e : i = w.toNat
      · omega
      · have := t4 i a (by
          cases z : (orb S w).toNat.testBit i with
          | false => rfl
          | true =>
            rcases orb_bit.mp z with q | q
            · rw [b] at q; cases q
            · exact absurd q e)
        omega
  · rintro ⟨T, t1, t2, t3, t4⟩
    by_cases e : T.toNat.testBit w.toNat = true ∧ S.toNat.testBit w.toNat = false
    · refine Or.inr ⟨e.2, T, t1, fun i hi => ?_, t3, fun i a b => ?_⟩
      · rcases orb_bit.mp hi with q | q
        · exact t2 i q
        · rw [q]; exact e.1
      · have hn : ¬ (orb S w).toNat.testBit i = true := by rw [b]; decide
        rw [orb_bit] at hn
        have h5 : S.toNat.testBit i = false := by
          cases z : S.toNat.testBit i with
          | false => rfl
          | true => exact absurd (Or.inl z) hn
        have h6 := t4 i a h5
        have h7 : i ≠ w.toNat := fun q => hn (Or.inr q)
        omega
    · refine Or.inl ⟨T, t1, t2, t3, fun i a b => ?_⟩
      have h6 := t4 i a b
      have h7 : i ≠ w.toNat := fun q => e (by rw [← q]; exact ⟨a, b⟩)
      omega
def PsI (I1 I2 : Int → Int) (w s : Int) : Prop := ∀ S, 0 ≤ S → S < 256 → (I2 S = 1 ↔ I1 S = 1 ∨ (S.toNat.testBit w.toNat = false ∧ orb S w < s ∧ I1 (orb S w) = 1))
theorem PsI_0 {I : Int → Int} {w : Int} : PsI I I w 0 := fun S q1 q2 => by
  constructor
  · exact Or.inl
  · rintro (h | ⟨-, h, -⟩)
    · exact h
    · unfold orb at h; omega
theorem orb_self {S w : Int} : (orb S w).toNat.testBit w.toNat = true := orb_bit.mpr (Or.inr rfl)
theorem PsI_no {I1 I2 : Int → Int} {w s : Int} (h : PsI I1 I2 w s) (h2 : s.toNat.testBit w.toNat = true → I1 s ≠ 1) : PsI I1 I2 w (s + 1) := fun S q1 q2 => by
  rw [h S q1 q2]
  constructor
  · rintro (a | ⟨a, b, d⟩)
    · exact Or.inl a
    · exact Or.inr ⟨a, by omega, d⟩
  · rintro (a | ⟨a, b, d⟩)
    · exact Or.inl a
    · by_cases e : orb S w = s
      · rw [e] at d
        exact absurd d (h2 (by rw [← e]; exact orb_self))
      · exact Or.inr ⟨a, by omega, d⟩
theorem clr_all : ∀ s, s < 256 → ∀ w, w < 8 → s.testBit w = true → 2 ^ w ≤ s ∧ (s - 2 ^ w).testBit w = false ∧ (s - 2 ^ w) ||| 2 ^ w = s ∧ nI s &&& Int32.ofInt (-(((2 ^ w : Nat) : Int)) - 1) = nI (s - 2 ^ w) := by decide +kernel
theorem not_all : ∀ w, w < 8 → nI (2 ^ w) ^^^ Int32.ofInt (-1) = Int32.ofInt (-(((2 ^ w : Nat) : Int)) - 1) := by decide +kernel
theorem p2_cast {w : Int} : (1 * 2 ^ w.toNat : Int) = ((2 ^ w.toNat : Nat) : Int) := by
  rw [Int.one_mul, Int.natCast_pow]; rfl
theorem b_not {w : Int} (h : 0 ≤ w ∧ w < 8) : Int32.ofInt (1 * 2 ^ w.toNat) ^^^ Int32.ofInt (-1) = Int32.ofInt (-(1 * 2 ^ w.toNat) - 1) := by
  rw [p2_cast]
  exact not_all w.toNat (by omega)
theorem clr_ok {s w : Int} (hs : 0 ≤ s ∧ s < 256) (h : 0 ≤ w ∧ w < 8) (hb : s.toNat.testBit w.toNat = true) : (0 ≤ s - 1 * 2 ^ w.toNat ∧ s - 1 * 2 ^ w.toNat < 256) ∧ (s - 1 * 2 ^ w.toNat).toNat.testBit w.toNat = false ∧ orb (s - 1 * 2 ^ w.toNat) w = s ∧ Int32.ofInt s &&& Int32.ofInt (-(1 * 2 ^ w.toNat) - 1) = Int32.ofInt (s - 1 * 2 ^ w.toNat) := by
  obtain ⟨n, rfl⟩ := Int.eq_ofNat_of_zero_le hs.1
  obtain ⟨a, b, d, e⟩ := clr_all n (by omega) w.toNat (by omega) hb
  have h5 : ((n : Int) - 1 * 2 ^ w.toNat) = ((n - 2 ^ w.toNat : Nat) : Int) := by rw [p2_cast]; omega
  unfold orb
  rw [p2_nat, h5, p2_cast, Int.toNat_natCast]
  have h6 := Nat.sub_le n (2 ^ w.toNat)
  refine ⟨?_, b, by rw [d], e⟩
  generalize n - 2 ^ w.toNat = q at h6 ⊢
  omega
theorem PsI_yes {I1 I2 I3 : Int → Int} {w s : Int} (hs : 0 ≤ s ∧ s < 256) (hw : 0 ≤ w ∧ w < 8) (hb : s.toNat.testBit w.toNat = true) (h1 : I1 s = 1) (h : PsI I1 I2 w s) (h3 : ∀ S, I3 S = if S = s - 1 * 2 ^ w.toNat then 1 else I2 S) : PsI I1 I3 w (s + 1) := fun S q1 q2 => by
  obtain ⟨c1, c2, c3, -⟩ := clr_ok hs hw hb
  rw [h3 S]
  by_cases e : S = s - 1 * 2 ^ w.toNat
  · rw [if_pos e]
    refine ⟨fun _ => Or.inr ?_, fun _ => rfl⟩
    rw [e, c3]
    exact ⟨c2, by omega, h1⟩
  · rw [if_neg e, h S q1 q2]
    constructor
    · rintro (a | ⟨a, b, d⟩)
      · exact Or.inl a
      · exact Or.inr ⟨a, by omega, d⟩
    · rintro (a | ⟨a, b, d⟩)
      · exact Or.inl a
      · by_cases g : orb S w = s
        · refine absurd (eq_of_bits q1 c1.1 (fun i => ?_)) e
          have g2 : (orb S w).toNat.testBit i = (orb (s - 1 * 2 ^ w.toNat) w).toNat.testBit i := by rw [g, c3]
          by_cases z : i = w.toNat
          · rw [z, a, c2]
          · rw [Bool.eq_iff_iff]
            rw [Bool.eq_iff_iff, orb_bit, orb_bit] at g2
            constructor
            · intro y; exact (g2.mp (Or.inl y)).elim id (fun y => absurd y z)
            · intro y; exact (g2.mpr (Or.inl y)).elim id (fun y => absurd y z)
        · exact Or.inr ⟨a, by omega, d⟩
theorem PsI_end {I1 I2 : Int → Int} {w : Int} (hw : 0 ≤ w ∧ w < 8) (h : PsI I1 I2 w 256) : ∀ S, 0 ≤ S → S < 256 → (I2 S = 1 ↔ I1 S = 1 ∨ (S.toNat.testBit w.toNat = false ∧ I1 (orb S w) = 1)) := fun S q1 q2 => by
  have ho := orb_rng ⟨q1, q2⟩ hw
  rw [h S q1 q2]
  constructor
  · rintro (a | ⟨a, b, d⟩)
    · exact Or.inl a
    · exact Or.inr ⟨a, d⟩
  · rintro (a | ⟨a, d⟩)
    · exact Or.inl a
    · exact Or.inr ⟨a, ho.2, d⟩
theorem Ho_Hd {c : Cfg} {r : Int} {I I' : Int → Int} (hW : WfK c) (h : HoA c r (nK c) I) (h2 : Dn (kW c) I I') : ∀ S, 0 ≤ S → S < 256 → (I' S = 1 ↔ Hd c r S) := fun S q1 q2 => by
  have hw := hW.2.2.2.2.2.1
  rw [h2 S q1 q2]
  constructor
  · rintro ⟨T, t1, t2, t3, -⟩
    obtain ⟨k, k1, k2, k3⟩ := (h T t1.1 t1.2).mp t3
    refine ⟨k, k1, k2, fun b hb => ?_⟩
    have h5 := t2 b hb
    rw [k3, hs_bit hw.1] at h5
    exact ⟨⟨h5.1, h5.2.1⟩, h5.2.2⟩
  · rintro ⟨k, k1, k2, k3⟩
    have hr : 0 ≤ hsK c r k (kW c) ∧ hsK c r k (kW c) < 256 := bsI_rng hw.2
    refine ⟨hsK c r k (kW c), hr, fun b hb => ?_, (h _ hr.1 hr.2).mpr ⟨k, k1, k2, rfl⟩, fun i a _ => ((hs_bit hw.1 i).mp a).1⟩
    have h5 := k3 b hb
    exact (hs_bit hw.1 b).mpr ⟨h5.1.1, h5.1.2, h5.2⟩
