/-! DISTANCE of two rows of letters -/
def mn (a b : Int) : Int := if a ≤ b then a else b
def mx (a b : Int) : Int := if a ≤ b then b else a
def dstN (c : Int → Int) (sw : Int) (x y : Int → Int) : Nat → Int × Int
  | 0 => (0, 0)
  | p + 1 => ((dstN c sw x y p).2, if 0 < (p : Int) ∧ 0 < sw ∧ x ((p : Int) - 1) = y (p : Int) ∧ y ((p : Int) - 1) = x (p : Int) then mn ((dstN c sw x y p).2 + c (x (p : Int) * 4 + y (p : Int))) ((dstN c sw x y p).1 + sw) else (dstN c sw x y p).2 + c (x (p : Int) * 4 + y (p : Int)))
def dst (c : Int → Int) (sw : Int) (x y : Int → Int) (p : Int) : Int := (dstN c sw x y p.toNat).2
theorem dst_0 {c : Int → Int} {sw : Int} {x y : Int → Int} : dst c sw x y 0 = 0 := rfl
theorem dstN_1 {c : Int → Int} {sw : Int} {x y : Int → Int} {p : Nat} (h : 0 < p) : (dstN c sw x y p).1 = (dstN c sw x y (p - 1)).2 := by
  cases p with
  | zero => omega
  | succ p => rfl
theorem dst_succ {c : Int → Int} {sw : Int} {x y : Int → Int} {p : Int} (h : 0 ≤ p) : dst c sw x y (p + 1) = if 0 < p ∧ 0 < sw ∧ x (p - 1) = y p ∧ y (p - 1) = x p then mn (dst c sw x y p + c (x p * 4 + y p)) (dst c sw x y (p - 1) + sw) else dst c sw x y p + c (x p * 4 + y p) := by
  obtain ⟨n, rfl⟩ := Int.eq_ofNat_of_zero_le h
  unfold dst
  rw [show ((n : Int) + 1).toNat = n + 1 by omega, show (n : Int).toNat = n by omega, show ((n : Int) - 1).toNat = n - 1 by omega]
  show (if _ then _ else _) = _
  by_cases hn : 0 < n
  · rw [dstN_1 hn]
  · rw [if_neg (by omega), if_neg (by omega)]
theorem dst_pos {c : Int → Int} {sw : Int} {x y : Int → Int} {p : Int} (h : 0 ≤ p) (h1 : 0 < p ∧ 0 < sw ∧ x (p - 1) = y p ∧ y (p - 1) = x p) : dst c sw x y (p + 1) = if dst c sw x y p + c (x p * 4 + y p) ≤ dst c sw x y (p - 1) + sw then dst c sw x y p + c (x p * 4 + y p) else dst c sw x y (p - 1) + sw := by
  rw [dst_succ h, if_pos h1, mn]
theorem dst_neg {c : Int → Int} {sw : Int} {x y : Int → Int} {p : Int} (h : 0 ≤ p) (h1 : ¬ (0 < p ∧ 0 < sw ∧ x (p - 1) = y p ∧ y (p - 1) = x p)) : dst c sw x y (p + 1) = dst c sw x y p + c (x p * 4 + y p) := by
  rw [dst_succ h, if_neg h1]
/-- an induction on Ints from 0 up -/
theorem int_ind {P : Int → Prop} (h0 : P 0) (hs : ∀ p, 0 ≤ p → P p → P (p + 1)) : ∀ p, 0 ≤ p → P p := by
  intro p hp
  obtain ⟨n, rfl⟩ := Int.eq_ofNat_of_zero_le hp
  induction n with
  | zero => exact h0
  | succ n ih => exact hs n (by omega) (ih (by omega))
theorem dst_rng {c : Int → Int} {sw : Int} {x y : Int → Int} {n : Int} (hs : 0 ≤ sw) (hc : ∀ i, 0 ≤ i → i < n → 0 ≤ c (x i * 4 + y i) ∧ c (x i * 4 + y i) ≤ 9) : ∀ p, 0 ≤ p → p ≤ n → 0 ≤ dst c sw x y p ∧ dst c sw x y p ≤ 9 * p := by
  have key : ∀ p, 0 ≤ p → (p ≤ n → 0 ≤ dst c sw x y p ∧ dst c sw x y p ≤ 9 * p) ∧ (0 < p → p ≤ n → 0 ≤ dst c sw x y (p - 1)) := by
    apply int_ind
    · rw [dst_0]; omega
    · intro p hp ih
      rw [show p + 1 - 1 = p by omega]
      refine ⟨fun hn => ?_, fun _ hn => (ih.1 (by omega)).1⟩
      have h1 := ih.1 (by omega)
      have h2 := hc p hp (by omega)
      rw [dst_succ hp]
      split
      · rename_i h3
        have h4 := ih.2 h3.1 (by omega)
        unfold mn
        split <;> omega
      · omega
  intro p hp hn
  exact (key p hp).1 hn
theorem dst_congr {c c' : Int → Int} {sw : Int} {x y x' y' : Int → Int} {n : Int} (hx : ∀ i, 0 ≤ i → i < n → x i = x' i) (hy : ∀ i, 0 ≤ i → i < n → y i = y' i) (hc : ∀ i, 0 ≤ i → i < n → c (x i * 4 + y i) = c' (x i * 4 + y i)) : ∀ p, 0 ≤ p → p ≤ n → dst c sw x y p = dst c' sw x' y' p := by
  have key : ∀ p, 0 ≤ p → (p ≤ n → dst c sw x y p = dst c' sw x' y' p) ∧ (0 < p → p ≤ n → dst c sw x y (p - 1) = dst c' sw x' y' (p - 1)) := by
    apply int_ind
    · refine ⟨fun _ => ?_, fun h => absurd h (by omega)⟩
      rw [dst_0, dst_0]
    · intro p hp ih
      rw [show p + 1 - 1 = p by omega]
      refine ⟨fun hn => ?_, fun _ hn => ih.1 (by omega)⟩
      rw [dst_succ hp, dst_succ hp, ih.1 (by omega), hc p hp (by omega), ← hx p hp (by omega), ← hy p hp (by omega)]
      by_cases h0 : 0 < p
      · rw [ih.2 h0 (by omega), ← hx (p - 1) (by omega) (by omega), ← hy (p - 1) (by omega) (by omega)]
      · rw [if_neg (by omega), if_neg (by omega)]
  intro p hp hn
  exact (key p hp).1 hn
/-- how many bits are set, of the first n -/
def pcN (s : Nat) : Nat → Nat
  | 0 => 0
  | n + 1 => pcN s n + (if s.testBit n then 1 else 0)
def bc8 (s : Int) : Int := ((pcN s.toNat 8 : Nat) : Int)
def bcF (a : Int32) : Int32 :=
  let b := a - ((a.toUInt32 >>> ((1 : Int32).toUInt32 &&& Int32.toUInt32 31)).toInt32 &&& 1431655765)
  let c := (b &&& 858993459) + ((b.toUInt32 >>> ((2 : Int32).toUInt32 &&& Int32.toUInt32 31)).toInt32 &&& 858993459)
  let d := (c + (c.toUInt32 >>> ((4 : Int32).toUInt32 &&& Int32.toUInt32 31)).toInt32) &&& 252645135
  let e := d + (d.toUInt32 >>> ((8 : Int32).toUInt32 &&& Int32.toUInt32 31)).toInt32
  let f := e + (e.toUInt32 >>> ((16 : Int32).toUInt32 &&& Int32.toUInt32 31)).toInt32
  f &&& 63
set_option maxRecDepth 20000 in
theorem bcF_ok : ∀ n, n < 256 → (bcF (nI n)).toInt = ((pcN n 8 : Nat) : Int) := by decide +kernel
theorem ofI_toI (x : Int32) : Int32.ofInt x.toInt = x := Int32.ofInt_toInt x
theorem pcN_le (s : Nat) : ∀ n, pcN s n ≤ n
  | 0 => Nat.le_refl 0
  | n + 1 => by
    have := pcN_le s n
    unfold pcN
    split <;> omega
theorem shr_rng {a : Int} {y : Nat} (ha : -2147483648 ≤ a ∧ a ≤ 2147483647) : -2147483648 ≤ a / 2 ^ y ∧ a / 2 ^ y ≤ 2147483647 := by
  have hp : (0 : Int) < 2 ^ y := Int.pow_pos (by omega)
  constructor
  · rw [Int.le_ediv_iff_mul_le hp]
    have : (1 : Int) ≤ 2 ^ y := hp
    have h5 : (-2147483648 : Int) * 2 ^ y ≤ -2147483648 * 1 := Int.mul_le_mul_of_nonpos_left (by omega) this
    omega
  · apply Int.le_of_lt_add_one
    apply Int.ediv_lt_of_lt_mul hp
    have : (1 : Int) ≤ 2 ^ y := hp
    have h5 : (2147483648 : Int) * 1 ≤ 2147483648 * 2 ^ y := Int.mul_le_mul_of_nonneg_left this (by omega)
    omega
