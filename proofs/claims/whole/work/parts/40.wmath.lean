/-! rows of letters as numbers -/
def vlN (N : Int) (x : Int → Int) : Nat → Int
  | 0 => 0
  | p + 1 => vlN N x p * N + x (p : Int)
/-- the first p letters of x as a number in base N -/
def vl (N : Int) (x : Int → Int) (p : Int) : Int := vlN N x p.toNat
theorem vl_0 {N : Int} {x : Int → Int} : vl N x 0 = 0 := rfl
theorem vl_s {N : Int} {x : Int → Int} {p : Int} (h : 0 ≤ p) : vl N x (p + 1) = vl N x p * N + x p := by
  obtain ⟨n, rfl⟩ := Int.eq_ofNat_of_zero_le h
  unfold vl
  rw [show ((n : Int) + 1).toNat = n + 1 by omega, show (n : Int).toNat = n by omega, vlN]
theorem vl_congr {N : Int} {x y : Int → Int} {n : Int} (h : ∀ i, 0 ≤ i → i < n → x i = y i) : ∀ p, 0 ≤ p → p ≤ n → vl N x p = vl N y p := by
  have key : ∀ p, 0 ≤ p → (p ≤ n → vl N x p = vl N y p) := by
    apply int_ind
    · intro _; rfl
    · intro p hp ih hn
      rw [vl_s hp, vl_s hp, ih (by omega), h p hp (by omega)]
  intro p h1 h2
  exact key p h1 h2
theorem pow_s {N : Int} {p : Int} (h : 0 ≤ p) : N ^ (p + 1).toNat = N ^ p.toNat * N := by
  rw [show (p + 1).toNat = p.toNat + 1 by omega, Int.pow_succ]
theorem pow_pos' {N : Int} (hN : 0 < N) (p : Nat) : 0 < N ^ p := Int.pow_pos hN
theorem vl_rng {N : Int} {x : Int → Int} {n : Int} (hN : 0 < N) (h : ∀ i, 0 ≤ i → i < n → 0 ≤ x i ∧ x i < N) : ∀ p, 0 ≤ p → p ≤ n → 0 ≤ vl N x p ∧ vl N x p < N ^ p.toNat := by
  have key : ∀ p, 0 ≤ p → (p ≤ n → 0 ≤ vl N x p ∧ vl N x p < N ^ p.toNat) := by
    apply int_ind
    · intro _; rw [vl_0]; simp
    · intro p hp ih hn
      have h1 := ih (by omega)
      have h2 := h p hp (by omega)
      rw [vl_s hp, pow_s hp]
      have h3 : 0 ≤ vl N x p * N := Int.mul_nonneg h1.1 (by omega)
      have h4 : (vl N x p + 1) * N ≤ N ^ p.toNat * N := Int.mul_le_mul_of_nonneg_right (by omega) (by omega)
      rw [Int.add_mul, Int.one_mul] at h4
      omega
  intro p h1 h2
  exact key p h1 h2
/-- letter i of the k-th row of n letters -/
def dg (N n k i : Int) : Int := k / N ^ (n - 1 - i).toNat % N
theorem dg_rng {N n k i : Int} (hN : 0 < N) : 0 ≤ dg N n k i ∧ dg N n k i < N := ⟨Int.emod_nonneg _ (by omega), Int.emod_lt_of_pos _ hN⟩
/-- the number tells the letters -/
theorem vl_dg {N : Int} {x : Int → Int} (hN : 0 < N) : ∀ n, 0 ≤ n → (∀ i, 0 ≤ i → i < n → 0 ≤ x i ∧ x i < N) → ∀ i, 0 ≤ i → i < n → x i = dg N n (vl N x n) i := by
  apply int_ind
  · intro _ i h1 h2; omega
  · intro n hn ih h i h1 h2
    have hx := h n hn (by omega)
    have ih := ih (fun j q1 q2 => h j q1 (by omega))
    rw [vl_s hn]
    by_cases e : i = n
    · subst e
      unfold dg
      rw [show i + 1 - 1 - i = 0 by omega]
      simp only [Int.toNat_zero, Int.pow_zero, Int.ediv_one]
      rw [Int.add_comm, Int.add_mul_emod_self_right, Int.emod_eq_of_lt hx.1 hx.2]
    · rw [ih i h1 (by omega)]
      unfold dg
      rw [show n + 1 - 1 - i = (n - 1 - i) + 1 by omega, pow_s (by omega), Int.mul_comm (N ^ (n - 1 - i).toNat) N, ← Int.ediv_ediv_of_nonneg (show (0 : Int) ≤ N by omega)]
      rw [show (vl N x n * N + x n) / N = vl N x n by rw [Int.add_comm, Int.add_mul_ediv_right _ _ (by omega), Int.ediv_eq_zero_of_lt hx.1 hx.2, Int.zero_add]]
theorem dg_vl {N : Int} (hN : 0 < N) : ∀ n, 0 ≤ n → ∀ k, 0 ≤ k → k < N ^ n.toNat → vl N (dg N n k) n = k := by
  apply int_ind
  · intro k h1 h2
    rw [vl_0]
    simp at h2
    omega
  · intro n hn ih k h1 h2
    rw [vl_s hn]
    have e1 : vl N (dg N (n + 1) k) n = vl N (dg N n (k / N)) n := by
      refine vl_congr (n := n) (fun i q1 q2 => ?_) n hn (by omega)
      unfold dg
      rw [show n + 1 - 1 - i = (n - 1 - i) + 1 by omega, pow_s (by omega), Int.mul_comm (N ^ (n - 1 - i).toNat) N, ← Int.ediv_ediv_of_nonneg (show (0 : Int) ≤ N by omega)]
    have h3 : k / N < N ^ n.toNat := by
      apply Int.ediv_lt_of_lt_mul hN
      rw [← pow_s hn]
      exact h2
    rw [e1, ih (k / N) (Int.ediv_nonneg h1 (by omega)) h3]
    unfold dg
    rw [show n + 1 - 1 - n = 0 by omega]
    simp only [Int.toNat_zero, Int.pow_zero, Int.ediv_one]
    rw [Int.mul_comm]
    exact Int.mul_ediv_add_emod k N
/-- packed: two bits a letter -/
theorem pk4_lt {x : Int → Int} {n : Int} (h : ∀ i, 0 ≤ i → i < n → 0 ≤ x i ∧ x i ≤ 3) : ∀ p, 0 ≤ p → p ≤ n → 0 ≤ vl 4 x p ∧ vl 4 x p < 4 ^ p.toNat := vl_rng (by decide) (fun i h1 h2 => by have := h i h1 h2; omega)
theorem or_add4 {a l : Int} (ha : 0 ≤ a) (hl : 0 ≤ l ∧ l ≤ 3) : (((a * 2 ^ (2 : Int).toNat).toNat ||| l.toNat : Nat) : Int) = a * 4 + l := by
  obtain ⟨x, rfl⟩ := Int.eq_ofNat_of_zero_le ha
  obtain ⟨y, rfl⟩ := Int.eq_ofNat_of_zero_le hl.1
  have e1 : ((x : Int) * 2 ^ (2 : Int).toNat).toNat = 2 ^ 2 * x := by
    rw [show (2 : Int) ^ (2 : Int).toNat = 4 by decide]
    omega
  rw [e1, Int.toNat_natCast, ← Nat.two_pow_add_eq_or_of_lt (show y < 2 ^ 2 by omega) x]
  omega
/-- spots: four bits a place -/
def spN (x : Int → Int) : Nat → Nat
  | 0 => 0
  | p + 1 => spN x p ||| 2 ^ (4 * p + (x (p : Int)).toNat)
def spI (x : Int → Int) (p : Int) : Int := ((spN x p.toNat : Nat) : Int)
theorem spN_bit {x : Int → Int} : ∀ p b, (spN x p).testBit b = true ↔ ∃ i : Nat, i < p ∧ b = 4 * i + (x (i : Int)).toNat
  | 0, b => by simp [spN]
  | p + 1, b => by
    rw [spN, Nat.testBit_or, Bool.or_eq_true, spN_bit p b, Nat.testBit_two_pow]
    constructor
    · rintro (⟨i, h1, h2⟩ | h)
      · exact ⟨i, by omega, h2⟩
      · exact ⟨p, by omega, by simpa using (of_decide_eq_true h).symm⟩
    · rintro ⟨i, h1, h2⟩
      by_cases e : i = p
      · subst e
        right
        simp [h2]
      · left
        exact ⟨i, by omega, h2⟩
theorem spN_lt {x : Int → Int} : ∀ p, (∀ i : Nat, i < p → (x (i : Int)).toNat ≤ 3) → spN x p < 2 ^ (4 * p)
  | 0, _ => by simp [spN]
  | p + 1, h => by
    rw [spN]
    have h1 := spN_lt p (fun i hi => h i (by omega))
    have h2 := h p (by omega)
    refine Nat.or_lt_two_pow (Nat.lt_of_lt_of_le h1 (Nat.pow_le_pow_right (by decide) (by omega))) (Nat.pow_lt_pow_right (by decide) (by omega))
theorem spI_s {x : Int → Int} {p : Int} (h : 0 ≤ p) (hx : 0 ≤ x p) : spI x (p + 1) = (((spI x p).toNat ||| (1 * 2 ^ (4 * p + x p).toNat : Int).toNat : Nat) : Int) := by
  obtain ⟨n, rfl⟩ := Int.eq_ofNat_of_zero_le h
  unfold spI
  rw [show ((n : Int) + 1).toNat = n + 1 by omega, show (n : Int).toNat = n by omega, spN, Int.toNat_natCast]
  congr 2
  rw [Int.one_mul, show (4 * (n : Int) + x n).toNat = 4 * n + (x n).toNat by omega]
  rw [show ((2 : Int) ^ (4 * n + (x n).toNat)) = ((2 ^ (4 * n + (x n).toNat) : Nat) : Int) by rw [Int.natCast_pow]; rfl]
  rfl
theorem spI_0 {x : Int → Int} : spI x 0 = 0 := rfl
theorem spI_rng {x : Int → Int} {p : Int} (hp : 0 ≤ p ∧ p ≤ 7) (h : ∀ i, 0 ≤ i → i < p → 0 ≤ x i ∧ x i ≤ 3) : 0 ≤ spI x p ∧ spI x p < 268435456 := by
  unfold spI
  have h1 := spN_lt (x := x) p.toNat (fun i hi => by have := h i (by omega) (by omega); omega)
  have h2 : 2 ^ (4 * p.toNat) ≤ 2 ^ 28 := Nat.pow_le_pow_right (by decide) (by omega)
  omega
/-! distances that a swap of like letters doesn't change -/
theorem dst_le {c : Int → Int} {sw : Int} {x y : Int → Int} {p : Int} (h : 0 ≤ p) : dst c sw x y (p + 1) ≤ dst c sw x y p + c (x p * 4 + y p) := by
  rw [dst_succ h]
  unfold mn
  split
  · split <;> omega
  · omega
theorem dst_like {c : Int → Int} {sw : Int} {x y : Int → Int} {p : Int} (h : 0 < p) (hsw : 0 ≤ sw) (hc : ∀ a, 0 ≤ a → a ≤ 3 → c (a * 4 + a) = 0) (hx : 0 ≤ x p ∧ x p ≤ 3) (e : x (p - 1) = x p) : dst c sw x y (p + 1) = dst c sw x y p + c (x p * 4 + y p) := by
  by_cases q : 0 < p ∧ 0 < sw ∧ x (p - 1) = y p ∧ y (p - 1) = x p
  · rw [dst_pos (by omega) q, if_pos]
    have h1 := dst_le (c := c) (sw := sw) (x := x) (y := y) (p := p - 1) (by omega)
    rw [show p - 1 + 1 = p by omega, q.2.2.2, e, hc (x p) hx.1 hx.2] at h1
    rw [← q.2.2.1, e, hc (x p) hx.1 hx.2]
    omega
  · exact dst_neg (by omega) q
/-! the t-th place where p is v -/
theorem mny_mono {p : Int → Int} {v n : Int} (hn : 0 ≤ n) : ∀ k, 0 ≤ k → mny p v n ≤ mny p v (n + k) := by
  apply int_ind
  · rw [Int.add_zero]; omega
  · intro k hk ih
    rw [show n + (k + 1) = n + k + 1 by omega, mny_s (by omega)]
    split <;> omega
theorem mny_lt {p : Int → Int} {v w n : Int} (hw : 0 ≤ w) (hn : w < n) (h : p w = v) : mny p v w < mny p v n := by
  have h1 := mny_mono (p := p) (v := v) (n := w + 1) (by omega) (n - (w + 1)) (by omega)
  rw [show w + 1 + (n - (w + 1)) = n by omega, mny_s hw, if_pos h] at h1
  omega
theorem mny_inj {p : Int → Int} {v w u : Int} (hw : 0 ≤ w) (hu : 0 ≤ u) (h : p w = v) (h2 : p u = v) (e : mny p v w = mny p v u) : w = u := by
  rcases Int.lt_trichotomy w u with q | q | q
  · have := mny_lt hw q h; omega
  · exact q
  · have := mny_lt hu q h2; omega
theorem mny_sur {p : Int → Int} {v t : Int} : ∀ n, 0 ≤ n → 0 ≤ t → t < mny p v n → ∃ w, 0 ≤ w ∧ w < n ∧ p w = v ∧ mny p v w = t := by
  apply int_ind
  · intro h1 h2; rw [mny_0] at h2; omega
  · intro n hn ih h1 h2
    by_cases q : t < mny p v n
    · obtain ⟨w, a, b, c, d⟩ := ih h1 q
      exact ⟨w, a, by omega, c, d⟩
    · rw [mny_s hn] at h2
      by_cases e : p n = v
      · rw [if_pos e] at h2
        exact ⟨n, hn, by omega, e, by omega⟩
      · rw [if_neg e] at h2
        omega
