/-! folds, first minima, counts over rows -/
def mxN (f : Int → Int) : Nat → Int
  | 0 => 0
  | n + 1 => mx (mxN f n) (f (n : Int))
def mxT (f : Int → Int) (n : Int) : Int := mxN f n.toNat
theorem mxT_0 {f : Int → Int} : mxT f 0 = 0 := rfl
theorem mxT_s {f : Int → Int} {n : Int} (h : 0 ≤ n) : mxT f (n + 1) = if mxT f n ≤ f n then f n else mxT f n := by
  obtain ⟨x, rfl⟩ := Int.eq_ofNat_of_zero_le h
  unfold mxT
  rw [show ((x : Int) + 1).toNat = x + 1 by omega, show (x : Int).toNat = x by omega, mxN, mx]
def smN (f : Int → Int) : Nat → Int
  | 0 => 0
  | n + 1 => smN f n + f (n : Int)
def smT (f : Int → Int) (n : Int) : Int := smN f n.toNat
theorem smT_0 {f : Int → Int} : smT f 0 = 0 := rfl
theorem smT_s {f : Int → Int} {n : Int} (h : 0 ≤ n) : smT f (n + 1) = smT f n + f n := by
  obtain ⟨x, rfl⟩ := Int.eq_ofNat_of_zero_le h
  unfold smT
  rw [show ((x : Int) + 1).toNat = x + 1 by omega, show (x : Int).toNat = x by omega, smN]
theorem fold_rng {f : Int → Int} {B n : Int} (hB : 0 ≤ B) (h : ∀ t, 0 ≤ t → t < n → 0 ≤ f t ∧ f t ≤ B) : ∀ t, 0 ≤ t → (t ≤ n → (0 ≤ mxT f t ∧ mxT f t ≤ B) ∧ (0 ≤ smT f t ∧ smT f t ≤ B * t)) := by
  apply int_ind
  · intro _; rw [mxT_0, smT_0]; omega
  · intro t ht ih hn
    have h1 := ih (by omega)
    have h2 := h t ht (by omega)
    rw [mxT_s ht, smT_s ht, Int.mul_add, Int.mul_one]
    refine ⟨?_, by omega⟩
    split <;> omega
/-- the same over the words that p marks -/
def mxW (f p : Int → Int) : Nat → Int
  | 0 => 0
  | n + 1 => if p (n : Int) = 1 then mx (mxW f p n) (f (n : Int)) else mxW f p n
def smW (f p : Int → Int) : Nat → Int
  | 0 => 0
  | n + 1 => if p (n : Int) = 1 then smW f p n + f (n : Int) else smW f p n
theorem fold_near {f g p : Int → Int} : ∀ n : Nat, (∀ w : Int, 0 ≤ w → w < (n : Int) → p w = 1 → g (mny p 1 w) = f w) → mxT g (mny p 1 (n : Int)) = mxW f p n ∧ smT g (mny p 1 (n : Int)) = smW f p n
  | 0, _ => ⟨rfl, rfl⟩
  | n + 1, h => by
    have ih := fold_near (f := f) (g := g) (p := p) n (fun w q1 q2 q3 => h w q1 (by omega) q3)
    have hm := mny_rng (p := p) (v := 1) (n : Int) (by omega)
    rw [show ((n + 1 : Nat) : Int) = (n : Int) + 1 by omega, mny_s (by omega), mxW, smW]
    by_cases e : p (n : Int) = 1
    · rw [if_pos e, if_pos e, if_pos e, mxT_s hm.1, smT_s hm.1, h n (by omega) (by omega) e, ih.1, ih.2]
      exact ⟨rfl, rfl⟩
    · rw [if_neg e, if_neg e, if_neg e, Int.add_zero]
      exact ih
def rdI (c : Cfg) (x : Int → Int) : Int := mxW (Dw c x) (kP c) (kW c).toNat
def suI (c : Cfg) (x : Int → Int) : Int := smW (Dw c x) (kP c) (kW c).toNat
def cdN (c : Cfg) (x : Int → Int) : Nat → Bool
  | 0 => true
  | w + 1 => cdN c x w && (decide (kP c (w : Int) ≠ 2) || decide (kGp c ≤ Dw c x (w : Int)))
def cdI (c : Cfg) (x : Int → Int) : Bool := cdN c x (kW c).toNat
theorem cdN_iff {c : Cfg} {x : Int → Int} : ∀ n : Nat, cdN c x n = true ↔ ∀ w, 0 ≤ w → w < (n : Int) → kP c w = 2 → kGp c ≤ Dw c x w
  | 0 => by simp [cdN]; intro w h1 h2; omega
  | n + 1 => by
    rw [cdN, Bool.and_eq_true, cdN_iff n, Bool.or_eq_true, decide_eq_true_eq, decide_eq_true_eq]
    constructor
    · rintro ⟨h1, h2⟩ w q1 q2 q3
      by_cases e : w = (n : Int)
      · subst e
        exact h2.elim (fun h => absurd q3 h) id
      · exact h1 w q1 (by omega) q3
    · intro h
      refine ⟨fun w q1 q2 q3 => h w q1 (by omega) q3, ?_⟩
      by_cases e : kP c (n : Int) = 2
      · exact Or.inr (h n (by omega) (by omega) e)
      · exact Or.inl e
theorem cdI_iff {c : Cfg} {x : Int → Int} (hW : 0 ≤ kW c) : cdI c x = true ↔ ∀ w, 0 ≤ w → w < kW c → kP c w = 2 → kGp c ≤ Dw c x w := by
  unfold cdI
  rw [cdN_iff, Int.toNat_of_nonneg hW]
theorem foldW_congr {f g p : Int → Int} : ∀ n : Nat, (∀ w : Int, 0 ≤ w → w < (n : Int) → f w = g w) → mxW f p n = mxW g p n ∧ smW f p n = smW g p n
  | 0, _ => ⟨rfl, rfl⟩
  | n + 1, h => by
    have ih := foldW_congr (f := f) (g := g) (p := p) n (fun w q1 q2 => h w q1 (by omega))
    rw [mxW, mxW, smW, smW, ih.1, ih.2, h n (by omega) (by omega)]
    exact ⟨rfl, rfl⟩
/-- the k-th row -/
def rwX (c : Cfg) (k : Int) : Int → Int := fun i => dg (kN c) (kL c) k i
def nK (c : Cfg) : Int := kN c ^ (kL c).toNat
theorem row_eq {c : Cfg} {x y : Int → Int} (hW : WfK c) (h : ∀ i, 0 ≤ i → i < kL c → x i = y i) : rdI c x = rdI c y ∧ suI c x = suI c y ∧ cdI c x = cdI c y := by
  have hl : 0 ≤ kL c := hW.2.2.2.2.2.2.1.1
  have hw : 0 ≤ kW c := hW.2.2.2.2.2.1.1
  have e : ∀ w, Dw c x w = Dw c y w := fun w => Dw_congr hl h
  have f := foldW_congr (f := Dw c x) (g := Dw c y) (p := kP c) (kW c).toNat (fun w _ _ => e w)
  refine ⟨f.1, f.2, ?_⟩
  rw [Bool.eq_iff_iff, cdI_iff hw, cdI_iff hw]
  constructor
  · intro h1 w a b d; rw [← e w]; exact h1 w a b d
  · intro h1 w a b d; rw [e w]; exact h1 w a b d
theorem nK_pos {c : Cfg} (hW : WfK c) : 0 < nK c := Int.pow_pos (by have := hW.1; omega)
theorem nK_le {c : Cfg} (hW : WfK c) : nK c ≤ 16384 := by
  have h1 := hW.1
  have h2 := hW.2.2.2.2.2.2.1
  unfold nK
  obtain ⟨N, hN⟩ := Int.eq_ofNat_of_zero_le (show 0 ≤ kN c by omega)
  rw [hN]
  have h3 : N ^ (kL c).toNat ≤ 4 ^ 7 := Nat.le_trans (Nat.pow_le_pow_left (show N ≤ 4 by omega) _) (Nat.pow_le_pow_right (by decide) (by omega))
  have h4 : ((N ^ (kL c).toNat : Nat) : Int) ≤ ((4 ^ 7 : Nat) : Int) := by omega
  rw [Int.natCast_pow] at h4
  have h5 : ((4 ^ 7 : Nat) : Int) = 16384 := by decide
  omega
/-- the first of the least -/
def FM (p : Int → Bool) (f : Int → Int) (n k : Int) : Prop := 0 ≤ k ∧ k < n ∧ p k = true ∧ ∀ j, 0 ≤ j → j < n → p j = true → f k < f j ∨ (f k = f j ∧ k ≤ j)
theorem FM_one {p : Int → Bool} {f : Int → Int} {n k j : Int} (h : FM p f n k) (h2 : FM p f n j) : k = j := by
  have a := h.2.2.2 j h2.1 h2.2.1 h2.2.2.1
  have b := h2.2.2.2 k h.1 h.2.1 h.2.2.1
  omega
theorem FM_keep {p : Int → Bool} {f : Int → Int} {n k : Int} (h : FM p f n k) (hn : p n = false ∨ f k ≤ f n) : FM p f (n + 1) k := by
  refine ⟨h.1, by have := h.2.1; omega, h.2.2.1, fun j q1 q2 q3 => ?_⟩
  by_cases e : j = n
  · subst e
    rcases hn with q | q
    · rw [q] at q3; cases q3
    · have := h.2.1; omega
  · exact h.2.2.2 j q1 (by omega) q3
theorem FM_new {p : Int → Bool} {f : Int → Int} {n k : Int} (h : FM p f n k) (hp : p n = true) (hn : f n < f k) (h0 : 0 ≤ n) : FM p f (n + 1) n := by
  refine ⟨h0, by omega, hp, fun j q1 q2 q3 => ?_⟩
  by_cases e : j = n
  · subst e; omega
  · have := h.2.2.2 j q1 (by omega) q3; omega
theorem FM_first {p : Int → Bool} {f : Int → Int} {n : Int} (h : ∀ j, 0 ≤ j → j < n → p j = false) (hp : p n = true) (h0 : 0 ≤ n) : FM p f (n + 1) n := by
  refine ⟨h0, by omega, hp, fun j q1 q2 q3 => ?_⟩
  by_cases e : j = n
  · subst e; omega
  · rw [h j q1 (by omega)] at q3; cases q3
/-- how many -/
def cnN (p : Int → Bool) : Nat → Int
  | 0 => 0
  | n + 1 => cnN p n + (if p (n : Int) = true then 1 else 0)
def cnI (p : Int → Bool) (n : Int) : Int := cnN p n.toNat
theorem cnI_0 {p : Int → Bool} : cnI p 0 = 0 := rfl
theorem cnI_s {p : Int → Bool} {n : Int} (h : 0 ≤ n) : cnI p (n + 1) = cnI p n + (if p n = true then 1 else 0) := by
  obtain ⟨x, rfl⟩ := Int.eq_ofNat_of_zero_le h
  unfold cnI
  rw [show ((x : Int) + 1).toNat = x + 1 by omega, show (x : Int).toNat = x by omega, cnN]
theorem cnI_rng {p : Int → Bool} : ∀ n, 0 ≤ n → 0 ≤ cnI p n ∧ cnI p n ≤ n := by
  apply int_ind
  · rw [cnI_0]; omega
  · intro n h ih
    rw [cnI_s h]
    split <;> omega
theorem cnI_zero {p : Int → Bool} : ∀ n, 0 ≤ n → (∀ j, 0 ≤ j → j < n → p j = false) → cnI p n = 0 := by
  apply int_ind
  · intro _; rfl
  · intro n h ih hz
    rw [cnI_s h, ih (fun j q1 q2 => hz j q1 (by omega)), hz n h (by omega)]
    rfl
theorem cnI_congr {p q : Int → Bool} : ∀ n, 0 ≤ n → (∀ j, 0 ≤ j → j < n → p j = q j) → cnI p n = cnI q n := by
  apply int_ind
  · intro _; rfl
  · intro n h ih hz
    rw [cnI_s h, cnI_s h, ih (fun j q1 q2 => hz j q1 (by omega)), hz n h (by omega)]
theorem cnI_add {p q r : Int → Bool} : ∀ n, 0 ≤ n → (∀ j, 0 ≤ j → j < n → (r j = true ↔ p j = true ∨ q j = true) ∧ ¬ (p j = true ∧ q j = true)) → cnI r n = cnI p n + cnI q n := by
  apply int_ind
  · intro _; rfl
  · intro n h ih hz
    have hj := hz n h (by omega)
    rw [cnI_s h, cnI_s h, cnI_s h, ih (fun j q1 q2 => hz j q1 (by omega))]
    by_cases e1 : p n = true <;> by_cases e2 : q n = true
    · exact absurd ⟨e1, e2⟩ hj.2
    · rw [if_pos e1, if_neg e2, if_pos (hj.1.mpr (Or.inl e1))]; omega
    · rw [if_neg e1, if_pos e2, if_pos (hj.1.mpr (Or.inr e2))]; omega
    · rw [if_neg e1, if_neg e2, if_neg (fun h => (hj.1.mp h).elim e1 e2)]; omega
/-! the next row -/
theorem vl_next {N : Int} {x y : Int → Int} {p n : Int} (hp : 0 ≤ p) (h1 : ∀ i, 0 ≤ i → i < p → y i = x i) (h2 : y p = x p + 1) (h3 : ∀ i, p < i → i < n → x i = N - 1 ∧ y i = 0) : ∀ j, 0 ≤ j → p + 1 + j ≤ n → vl N y (p + 1 + j) = vl N x (p + 1 + j) + 1 := by
  apply int_ind
  · intro _
    rw [Int.add_zero, vl_s hp, vl_s hp, vl_congr (n := p) h1 p hp (Int.le_refl _), h2]
    omega
  · intro j hj ih hn
    have a := h3 (p + 1 + j) (by omega) (by omega)
    rw [show p + 1 + (j + 1) = p + 1 + j + 1 by omega, vl_s (by omega), vl_s (by omega), ih (by omega), a.1, a.2, Int.add_mul]
    omega
theorem vl_max {N : Int} {x : Int → Int} {n : Int} (h : ∀ i, 0 ≤ i → i < n → x i = N - 1) : ∀ j, 0 ≤ j → j ≤ n → vl N x j + 1 = N ^ j.toNat := by
  have key : ∀ j, 0 ≤ j → (j ≤ n → vl N x j + 1 = N ^ j.toNat) := by
    apply int_ind
    · intro _; rw [vl_0]; simp
    · intro j hj ih hn
      rw [vl_s hj, h j hj (by omega), pow_s hj, ← ih (by omega), Int.add_mul]
      omega
  intro j h1 h2
  exact key j h1 h2
theorem adv_dg {N n k r : Int} {x y : Int → Int} (hN : 2 ≤ N) (hn : 1 ≤ n) (hk : 0 ≤ k ∧ k < N ^ n.toNat) (hx : ∀ i, 0 ≤ i → i < n → x i = dg N n k i) (hp : ((∀ i, 0 ≤ i → i ≤ n - 1 → x i = N - 1) ∧ r = -1) ∨ ((0 ≤ r ∧ r ≤ n - 1) ∧ x r < N - 1 ∧ (∀ i, r < i → i ≤ n - 1 → x i = N - 1) ∧ ∀ i, y i = if i = r then x r + 1 else if r < i ∧ i < n then 0 else x i)) :
    (r = -1 ∧ k + 1 = N ^ n.toNat) ∨ (0 ≤ r ∧ r < n ∧ k + 1 < N ^ n.toNat ∧ (∀ i, 0 ≤ i → i < n → y i = dg N n (k + 1) i) ∧ ∀ i, 0 ≤ i → i < r → y i = x i) := by
  have hv : vl N x n = k := by
    rw [vl_congr (n := n) hx n (by omega) (Int.le_refl _)]
    exact dg_vl (by omega) n (by omega) k hk.1 hk.2
  have hxr : ∀ i, 0 ≤ i → i < n → 0 ≤ x i ∧ x i < N := fun i q1 q2 => by rw [hx i q1 q2]; exact dg_rng (by omega)
  rcases hp with ⟨h1, h2⟩ | ⟨h1, h2, h3, h4⟩
  · left
    refine ⟨h2, ?_⟩
    rw [← hv]
    exact vl_max (n := n) (fun i q1 q2 => h1 i q1 (by omega)) n (by omega) (Int.le_refl _)
  · right
    have hyr : ∀ i, 0 ≤ i → i < n → 0 ≤ y i ∧ y i < N := by
      intro i q1 q2
      rw [h4]
      have a := hxr i q1 q2
      have b := hxr r (by omega) (by omega)
      split
      · omega
      · split <;> omega
    have e := vl_next (N := N) (x := x) (y := y) (p := r) (n := n) h1.1 (fun i q1 q2 => by rw [h4, if_neg (by omega), if_neg (by omega)]) (by rw [h4, if_pos rfl]) (fun i q1 q2 => ⟨h3 i q1 (by omega), by rw [h4, if_neg (by omega), if_pos (by omega)]⟩) (n - (r + 1)) (by omega) (by omega)
    rw [show r + 1 + (n - (r + 1)) = n by omega, hv] at e
    have hlt := (vl_rng (N := N) (by omega) hyr n (by omega) (Int.le_refl _)).2
    rw [e] at hlt
    refine ⟨h1.1, by omega, hlt, ?_, fun i q1 q2 => by rw [h4, if_neg (by omega), if_neg (by omega)]⟩
    intro i q1 q2
    rw [← e]
    exact vl_dg (by omega) n (by omega) hyr i q1 q2
theorem spN_congr {x y : Int → Int} : ∀ p : Nat, (∀ i : Nat, i < p → x (i : Int) = y (i : Int)) → spN x p = spN y p
  | 0, _ => rfl
  | p + 1, h => by rw [spN, spN, spN_congr p (fun i hi => h i (by omega)), h p (by omega)]
theorem spI_congr {x y : Int → Int} {p : Int} (h : ∀ i, 0 ≤ i → i < p → x i = y i) : spI x p = spI y p := by
  unfold spI
  rw [spN_congr p.toNat (fun i hi => h i (by omega) (by omega))]
theorem WSa_adv {M M' : Mem} {n p : Int} (h : WSa M n) (hS : Sm [16] M M') (hp : p ≤ n) (hr : ∀ i, 0 ≤ i → i < p → M' 16 i = M 16 i) : WSa M' p := by
  unfold WSa wDa
  rw [hS 15 (by decide), hS 17 (by decide), hS 18 (by decide), hS 19 (by decide), hS 20 (by decide), hS 2 (by decide), hS 1 (by decide)]
  refine ⟨fun i q1 q2 t q3 q4 => ?_, fun i q1 q2 => ?_⟩
  · rw [h.1 i q1 (by omega) t q3 q4]
    exact (dst_congr (n := i) (fun j z1 z2 => hr j z1 (by omega)) (fun _ _ _ => rfl) (fun _ _ _ => rfl) i q1 (Int.le_refl _)).symm
  · rw [(h.2 i q1 (by omega)).1, (h.2 i q1 (by omega)).2]
    exact ⟨(vl_congr (n := i) (fun j z1 z2 => hr j z1 (by omega)) i q1 (Int.le_refl _)).symm, (spI_congr (fun j z1 z2 => hr j z1 (by omega))).symm⟩
