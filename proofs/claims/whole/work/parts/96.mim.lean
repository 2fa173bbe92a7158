/-! rows that are passed over -/
theorem edL_congr {pv pv' pr pr' : Int → Int} {dr : Int} : ∀ k : Nat, (∀ j, 0 ≤ j → j ≤ (k : Int) → pv j = pv' j) → (∀ j, 0 ≤ j → j < (k : Int) → pr j = pr' j) → edL pv dr pr k = edL pv' dr pr' k
  | 0, h, _ => by rw [edL, edL, h 0 (by omega) (by omega)]
  | k + 1, h, h2 => by
    rw [edL, edL, edL_congr k (fun j q1 q2 => h j q1 (by omega)) (fun j q1 q2 => h2 j q1 (by omega)), h k (by omega) (by omega), h ((k : Int) + 1) (by omega) (by omega), h2 k (by omega) (by omega)]
theorem nl_ed {c : Int → Int} {dr i k m : Int} {x y pv pr : Int → Int} (hi : 0 ≤ i) (hk : 0 ≤ k ∧ k ≤ m) (hpv : ∀ j, 0 ≤ j → j ≤ m → pv j = edI c dr x y i j) (hpr : ∀ j, 0 ≤ j → j < m → pr j = c (x i * 4 + y j)) : edL pv dr pr k.toNat = edI c dr x y (i + 1) k := by
  rw [edI_s hi]
  exact edL_congr k.toNat (fun j q1 q2 => hpv j q1 (by omega)) (fun j q1 q2 => hpr j q1 (by omega))
theorem edL_rng {pv pr : Int → Int} {dr m B : Int} (hd : 0 ≤ dr ∧ dr ≤ 9) (hpv : ∀ j, 0 ≤ j → j ≤ m → 0 ≤ pv j ∧ pv j ≤ B) (hpr : ∀ j, 0 ≤ j → j < m → 0 ≤ pr j) : ∀ k, 0 ≤ k → (k ≤ m → 0 ≤ edL pv dr pr k.toNat ∧ edL pv dr pr k.toNat ≤ B + 9) := by
  apply int_ind
  · intro hm
    have := hpv 0 (by omega) hm
    show 0 ≤ pv 0 + dr ∧ pv 0 + dr ≤ B + 9
    omega
  · intro k hk ih hm
    have a := ih (by omega)
    have b := hpv k hk (by omega)
    have d := hpv (k + 1) (by omega) hm
    have e := hpr k hk (by omega)
    rw [edL_s hk]
    unfold mn
    split <;> split <;> omega
theorem miT_r2 {f : Int → Int} : ∀ n, 0 ≤ n → (∀ j, 0 ≤ j → j < n → 0 ≤ f j) → 0 ≤ miT f n ∧ miT f n ≤ 2147483647 := by
  apply int_ind
  · intro _; rw [miT_0]; omega
  · intro n hn ih h
    have a := ih (fun j q1 q2 => h j q1 (by omega))
    have b := h n hn (by omega)
    rw [miT_s hn]
    split <;> omega
theorem vl_app {N : Int} {x : Int → Int} {p : Int} (hN : 0 < N) (hp : 0 ≤ p) : ∀ j, 0 ≤ j → (∀ i, p ≤ i → i < p + j → 0 ≤ x i ∧ x i < N) → vl N x p * N ^ j.toNat ≤ vl N x (p + j) ∧ vl N x (p + j) < (vl N x p + 1) * N ^ j.toNat := by
  apply int_ind
  · intro _
    rw [Int.add_zero, show (0 : Int).toNat = 0 from rfl, Int.pow_zero, Int.mul_one, Int.mul_one]
    omega
  · intro j hj ih h
    have a := ih (fun i q1 q2 => h i q1 (by omega))
    have b := h (p + j) (by omega) (by omega)
    rw [show p + (j + 1) = p + j + 1 by omega, vl_s (by omega), pow_s hj, ← Int.mul_assoc, ← Int.mul_assoc]
    have c1 := Int.mul_le_mul_of_nonneg_right a.1 (show 0 ≤ N by omega)
    have c2 : (vl N x (p + j) + 1) * N ≤ (vl N x p + 1) * N ^ j.toNat * N := Int.mul_le_mul_of_nonneg_right (by omega) (by omega)
    rw [Int.add_mul, Int.one_mul] at c2
    omega
theorem vl_zeros {N : Int} {x : Int → Int} {p : Int} (hp : 0 ≤ p) : ∀ j, 0 ≤ j → (∀ i, p ≤ i → i < p + j → x i = 0) → vl N x (p + j) = vl N x p * N ^ j.toNat := by
  apply int_ind
  · intro _
    rw [Int.add_zero, show (0 : Int).toNat = 0 from rfl, Int.pow_zero, Int.mul_one]
  · intro j hj ih h
    rw [show p + (j + 1) = p + j + 1 by omega, vl_s (by omega), ih (fun i q1 q2 => h i q1 (by omega)), h (p + j) (by omega) (by omega), pow_s hj, ← Int.mul_assoc, Int.add_zero]
theorem pow_add' {N a b : Int} (ha : 0 ≤ a) (hb : 0 ≤ b) : N ^ (a + b).toNat = N ^ a.toNat * N ^ b.toNat := by
  rw [show (a + b).toNat = a.toNat + b.toNat by omega, Int.pow_add]
/-- the number of the first row behind all that begin with the first la + 1 letters of x -/
def nxk (N : Int) (x : Int → Int) (n la : Int) : Int := (vl N x (la + 1) + 1) * N ^ (n - la - 1).toNat
theorem nxk_last {N n k : Int} {x : Int → Int} (h : vl N x n = k) : nxk N x n (n - 1) = k + 1 := by
  unfold nxk
  rw [show n - 1 + 1 = n by omega, show n - (n - 1) - 1 = 0 by omega, show (0 : Int).toNat = 0 from rfl, Int.pow_zero, Int.mul_one, h]
theorem nxk_gt {N n k la : Int} {x : Int → Int} (hN : 0 < N) (hla : 0 ≤ la ∧ la < n) (hx : ∀ i, 0 ≤ i → i < n → 0 ≤ x i ∧ x i < N) (h : vl N x n = k) : k < nxk N x n la ∧ vl N x (la + 1) * N ^ (n - la - 1).toNat ≤ k ∧ nxk N x n la ≤ N ^ n.toNat := by
  have a := vl_app (N := N) (x := x) (p := la + 1) hN (by omega) (n - la - 1) (by omega) (fun i q1 q2 => hx i (by omega) (by omega))
  rw [show la + 1 + (n - la - 1) = n by omega, h] at a
  refine ⟨a.2, a.1, ?_⟩
  have b := (vl_rng (N := N) (n := n) hN hx (la + 1) (by omega) (by omega)).2
  have d : (vl N x (la + 1) + 1) * N ^ (n - la - 1).toNat ≤ N ^ (la + 1).toNat * N ^ (n - la - 1).toNat := Int.mul_le_mul_of_nonneg_right (by omega) (Int.le_of_lt (Int.pow_pos hN))
  rw [← pow_add' (by omega) (by omega), show la + 1 + (n - la - 1) = n by omega] at d
  exact d
/-- rows of one block begin alike -/
theorem dg_block {N n k la : Int} {x : Int → Int} (hN : 0 < N) (hla : 0 ≤ la ∧ la < n) (hx : ∀ i, 0 ≤ i → i < n → 0 ≤ x i ∧ x i < N) (h1 : vl N x (la + 1) * N ^ (n - la - 1).toNat ≤ k) (h2 : k < nxk N x n la) : ∀ i, 0 ≤ i → i ≤ la → dg N n k i = x i := by
  intro i q1 q2
  have hp : (0 : Int) < N ^ (n - la - 1).toNat := Int.pow_pos hN
  have e : k / N ^ (n - la - 1).toNat = vl N x (la + 1) := by
    apply Int.le_antisymm
    · apply Int.le_of_lt_add_one
      exact Int.ediv_lt_of_lt_mul hp h2
    · exact (Int.le_ediv_iff_mul_le hp).mpr h1
  have h3 := vl_dg (N := N) (x := x) hN (la + 1) (by omega) (fun j z1 z2 => hx j z1 (by omega)) i q1 (by omega)
  rw [h3]
  unfold dg
  rw [show n - 1 - i = (n - la - 1) + (la + 1 - 1 - i) by omega, pow_add' (by omega) (by omega), ← Int.ediv_ediv_of_nonneg (Int.le_of_lt hp), e]
theorem adv_skip {N n k la r : Int} {x y : Int → Int} (hN : 2 ≤ N) (hla : 0 ≤ la ∧ la < n) (hk : 0 ≤ k ∧ k < N ^ n.toNat) (hx : ∀ i, 0 ≤ i → i < n → x i = dg N n k i) (hp : ((∀ i, 0 ≤ i → i ≤ la → x i = N - 1) ∧ r = -1) ∨ ((0 ≤ r ∧ r ≤ la) ∧ x r < N - 1 ∧ (∀ i, r < i → i ≤ la → x i = N - 1) ∧ ∀ i, y i = if i = r then x r + 1 else if r < i ∧ i < n then 0 else x i)) :
    (r = -1 ∧ nxk N x n la = N ^ n.toNat) ∨ ((0 ≤ r ∧ r ≤ la) ∧ nxk N x n la < N ^ n.toNat ∧ (∀ i, 0 ≤ i → i < n → y i = dg N n (nxk N x n la) i) ∧ ∀ i, 0 ≤ i → i < r → y i = x i) := by
  have hxr : ∀ i, 0 ≤ i → i < n → 0 ≤ x i ∧ x i < N := fun i q1 q2 => by rw [hx i q1 q2]; exact dg_rng (by omega)
  rcases hp with ⟨h1, h2⟩ | ⟨h1, h2, h3, h4⟩
  · left
    refine ⟨h2, ?_⟩
    unfold nxk
    rw [vl_max (n := la + 1) (fun i q1 q2 => h1 i q1 (by omega)) (la + 1) (by omega) (Int.le_refl _), ← pow_add' (by omega) (by omega), show la + 1 + (n - la - 1) = n by omega]
  · right
    have hyr : ∀ i, 0 ≤ i → i < n → 0 ≤ y i ∧ y i < N := by
      intro i q1 q2
      rw [h4]
      have a := hxr i q1 q2
      have b := hxr r (by omega) (by omega)
      split
      · omega
      · split <;> omega
    have e := vl_next (N := N) (x := x) (y := y) (p := r) (n := la + 1) h1.1 (fun i q1 q2 => by rw [h4, if_neg (by omega), if_neg (by omega)]) (by rw [h4, if_pos rfl]) (fun i q1 q2 => ⟨h3 i q1 (by omega), by rw [h4, if_neg (by omega), if_pos (by omega)]⟩) (la - r) (by omega) (by omega)
    rw [show r + 1 + (la - r) = la + 1 by omega] at e
    have e2 := vl_zeros (N := N) (x := y) (p := la + 1) (by omega) (n - la - 1) (by omega) (fun i q1 q2 => by rw [h4, if_neg (by omega), if_pos (by omega)])
    rw [show la + 1 + (n - la - 1) = n by omega, e] at e2
    have e3 : vl N y n = nxk N x n la := e2
    have hlt := (vl_rng (N := N) (by omega) hyr n (by omega) (Int.le_refl _)).2
    rw [e3] at hlt
    refine ⟨h1, hlt, ?_, fun i q1 q2 => by rw [h4, if_neg (by omega), if_neg (by omega)]⟩
    intro i q1 q2
    rw [← e3]
    exact vl_dg (by omega) n (by omega) hyr i q1 q2
/-! THE MIDDLE: rows by their length, then by their number -/
def Bfr (c : Cfg) (s k n j : Int) : Prop := 1 ≤ n ∧ 0 ≤ j ∧ j < kN c ^ n.toNat ∧ (n < s ∨ (n = s ∧ j < k))
def Fst (c : Cfg) (s k n b : Int) : Prop := Bfr c s k n b ∧ ∀ n' j, Bfr c s k n' j → meS c n b < meS c n' j ∨ (meS c n b = meS c n' j ∧ (n < n' ∨ (n = n' ∧ b ≤ j)))
theorem Fst_one {c : Cfg} {s k n b n' b' : Int} (h : Fst c s k n b) (h2 : Fst c s k n' b') : n = n' ∧ b = b' := by
  have a := h.2 n' b' h2.1
  have d := h2.2 n b h.1
  omega
theorem Fst_skip {c : Cfg} {s k k2 n b : Int} (h : Fst c s k n b) (hk : k ≤ k2) (hm : ∀ j, k ≤ j → j < k2 → j < kN c ^ s.toNat → meS c n b ≤ meS c s j) : Fst c s k2 n b := by
  obtain ⟨⟨a1, a2, a3, a4⟩, h2⟩ := h
  refine ⟨⟨a1, a2, a3, by omega⟩, fun n' j hb => ?_⟩
  obtain ⟨b1, b2, b3, b4⟩ := hb
  by_cases e : n' < s ∨ (n' = s ∧ j < k)
  · exact h2 n' j ⟨b1, b2, b3, e⟩
  · have e2 : n' = s := by omega
    rw [e2] at b3 ⊢
    have := hm j (by omega) (by omega) b3
    omega
theorem Fst_new {c : Cfg} {s k : Int} (hs : 1 ≤ s) (hk : 0 ≤ k ∧ k < kN c ^ s.toNat) (h : ∀ n' j, Bfr c s k n' j → meS c s k < meS c n' j) : Fst c s (k + 1) s k := by
  refine ⟨⟨hs, hk.1, hk.2, by omega⟩, fun n' j hb => ?_⟩
  obtain ⟨b1, b2, b3, b4⟩ := hb
  by_cases e : n' < s ∨ (n' = s ∧ j < k)
  · exact Or.inl (h n' j ⟨b1, b2, b3, e⟩)
  · have e2 : n' = s := by omega
    have e3 : j = k := by omega
    rw [e2, e3]
    exact Or.inr ⟨rfl, by omega⟩
theorem Bfr_next {c : Cfg} {s n j : Int} : Bfr c s (kN c ^ s.toNat) n j ↔ Bfr c (s + 1) 0 n j := by
  constructor
  · rintro ⟨a, b, d, e⟩
    exact ⟨a, b, d, by omega⟩
  · rintro ⟨a, b, d, e⟩
    refine ⟨a, b, d, ?_⟩
    by_cases g : n < s
    · exact Or.inl g
    · have g2 : n = s := by omega
      rw [g2] at d ⊢
      exact Or.inr ⟨rfl, d⟩
theorem Fst_next {c : Cfg} {s n b : Int} (h : Fst c s (kN c ^ s.toNat) n b) : Fst c (s + 1) 0 n b := ⟨Bfr_next.mp h.1, fun n' j hb => h.2 n' j (Bfr_next.mpr hb)⟩
/-- what the class's search has found: U is a sum that is not yet beaten -/
def MiC (c : Cfg) (U s ln : Int) (f : Int → Int) (sz k : Int) : Prop := (s = U ∧ ∀ n' j, Bfr c sz k n' j → U ≤ meS c n' j) ∨ ∃ n b, Fst c sz k n b ∧ s = meS c n b ∧ ln = n ∧ ∀ i, 0 ≤ i → i < n → f i = dg (kN c) n b i
theorem MiC_0 {c : Cfg} {U ln : Int} {f : Int → Int} : MiC c U U ln f 1 0 := Or.inl ⟨rfl, fun n' j h => by obtain ⟨a, b, d, e⟩ := h; omega⟩
theorem MiC_skip {c : Cfg} {U s ln sz k k2 : Int} {f : Int → Int} (h : MiC c U s ln f sz k) (hk : k ≤ k2) (hm : ∀ j, k ≤ j → j < k2 → j < kN c ^ sz.toNat → s ≤ meS c sz j) : MiC c U s ln f sz k2 := by
  rcases h with ⟨a, b⟩ | ⟨n, b, a, d, e, g⟩
  · refine Or.inl ⟨a, fun n' j hb => ?_⟩
    obtain ⟨b1, b2, b3, b4⟩ := hb
    by_cases e : n' < sz ∨ (n' = sz ∧ j < k)
    · exact b n' j ⟨b1, b2, b3, e⟩
    · have e2 : n' = sz := by omega
      rw [e2] at b3 ⊢
      have := hm j (by omega) (by omega) b3
      omega
  · exact Or.inr ⟨n, b, Fst_skip a hk (fun j q1 q2 q3 => by rw [← d]; exact hm j q1 q2 q3), d, e, g⟩
theorem MiC_new {c : Cfg} {U s ln sz k : Int} {f f' : Int → Int} (h : MiC c U s ln f sz k) (hs : 1 ≤ sz) (hk : 0 ≤ k ∧ k < kN c ^ sz.toNat) (hlt : meS c sz k < s) (hf : ∀ i, 0 ≤ i → i < sz → f' i = dg (kN c) sz k i) : MiC c U (meS c sz k) sz f' sz (k + 1) := by
  refine Or.inr ⟨sz, k, Fst_new hs hk (fun n' j hb => ?_), rfl, rfl, hf⟩
  rcases h with ⟨a, b⟩ | ⟨n, b, a, d, -, -⟩
  · have := b n' j hb; omega
  · have := a.2 n' j hb; omega
theorem MiC_next {c : Cfg} {U s ln sz : Int} {f : Int → Int} (h : MiC c U s ln f sz (kN c ^ sz.toNat)) : MiC c U s ln f (sz + 1) 0 := by
  rcases h with ⟨a, b⟩ | ⟨n, b, a, d⟩
  · exact Or.inl ⟨a, fun n' j hb => b n' j (Bfr_next.mpr hb)⟩
  · exact Or.inr ⟨n, b, Fst_next a, d⟩
theorem MiC_rng {c : Cfg} (hW : WfK c) {U s ln sz k : Int} {f : Int → Int} (hU : 0 ≤ U ∧ U ≤ 5000) (hsz : sz ≤ 9) (hk : sz = 9 → k = 0) (h : MiC c U s ln f sz k) : 0 ≤ s ∧ s ≤ 5000 := by
  rcases h with ⟨a, b⟩ | ⟨n, b, ⟨⟨a1, a2, a3, a4⟩, -⟩, d, -⟩
  · omega
  · have := meS_rng hW (n := n) (k := b) (by omega)
    omega
/-- the reference's -/
def MiR (c : Cfg) (s ln : Int) (f : Int → Int) (sz k : Int) : Prop := (ln = 0 ∧ ∀ n' j, ¬ Bfr c sz k n' j) ∨ ∃ n b, Fst c sz k n b ∧ s = meS c n b ∧ ln = n ∧ ∀ i, 0 ≤ i → i < n → f i = dg (kN c) n b i
theorem MiR_0 {c : Cfg} {s : Int} {f : Int → Int} : MiR c s 0 f 1 0 := Or.inl ⟨rfl, fun n' j h => by obtain ⟨a, b, d, e⟩ := h; omega⟩
theorem MiR_keep {c : Cfg} {s ln sz k : Int} {f : Int → Int} (h : MiR c s ln f sz k) (hln : ln ≠ 0) (hm : s ≤ meS c sz k) : MiR c s ln f sz (k + 1) := by
  rcases h with ⟨a, b⟩ | ⟨n, b, a, d, e, g⟩
  · exact absurd a hln
  · exact Or.inr ⟨n, b, Fst_skip a (by omega) (fun j q1 q2 q3 => by rw [show j = k by omega, ← d]; exact hm), d, e, g⟩
theorem MiR_new {c : Cfg} {s ln sz k : Int} {f f' : Int → Int} (h : MiR c s ln f sz k) (hs : 1 ≤ sz) (hk : 0 ≤ k ∧ k < kN c ^ sz.toNat) (hlt : ln = 0 ∨ meS c sz k < s) (hf : ∀ i, 0 ≤ i → i < sz → f' i = dg (kN c) sz k i) : MiR c (meS c sz k) sz f' sz (k + 1) := by
  refine Or.inr ⟨sz, k, Fst_new hs hk (fun n' j hb => ?_), rfl, rfl, hf⟩
  rcases h with ⟨a, b⟩ | ⟨n, b, a, d, e, -⟩
  · exact absurd hb (b n' j)
  · have := a.2 n' j hb
    have := a.1.1
    omega
theorem MiR_next {c : Cfg} {s ln sz : Int} {f : Int → Int} (h : MiR c s ln f sz (kN c ^ sz.toNat)) : MiR c s ln f (sz + 1) 0 := by
  rcases h with ⟨a, b⟩ | ⟨n, b, a, d⟩
  · exact Or.inl ⟨a, fun n' j hb => b n' j (Bfr_next.mpr hb)⟩
  · exact Or.inr ⟨n, b, Fst_next a, d⟩
theorem MiR_rng {c : Cfg} (hW : WfK c) {s ln sz k : Int} {f : Int → Int} (hsz : sz ≤ 9) (hk : sz = 9 → k = 0) (h : MiR c s ln f sz k) : (0 ≤ ln ∧ ln ≤ 8) ∧ (ln ≠ 0 → 0 ≤ s ∧ s ≤ 1080) := by
  rcases h with ⟨a, b⟩ | ⟨n, b, ⟨⟨a1, a2, a3, a4⟩, -⟩, d, e, -⟩
  · omega
  · have := meS_rng hW (n := n) (k := b) (by omega)
    omega
/-- all is done -/
def MdS (c : Cfg) (s ln : Int) (f : Int → Int) : Prop := ∃ n b, Fst c 9 0 n b ∧ s = meS c n b ∧ ln = n ∧ ∀ i, 0 ≤ i → i < n → f i = dg (kN c) n b i
theorem MdS_rng {c : Cfg} (hW : WfK c) {s ln : Int} {f : Int → Int} (h : MdS c s ln f) : (0 ≤ s ∧ s ≤ 1080) ∧ (1 ≤ ln ∧ ln ≤ 8) ∧ ∀ i, 0 ≤ i → i < ln → 0 ≤ f i ∧ f i ≤ 3 := by
  obtain ⟨n, b, ⟨⟨a1, a2, a3, a4⟩, -⟩, d, e, g⟩ := h
  have := meS_rng hW (n := n) (k := b) (by omega)
  refine ⟨by omega, by omega, fun i q1 q2 => ?_⟩
  rw [g i q1 (by omega)]
  exact dgc_rng hW
theorem MdS_one {c : Cfg} {s ln s' ln' : Int} {f f' : Int → Int} (h : MdS c s ln f) (h2 : MdS c s' ln' f') : s = s' ∧ ln = ln' ∧ ∀ i, 0 ≤ i → i < ln → f i = f' i := by
  obtain ⟨n, b, a, d, e, g⟩ := h
  obtain ⟨n2, b2, a2, d2, e2, g2⟩ := h2
  obtain ⟨z1, z2⟩ := Fst_one a a2
  subst z1
  subst z2
  refine ⟨by omega, by omega, fun i q1 q2 => ?_⟩
  rw [g i q1 (by omega), g2 i q1 (by omega)]
/-- THE MIDDLE's sum, its length, its letters -/
def PMs (c : Cfg) (r : Int) : Prop := (nrB c = 0 ∧ r = -1) ∨ (nrB c ≠ 0 ∧ ∃ ln f, MdS c r ln f)
def PMl (c : Cfg) (r : Int) : Prop := (nrB c = 0 ∧ r = -1) ∨ (nrB c ≠ 0 ∧ ∃ s f, MdS c s r f)
def PMa (c : Cfg) (i r : Int) : Prop := (nrB c = 0 ∧ r = -1) ∨ (nrB c ≠ 0 ∧ ∃ s ln f, MdS c s ln f ∧ r = if 0 ≤ i ∧ i < ln then f i else -1)
theorem PMs_one {c : Cfg} {r s : Int} (h : PMs c r) (h2 : PMs c s) : r = s := by
  rcases h with ⟨a, b⟩ | ⟨a, l, f, b⟩ <;> rcases h2 with ⟨a2, b2⟩ | ⟨a2, l2, f2, b2⟩
  · omega
  · exact absurd a a2
  · exact absurd a2 a
  · exact (MdS_one b b2).1
theorem PMl_one {c : Cfg} {r s : Int} (h : PMl c r) (h2 : PMl c s) : r = s := by
  rcases h with ⟨a, b⟩ | ⟨a, l, f, b⟩ <;> rcases h2 with ⟨a2, b2⟩ | ⟨a2, l2, f2, b2⟩
  · omega
  · exact absurd a a2
  · exact absurd a2 a
  · exact (MdS_one b b2).2.1
theorem PMa_one {c : Cfg} {i r s : Int} (h : PMa c i r) (h2 : PMa c i s) : r = s := by
  rcases h with ⟨a, b⟩ | ⟨a, u, l, f, b, e⟩ <;> rcases h2 with ⟨a2, b2⟩ | ⟨a2, u2, l2, f2, b2, e2⟩
  · omega
  · exact absurd a a2
  · exact absurd a2 a
  · obtain ⟨z1, z2, z3⟩ := MdS_one b b2
    rw [e, e2, ← z2]
    split
    · rename_i g; exact z3 i g.1 g.2
    · rfl
theorem MiC_end {c : Cfg} {U s ln : Int} {f : Int → Int} {n b : Int} (h : MiC c U s ln f 9 0) (hb : Bfr c 9 0 n b) (hU : meS c n b < U) : MdS c s ln f := by
  rcases h with ⟨a, d⟩ | ⟨n2, b2, a, d⟩
  · have := d n b hb; omega
  · exact ⟨n2, b2, a, d⟩
theorem MiR_end {c : Cfg} (hW : WfK c) {s ln : Int} {f : Int → Int} (h : MiR c s ln f 9 0) : MdS c s ln f := by
  rcases h with ⟨a, d⟩ | h
  · refine absurd ⟨Int.le_refl 1, Int.le_refl 0, ?_, Or.inl (by decide)⟩ (d 1 0)
    exact Int.pow_pos (by have := hW.1; omega)
  · exact h
/-- a word is a row -/
theorem word_row {c : Cfg} (hW : WfK c) {w : Int} (hw : 0 ≤ w ∧ w < kW c) : Bfr c 9 0 (kL c) (vl (kN c) (fun i => kWl c (w * 7 + i)) (kL c)) ∧ meS c (kL c) (vl (kN c) (fun i => kWl c (w * 7 + i)) (kL c)) = meX c (fun i => kWl c (w * 7 + i)) (kL c) := by
  obtain ⟨h1, h2, h3, h4, h5, h6, h7, h8, h9, h10⟩ := hW
  have hl := h8 (by omega)
  have hr := vl_rng (N := kN c) (x := fun i => kWl c (w * 7 + i)) (n := kL c) (by omega) (fun i q1 q2 => h9 w i hw.1 hw.2 q1 q2) (kL c) h7.1 (Int.le_refl _)
  refine ⟨⟨hl, hr.1, hr.2, by omega⟩, ?_⟩
  exact meX_congr h7.1 h7.1 (fun i q1 q2 => (vl_dg (N := kN c) (by omega) (kL c) h7.1 (fun i q1 q2 => h9 w i hw.1 hw.2 q1 q2) i q1 q2).symm)
