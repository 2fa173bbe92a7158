/-! EDITS -/
def edL (pv : Int → Int) (dr : Int) (pr : Int → Int) : Nat → Int
  | 0 => pv 0 + dr
  | k + 1 => mn (pv (k : Int) + pr (k : Int)) (mn (pv ((k : Int) + 1)) (edL pv dr pr k) + dr)
def edN (c : Int → Int) (dr : Int) (x y : Int → Int) : Nat → Int → Int
  | 0 => fun k => k * dr
  | i + 1 => fun k => edL (edN c dr x y i) dr (fun j => c (x (i : Int) * 4 + y j)) k.toNat
def edI (c : Int → Int) (dr : Int) (x y : Int → Int) (i k : Int) : Int := edN c dr x y i.toNat k
theorem edL_s {pv pr : Int → Int} {dr k : Int} (h : 0 ≤ k) : edL pv dr pr (k + 1).toNat = mn (pv k + pr k) (mn (pv (k + 1)) (edL pv dr pr k.toNat) + dr) := by
  rw [show (k + 1).toNat = k.toNat + 1 by omega, edL, Int.toNat_of_nonneg h]
theorem edI_0 {c : Int → Int} {dr k : Int} {x y : Int → Int} : edI c dr x y 0 k = k * dr := rfl
theorem edI_s {c : Int → Int} {dr i k : Int} {x y : Int → Int} (hi : 0 ≤ i) : edI c dr x y (i + 1) k = edL (edI c dr x y i) dr (fun j => c (x i * 4 + y j)) k.toNat := by
  unfold edI
  rw [show (i + 1).toNat = i.toNat + 1 by omega, edN, Int.toNat_of_nonneg hi]
theorem edI_s0 {c : Int → Int} {dr i : Int} {x y : Int → Int} (hi : 0 ≤ i) : edI c dr x y (i + 1) 0 = edI c dr x y i 0 + dr := by
  rw [edI_s hi]
  rfl
theorem edI_ss {c : Int → Int} {dr i k : Int} {x y : Int → Int} (hi : 0 ≤ i) (hk : 0 ≤ k) : edI c dr x y (i + 1) (k + 1) = mn (edI c dr x y i k + c (x i * 4 + y k)) (mn (edI c dr x y i (k + 1)) (edI c dr x y (i + 1) k) + dr) := by
  rw [edI_s hi, edL_s hk, ← edI_s hi]
theorem edI_z {c : Int → Int} {dr : Int} {x y : Int → Int} : ∀ i, 0 ≤ i → edI c dr x y i 0 = i * dr := by
  apply int_ind
  · rfl
  · intro i hi ih
    rw [edI_s0 hi, ih, Int.add_mul, Int.one_mul]
theorem mn_le {a b : Int} : mn a b ≤ a ∧ mn a b ≤ b := by
  unfold mn
  split <;> omega
theorem mn_or {a b : Int} : mn a b = a ∨ mn a b = b := by
  unfold mn
  split
  · exact Or.inl rfl
  · exact Or.inr rfl
theorem edI_congr {c : Int → Int} {dr : Int} {x y x' y' : Int → Int} {n m : Int} (hx : ∀ i, 0 ≤ i → i < n → x i = x' i) (hy : ∀ k, 0 ≤ k → k < m → y k = y' k) : ∀ i, 0 ≤ i → i ≤ n → ∀ k, 0 ≤ k → k ≤ m → edI c dr x y i k = edI c dr x' y' i k := by
  have key : ∀ i, 0 ≤ i → (i ≤ n → ∀ k, 0 ≤ k → k ≤ m → edI c dr x y i k = edI c dr x' y' i k) := by
    apply int_ind
    · intro _ k _ _; rw [edI_0, edI_0]
    · intro i hi ih hn
      have ih := ih (by omega)
      have k2 : ∀ k, 0 ≤ k → (k ≤ m → edI c dr x y (i + 1) k = edI c dr x' y' (i + 1) k) := by
        apply int_ind
        · intro hm; rw [edI_s0 hi, edI_s0 hi, ih 0 (by omega) (by omega)]
        · intro k hk ihk hm
          rw [edI_ss hi hk, edI_ss hi hk, ih k hk (by omega), ih (k + 1) (by omega) hm, ihk (by omega), hx i hi (by omega), hy k hk (by omega)]
      intro k hk hm
      exact k2 k hk hm
  intro i h1 h2
  exact key i h1 h2
theorem edI_rng {c : Int → Int} {dr : Int} {x y : Int → Int} {n m : Int} (hd : 0 ≤ dr ∧ dr ≤ 9) (hc : ∀ i k, 0 ≤ i → i < n → 0 ≤ k → k < m → 0 ≤ c (x i * 4 + y k)) : ∀ i, 0 ≤ i → i ≤ n → ∀ k, 0 ≤ k → k ≤ m → 0 ≤ edI c dr x y i k ∧ edI c dr x y i k ≤ 9 * (i + k) := by
  have key : ∀ i, 0 ≤ i → (i ≤ n → ∀ k, 0 ≤ k → k ≤ m → 0 ≤ edI c dr x y i k ∧ edI c dr x y i k ≤ 9 * (i + k)) := by
    apply int_ind
    · intro _ k hk _
      rw [edI_0]
      have h1 : 0 ≤ k * dr := Int.mul_nonneg hk hd.1
      have h2 : k * dr ≤ k * 9 := Int.mul_le_mul_of_nonneg_left hd.2 hk
      omega
    · intro i hi ih hn
      have ih := ih (by omega)
      have k2 : ∀ k, 0 ≤ k → (k ≤ m → 0 ≤ edI c dr x y (i + 1) k ∧ edI c dr x y (i + 1) k ≤ 9 * (i + 1 + k)) := by
        apply int_ind
        · intro hm
          have := ih 0 (by omega) (by omega)
          rw [edI_s0 hi]; omega
        · intro k hk ihk hm
          have a := ih k hk (by omega)
          have b := ih (k + 1) (by omega) hm
          have d := ihk (by omega)
          have e := hc i k hi (by omega) hk (by omega)
          rw [edI_ss hi hk]
          unfold mn
          split <;> split <;> omega
      intro k hk hm
      exact k2 k hk hm
  intro i h1 h2
  exact key i h1 h2
def ab (t : Int) : Int := if t < 0 then -t else t
theorem ab_0 {t : Int} (h : t = 0) : ab t = 0 := by rw [h]; rfl
theorem ab_nn (t : Int) : 0 ≤ ab t := by unfold ab; split <;> omega
theorem ab_mul {t u dr : Int} (hd : 0 ≤ dr) (h : ab t ≤ ab u + 1) : ab t * dr ≤ ab u * dr + dr := by
  have h1 := Int.mul_le_mul_of_nonneg_right h hd
  rw [Int.add_mul, Int.one_mul] at h1
  exact h1
/-- what a row comes to at the least, behind its first i letters -/
theorem ed_low {c : Int → Int} {dr : Int} {x y : Int → Int} {n m i : Int} (hd : 0 ≤ dr) (hi : 0 ≤ i) (hc : ∀ i k, 0 ≤ i → i < n → 0 ≤ k → k < m → 0 ≤ c (x i * 4 + y k)) : ∀ e, 0 ≤ e → (i + e ≤ n → ∀ k, 0 ≤ k → k ≤ m → ∃ j, (0 ≤ j ∧ j ≤ k) ∧ edI c dr x y i j + ab (k - j - e) * dr ≤ edI c dr x y (i + e) k) := by
  apply int_ind
  · intro _ k hk _
    refine ⟨k, by omega, ?_⟩
    rw [ab_0 (by omega), Int.zero_mul, Int.add_zero, Int.add_zero]
    exact Int.le_refl _
  · intro e he ih hn
    have ih := ih (by omega)
    have k2 : ∀ k, 0 ≤ k → (k ≤ m → ∃ j, (0 ≤ j ∧ j ≤ k) ∧ edI c dr x y i j + ab (k - j - (e + 1)) * dr ≤ edI c dr x y (i + (e + 1)) k) := by
      apply int_ind
      · intro hm
        obtain ⟨j, j1, j2⟩ := ih 0 (by omega) (by omega)
        refine ⟨j, j1, ?_⟩
        rw [show i + (e + 1) = i + e + 1 by omega, edI_s0 (by omega)]
        have h1 := ab_mul (t := 0 - j - (e + 1)) (u := 0 - j - e) hd (by unfold ab; split <;> split <;> omega)
        omega
      · intro k hk ihk hm
        rw [show i + (e + 1) = i + e + 1 by omega, edI_ss (by omega) hk]
        rcases mn_or (a := edI c dr x y (i + e) k + c (x (i + e) * 4 + y k)) (b := mn (edI c dr x y (i + e) (k + 1)) (edI c dr x y (i + e + 1) k) + dr) with q | q
        · rw [q]
          obtain ⟨j, j1, j2⟩ := ih k hk (by omega)
          have h1 := hc (i + e) k (by omega) (by omega) hk (by omega)
          refine ⟨j, by omega, ?_⟩
          rw [show k + 1 - j - (e + 1) = k - j - e by omega]
          omega
        · rw [q]
          rcases mn_or (a := edI c dr x y (i + e) (k + 1)) (b := edI c dr x y (i + e + 1) k) with z | z
          · rw [z]
            obtain ⟨j, j1, j2⟩ := ih (k + 1) (by omega) hm
            refine ⟨j, j1, ?_⟩
            have h1 := ab_mul (t := k + 1 - j - (e + 1)) (u := k + 1 - j - e) hd (by unfold ab; split <;> split <;> omega)
            omega
          · rw [z]
            obtain ⟨j, j1, j2⟩ := ihk (by omega)
            rw [show i + (e + 1) = i + e + 1 by omega] at j2
            refine ⟨j, by omega, ?_⟩
            have h1 := ab_mul (t := k + 1 - j - (e + 1)) (u := k - j - (e + 1)) hd (by unfold ab; split <;> split <;> omega)
            omega
    intro k hk hm
    exact k2 k hk hm
/-- the last place of a line is the least, with what is still to come -/
theorem ed_end {c : Int → Int} {dr : Int} {x y : Int → Int} {i j : Int} (hi : 0 ≤ i) (hj : 0 ≤ j) (hd : 0 ≤ dr) : ∀ e, 0 ≤ e → edI c dr x y i (j + e) ≤ edI c dr x y i j + e * dr := by
  apply int_ind
  · rw [Int.add_zero, Int.zero_mul, Int.add_zero]; exact Int.le_refl _
  · intro e he ih
    rw [Int.add_mul, Int.one_mul]
    rcases Int.lt_or_le 0 i with q | q
    · have h1 := edI_ss (c := c) (dr := dr) (x := x) (y := y) (i := i - 1) (k := j + e) (by omega) (by omega)
      rw [show i - 1 + 1 = i by omega] at h1
      rw [show j + (e + 1) = j + e + 1 by omega, h1]
      have h2 := (mn_le (a := edI c dr x y (i - 1) (j + e) + c (x (i - 1) * 4 + y (j + e))) (b := mn (edI c dr x y (i - 1) (j + e + 1)) (edI c dr x y i (j + e)) + dr)).2
      have h3 := (mn_le (a := edI c dr x y (i - 1) (j + e + 1)) (b := edI c dr x y i (j + e))).2
      omega
    · rw [show i = 0 by omega] at ih ⊢
      rw [edI_0, edI_0] at ih ⊢
      rw [show j + (e + 1) = j + e + 1 by omega, Int.add_mul (j + e), Int.one_mul]
      omega
/-- the least of a row of numbers -/
def miN (f : Int → Int) : Nat → Int
  | 0 => 2147483647
  | n + 1 => if f (n : Int) < miN f n then f (n : Int) else miN f n
def miT (f : Int → Int) (n : Int) : Int := miN f n.toNat
theorem miT_0 {f : Int → Int} : miT f 0 = 2147483647 := rfl
theorem miT_s {f : Int → Int} {n : Int} (h : 0 ≤ n) : miT f (n + 1) = if f n < miT f n then f n else miT f n := by
  unfold miT
  rw [show (n + 1).toNat = n.toNat + 1 by omega, miN, Int.toNat_of_nonneg h]
theorem miT_le {f : Int → Int} : ∀ n, 0 ≤ n → ∀ j, 0 ≤ j → j < n → miT f n ≤ f j := by
  apply int_ind
  · intro j h1 h2; omega
  · intro n hn ih j h1 h2
    rw [miT_s hn]
    by_cases e : j = n
    · subst e; split <;> omega
    · have := ih j h1 (by omega)
      split <;> omega
theorem miT_is {f : Int → Int} : ∀ n, 0 ≤ n → miT f n = 2147483647 ∨ ∃ j, (0 ≤ j ∧ j < n) ∧ miT f n = f j := by
  apply int_ind
  · exact Or.inl rfl
  · intro n hn ih
    rw [miT_s hn]
    split
    · exact Or.inr ⟨n, by omega, rfl⟩
    · rcases ih with h | ⟨j, h1, h2⟩
      · exact Or.inl h
      · exact Or.inr ⟨j, by omega, h2⟩
theorem miT_rng {f : Int → Int} {n B : Int} (hn : 0 < n) (hB : B < 2147483647) (h : ∀ j, 0 ≤ j → j < n → 0 ≤ f j ∧ f j ≤ B) : (0 ≤ miT f n ∧ miT f n ≤ B) ∧ ∃ j, (0 ≤ j ∧ j < n) ∧ miT f n = f j := by
  have h0 := h 0 (by omega) hn
  have h1 := miT_le (f := f) n (by omega) 0 (by omega) hn
  rcases miT_is (f := f) n (by omega) with e | ⟨j, j1, j2⟩
  · omega
  · have := h j j1.1 j1.2
    exact ⟨by omega, j, j1, j2⟩
theorem miT_congr {f g : Int → Int} : ∀ n, 0 ≤ n → (∀ j, 0 ≤ j → j < n → f j = g j) → miT f n = miT g n := by
  apply int_ind
  · intro _; rfl
  · intro n hn ih h
    rw [miT_s hn, miT_s hn, ih (fun j q1 q2 => h j q1 (by omega)), h n hn (by omega)]
/-! EDITS of a row to a WORD, their sum over NEAR WORDS -/
def edW (c : Cfg) (x : Int → Int) (w i k : Int) : Int := edI (kC c) (kDr c) x (fun j => kWl c (w * 7 + j)) i k
def meX (c : Cfg) (x : Int → Int) (n : Int) : Int := smW (fun w => edW c x w n (kL c)) (kP c) (kW c).toNat
def meS (c : Cfg) (n k : Int) : Int := meX c (dg (kN c) n k) n
theorem edW_nn {c : Cfg} (hW : WfK c) {x : Int → Int} {n w : Int} (hw : 0 ≤ w ∧ w < kW c) (hx : ∀ i, 0 ≤ i → i < n → 0 ≤ x i ∧ x i ≤ 3) : ∀ i k, 0 ≤ i → i < n → 0 ≤ k → k < kL c → 0 ≤ kC c (x i * 4 + (fun j => kWl c (w * 7 + j)) k) := by
  obtain ⟨h1, h2, h3, h4, h5, h6, h7, h8, h9, h10⟩ := hW
  intro i k q1 q2 q3 q4
  have a := hx i q1 q2
  have b := h9 w k hw.1 hw.2 q3 q4
  have d := h5 (x i) (kWl c (w * 7 + k)) a.1 a.2 b.1 (by omega)
  show 0 ≤ kC c (x i * 4 + kWl c (w * 7 + k))
  by_cases e : x i = kWl c (w * 7 + k)
  · have := d.1 e; omega
  · have := d.2 e; omega
theorem edW_rng {c : Cfg} (hW : WfK c) {x : Int → Int} {n w : Int} (hw : 0 ≤ w ∧ w < kW c) (hx : ∀ i, 0 ≤ i → i < n → 0 ≤ x i ∧ x i ≤ 3) : ∀ i, 0 ≤ i → i ≤ n → ∀ k, 0 ≤ k → k ≤ kL c → 0 ≤ edW c x w i k ∧ edW c x w i k ≤ 9 * (i + k) := by
  have h3 := hW.2.2.1
  exact edI_rng (by omega) (edW_nn hW hw hx)
theorem edW_congr {c : Cfg} {x x' : Int → Int} {n w : Int} (hx : ∀ i, 0 ≤ i → i < n → x i = x' i) : ∀ i, 0 ≤ i → i ≤ n → ∀ k, 0 ≤ k → edW c x w i k = edW c x' w i k := fun i h1 h2 k h3 => edI_congr (n := n) (m := k) hx (fun _ _ _ => rfl) i h1 h2 k h3 (Int.le_refl _)
theorem smW_congr {f g p : Int → Int} : ∀ n : Nat, (∀ w : Int, 0 ≤ w → w < (n : Int) → p w = 1 → f w = g w) → smW f p n = smW g p n
  | 0, _ => rfl
  | n + 1, h => by
    rw [smW, smW, smW_congr n (fun w q1 q2 => h w q1 (by omega))]
    by_cases e : p (n : Int) = 1
    · rw [if_pos e, if_pos e, h n (by omega) (by omega) e]
    · rw [if_neg e, if_neg e]
theorem smW_le {f g p : Int → Int} : ∀ n : Nat, (∀ w : Int, 0 ≤ w → w < (n : Int) → p w = 1 → f w ≤ g w) → smW f p n ≤ smW g p n
  | 0, _ => Int.le_refl _
  | n + 1, h => by
    have ih := smW_le (f := f) (g := g) (p := p) n (fun w q1 q2 => h w q1 (by omega))
    rw [smW, smW]
    by_cases e : p (n : Int) = 1
    · rw [if_pos e, if_pos e]
      have := h n (by omega) (by omega) e
      omega
    · rw [if_neg e, if_neg e]; exact ih
theorem smW_up {f p : Int → Int} {a : Nat} : ∀ b : Nat, a ≤ b → (∀ w : Int, 0 ≤ w → w < (b : Int) → p w = 1 → 0 ≤ f w) → smW f p a ≤ smW f p b := by
  intro b
  induction b with
  | zero => intro h _; rw [show a = 0 by omega]; exact Int.le_refl _
  | succ b ih =>
    intro h hf
    by_cases e : a = b + 1
    · rw [e]; exact Int.le_refl _
    · have h1 := ih (by omega) (fun w q1 q2 => hf w q1 (by omega))
      rw [smW]
      split
      · rename_i g
        have := hf b (by omega) (by omega) g
        omega
      · exact h1
theorem smW_rng {f p : Int → Int} {B : Int} (hB : 0 ≤ B) : ∀ n : Nat, (∀ w : Int, 0 ≤ w → w < (n : Int) → p w = 1 → 0 ≤ f w ∧ f w ≤ B) → 0 ≤ smW f p n ∧ smW f p n ≤ B * (n : Int)
  | 0, _ => by rw [smW]; simp
  | n + 1, h => by
    have ih := smW_rng (f := f) (p := p) hB n (fun w q1 q2 => h w q1 (by omega))
    rw [smW, show ((n + 1 : Nat) : Int) = (n : Int) + 1 by omega, Int.mul_add, Int.mul_one]
    split
    · rename_i g
      have := h n (by omega) (by omega) g
      omega
    · omega
theorem meX_rng {c : Cfg} (hW : WfK c) {x : Int → Int} {n : Int} (hn : 0 ≤ n ∧ n ≤ 8) (hx : ∀ i, 0 ≤ i → i < n → 0 ≤ x i ∧ x i ≤ 3) : 0 ≤ meX c x n ∧ meX c x n ≤ 1080 := by
  have hw := hW.2.2.2.2.2.1
  have hl := hW.2.2.2.2.2.2.1
  have h := smW_rng (f := fun w => edW c x w n (kL c)) (p := kP c) (B := 135) (by decide) (kW c).toNat (fun w q1 q2 _ => by
    have := edW_rng hW (w := w) ⟨q1, by omega⟩ hx n hn.1 (Int.le_refl _) (kL c) hl.1 (Int.le_refl _)
    show 0 ≤ edW c x w n (kL c) ∧ edW c x w n (kL c) ≤ 135
    omega)
  show 0 ≤ smW _ _ _ ∧ smW _ _ _ ≤ 1080
  omega
theorem dgc_rng {c : Cfg} (hW : WfK c) {n k i : Int} : 0 ≤ dg (kN c) n k i ∧ dg (kN c) n k i ≤ 3 := by
  have h1 := hW.1
  have h2 := dg_rng (N := kN c) (n := n) (k := k) (i := i) (by omega)
  omega
theorem meS_rng {c : Cfg} (hW : WfK c) {n k : Int} (hn : 0 ≤ n ∧ n ≤ 8) : 0 ≤ meS c n k ∧ meS c n k ≤ 1080 := meX_rng hW hn (fun _ _ _ => dgc_rng hW)
theorem meX_congr {c : Cfg} {x x' : Int → Int} {n : Int} (hn : 0 ≤ n) (hl : 0 ≤ kL c) (hx : ∀ i, 0 ≤ i → i < n → x i = x' i) : meX c x n = meX c x' n := smW_congr _ (fun w _ _ _ => edW_congr hx n hn (Int.le_refl _) (kL c) hl)
/-- a bound: i letters are known, more are to come -/
def lbW (c : Cfg) (x : Int → Int) (i more w : Int) : Int := miT (fun j => edW c x w i j + ab (kL c - j - more) * kDr c) (kL c + 1)
theorem lb_rng {c : Cfg} (hW : WfK c) {x : Int → Int} {i more w : Int} (hi : 0 ≤ i ∧ i ≤ 8) (hm : 0 ≤ more ∧ more ≤ 8) (hw : 0 ≤ w ∧ w < kW c) (hx : ∀ t, 0 ≤ t → t < i → 0 ≤ x t ∧ x t ≤ 3) : 0 ≤ lbW c x i more w ∧ lbW c x i more w ≤ 207 := by
  have hl := hW.2.2.2.2.2.2.1
  have hd := hW.2.2.1
  refine (miT_rng (f := fun j => edW c x w i j + ab (kL c - j - more) * kDr c) (n := kL c + 1) (B := 207) (by omega) (by decide) (fun j q1 q2 => ?_)).1
  have h1 := edW_rng hW hw hx i hi.1 (Int.le_refl _) j q1 (by omega)
  have h2 := ab_nn (kL c - j - more)
  have h3 : 0 ≤ ab (kL c - j - more) * kDr c := Int.mul_nonneg h2 (by omega)
  have h5 : ab (kL c - j - more) ≤ 8 := by unfold ab; split <;> omega
  have h6 : ab (kL c - j - more) * kDr c ≤ 8 * 9 := Int.mul_le_mul h5 hd.2 (by omega) (by decide)
  show 0 ≤ edW c x w i j + ab (kL c - j - more) * kDr c ∧ edW c x w i j + ab (kL c - j - more) * kDr c ≤ 207
  omega
theorem lb_le {c : Cfg} (hW : WfK c) {x : Int → Int} {i n w : Int} (hi : 0 ≤ i ∧ i ≤ n) (hw : 0 ≤ w ∧ w < kW c) (hx : ∀ t, 0 ≤ t → t < n → 0 ≤ x t ∧ x t ≤ 3) : lbW c x i (n - i) w ≤ edW c x w n (kL c) := by
  have hl := hW.2.2.2.2.2.2.1
  have hd := hW.2.2.1
  obtain ⟨j, j1, j2⟩ := ed_low (c := kC c) (dr := kDr c) (x := x) (y := fun j => kWl c (w * 7 + j)) (n := n) (m := kL c) (i := i) (by omega) hi.1 (edW_nn hW hw hx) (n - i) (by omega) (by omega) (kL c) hl.1 (Int.le_refl _)
  rw [show i + (n - i) = n by omega] at j2
  have h1 := miT_le (f := fun j => edW c x w i j + ab (kL c - j - (n - i)) * kDr c) (kL c + 1) (by omega) j j1.1 (by omega)
  have h2 : edW c x w i j + ab (kL c - j - (n - i)) * kDr c ≤ edW c x w n (kL c) := j2
  exact Int.le_trans h1 h2
theorem lb_whole {c : Cfg} (hW : WfK c) {x : Int → Int} {n w : Int} (hn : 0 ≤ n ∧ n ≤ 8) (hw : 0 ≤ w ∧ w < kW c) (hx : ∀ t, 0 ≤ t → t < n → 0 ≤ x t ∧ x t ≤ 3) : lbW c x n 0 w = edW c x w n (kL c) := by
  have hl := hW.2.2.2.2.2.2.1
  have hd := hW.2.2.1
  have h1 := lb_le hW (i := n) (n := n) ⟨hn.1, Int.le_refl _⟩ hw hx
  rw [show n - n = 0 by omega] at h1
  have h2 : edW c x w n (kL c) ≤ lbW c x n 0 w := by
    have h3 := lb_rng hW (more := 0) hn (by decide) hw hx
    rcases miT_is (f := fun j => edW c x w n j + ab (kL c - j - 0) * kDr c) (kL c + 1) (by omega) with e | ⟨j, j1, j2⟩
    · have e2 : lbW c x n 0 w = 2147483647 := e
      omega
    · have j3 : lbW c x n 0 w = edW c x w n j + ab (kL c - j - 0) * kDr c := j2
      rw [j3]
      have h4 := ed_end (c := kC c) (dr := kDr c) (x := x) (y := fun j => kWl c (w * 7 + j)) (i := n) (j := j) hn.1 j1.1 (by omega) (kL c - j) (by omega)
      rw [show j + (kL c - j) = kL c by omega] at h4
      have h5 : ab (kL c - j - 0) = kL c - j := by unfold ab; split <;> omega
      rw [h5]
      exact h4
  omega
theorem lb_congr {c : Cfg} {x x' : Int → Int} {i more w : Int} (hi : 0 ≤ i) (hl : 0 ≤ kL c) (hx : ∀ t, 0 ≤ t → t < i → x t = x' t) : lbW c x i more w = lbW c x' i more w := by
  unfold lbW
  refine miT_congr (kL c + 1) (by omega) (fun j q1 q2 => ?_)
  show edW c x w i j + _ = edW c x' w i j + _
  rw [edW_congr hx i hi (Int.le_refl _) j q1]
theorem lb_sum {c : Cfg} (hW : WfK c) {x y : Int → Int} {i n w0 : Int} (hi : 0 ≤ i ∧ i ≤ n) (hn : n ≤ 8) (hw0 : 0 ≤ w0 ∧ w0 ≤ kW c) (hx : ∀ t, 0 ≤ t → t < n → 0 ≤ y t ∧ y t ≤ 3) (hxy : ∀ t, 0 ≤ t → t < i → x t = y t) : smW (lbW c x i (n - i)) (kP c) w0.toNat ≤ meX c y n := by
  have hl := hW.2.2.2.2.2.2.1
  have h1 : smW (lbW c x i (n - i)) (kP c) w0.toNat ≤ smW (fun w => edW c y w n (kL c)) (kP c) w0.toNat := smW_le _ (fun w q1 q2 _ => by
    rw [lb_congr hi.1 hl.1 hxy]
    exact lb_le hW hi ⟨q1, by omega⟩ hx)
  have h2 : smW (fun w => edW c y w n (kL c)) (kP c) w0.toNat ≤ smW (fun w => edW c y w n (kL c)) (kP c) (kW c).toNat := smW_up _ (by omega) (fun w q1 q2 _ => (edW_rng hW (w := w) ⟨q1, by omega⟩ hx n (by omega) (Int.le_refl _) (kL c) hl.1 (Int.le_refl _)).1)
  exact Int.le_trans h1 h2
