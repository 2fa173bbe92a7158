/-! the reference's table of distances -/
def KnOK (c : Cfg) (M : Mem) : Prop := ∀ k, 0 ≤ k → k < nK c → ∀ w, 0 ≤ w → w < kW c → M 52 (8 * k + w) = Dw c (rwX c k) w
theorem KnOK_c {c : Cfg} {M M' : Mem} (h1 : M' 52 = M 52) (h : KnOK c M) : KnOK c M' := by
  unfold KnOK at h ⊢
  rw [h1]
  exact h
theorem KnOK_rng {c : Cfg} {M : Mem} (hW : WfK c) (h : KnOK c M) {k w : Int} (hk : 0 ≤ k ∧ k < nK c) (hw : 0 ≤ w ∧ w < kW c) : 0 ≤ M 52 (8 * k + w) ∧ M 52 (8 * k + w) ≤ 63 := by
  rw [h k hk.1 hk.2 w hw.1 hw.2]
  exact Dw_rng hW hw (fun i _ _ => rwX_rng hW k i)
theorem cdN_s {c : Cfg} {x : Int → Int} {w : Int} (h : 0 ≤ w) : cdN c x (w + 1).toNat = (cdN c x w.toNat && (decide (kP c w ≠ 2) || decide (kGp c ≤ Dw c x w))) := by
  rw [show (w + 1).toNat = w.toNat + 1 by omega, cdN, Int.toNat_of_nonneg h]
theorem mxW_s {f p : Int → Int} {w : Int} (h : 0 ≤ w) : mxW f p (w + 1).toNat = if p w = 1 then (if mxW f p w.toNat ≤ f w then f w else mxW f p w.toNat) else mxW f p w.toNat := by
  rw [show (w + 1).toNat = w.toNat + 1 by omega, mxW, Int.toNat_of_nonneg h, mx]
theorem smW_s {f p : Int → Int} {w : Int} (h : 0 ≤ w) : smW f p (w + 1).toNat = if p w = 1 then smW f p w.toNat + f w else smW f p w.toNat := by
  rw [show (w + 1).toNat = w.toNat + 1 by omega, smW, Int.toNat_of_nonneg h]
theorem cdN_down {c : Cfg} {x : Int → Int} : ∀ n m : Nat, n ≤ m → cdN c x m = true → cdN c x n = true := by
  intro n m h hm
  rw [cdN_iff] at hm ⊢
  intro w q1 q2 q3
  exact hm w q1 (by omega) q3
/-- how many near words stand ahead of w, the furthest first -/
def ahB (D P : Int → Int) (w o : Int) : Bool := decide (P o = 1) && (decide (D w < D o) || (decide (D o = D w) && decide (o < w)))
def ahI (D P : Int → Int) (W w : Int) : Int := cnI (ahB D P w) W
def rbN (D P : Int → Int) (W but : Int) : Nat → Int
  | 0 => 0
  | n + 1 => if P (n : Int) = 1 ∧ ahI D P W (n : Int) = but then D (n : Int) else rbN D P W but n
def rbI (c : Cfg) (x : Int → Int) (but : Int) : Int := rbN (Dw c x) (kP c) (kW c) but (kW c).toNat
def rbK (c : Cfg) (but k : Int) : Int := rbI c (rwX c k) but
theorem rbN_s {D P : Int → Int} {W but w : Int} (h : 0 ≤ w) : rbN D P W but (w + 1).toNat = if P w = 1 ∧ ahI D P W w = but then D w else rbN D P W but w.toNat := by
  rw [show (w + 1).toNat = w.toNat + 1 by omega, rbN, Int.toNat_of_nonneg h]
theorem rbN_rng {D P : Int → Int} {W but : Int} : ∀ n : Nat, (∀ w : Int, 0 ≤ w → w < (n : Int) → 0 ≤ D w ∧ D w ≤ 63) → 0 ≤ rbN D P W but n ∧ rbN D P W but n ≤ 63
  | 0, _ => by simp [rbN]
  | n + 1, h => by
    rw [rbN]
    split
    · exact h n (by omega) (by omega)
    · exact rbN_rng n (fun w q1 q2 => h w q1 (by omega))
theorem rbK_rng {c : Cfg} (hW : WfK c) (but k : Int) : 0 ≤ rbK c but k ∧ rbK c but k ≤ 63 := by
  have hw := hW.2.2.2.2.2.1
  exact rbN_rng (kW c).toNat (fun w q1 q2 => Dw_rng hW ⟨q1, by omega⟩ (fun i _ _ => rwX_rng hW k i))
theorem rwX_nat {c : Cfg} (hW : WfK c) {k i : Int} : 0 ≤ rwX c k i ∧ rwX c k i < kN c := dg_rng (by have := hW.1; omega)
theorem kdiv_rng {k N : Int} {n : Nat} (hk : 0 ≤ k) (hN : 0 < N) : 0 ≤ k / N ^ n ∧ k / N ^ n ≤ k := ⟨Int.ediv_nonneg hk (Int.le_of_lt (Int.pow_pos hN)), Int.ediv_le_self _ hk⟩
theorem kdiv_s {k N i n : Int} (hN : 0 < N) (hi : i < n) : k / N ^ (n - 1 - (i + -1)).toNat = k / N ^ (n - 1 - i).toNat / N := by
  rw [show n - 1 - (i + -1) = (n - 1 - i) + 1 by omega, pow_s (by omega), Int.ediv_ediv_of_nonneg (Int.le_of_lt (Int.pow_pos hN))]
