/-! a walk that stands at the k-th row -/
def Z0a (M : Mem) : Prop := (∀ t, 0 ≤ t → t < 8 → M 17 t = 0) ∧ M 19 0 = 0 ∧ M 20 0 = 0
theorem dg_zero {N n i : Int} : dg N n 0 i = 0 := by
  unfold dg
  rw [Int.zero_ediv, Int.zero_emod]
theorem SvI_c {c : Cfg} {M M' : Mem} {k : Int} (h1 : M' 21 = M 21) (h2 : M' 22 = M 22) (h3 : M' 23 = M 23) (h : SvI c M k) : SvI c M' k := by
  unfold SvI at h ⊢
  rw [h1, h2, h3]
  exact h
theorem WSa_0 {M : Mem} (hT : M 15 1 ≤ 8) (h : Z0a M) : WSa M 0 := by
  refine ⟨fun i q1 q2 t q3 q4 => ?_, fun i q1 q2 => ?_⟩
  · rw [show i = 0 by omega, show 0 * 8 + t = t by omega, h.1 t q3 (by omega)]
    exact dst_0.symm
  · rw [show i = 0 by omega, h.2.1, h.2.2]
    exact ⟨rfl, rfl⟩
theorem at_row {M : Mem} {k : Int} (hW : WfK (cf M)) (hC : CdR M) (hr : ∀ i, 0 ≤ i → i < M 6 1 → M 16 i = rwX (cf M) k i) (hS : WSa M (M 6 1)) :
    (∀ t, 0 ≤ t → t < M 15 1 → 0 ≤ M 17 (M 15 0 * 8 + t) ∧ M 17 (M 15 0 * 8 + t) ≤ 63) ∧ (∀ w, 0 ≤ w → w < M 6 0 → M 8 w = 1 → M 17 (M 15 0 * 8 + mny (M 8) 1 w) = Dw (cf M) (rwX (cf M) k) w) ∧ ((∀ t, M 12 2 ≤ t → t < M 15 1 → M 1 3 ≤ M 17 (M 15 0 * 8 + t)) ↔ cdK (cf M) k = true) ∧ mxT (fun t => M 17 (M 15 0 * 8 + t)) (M 12 2) = rdK (cf M) k ∧ smT (fun t => M 17 (M 15 0 * 8 + t)) (M 12 2) = suK (cf M) k ∧ M 19 (M 15 0) = vl 4 (rwX (cf M) k) (M 6 1) ∧ M 20 (M 15 0) = spI (rwX (cf M) k) (M 6 1) := by
  have w2 := wf_w hW
  have w3 := wf_l hW
  have hR : WRa M := CdR_WR hW hC (fun i q1 q2 => by
    rw [hr i q1 q2]
    have := wf_let hW
    exact dg_rng (by show (0 : Int) < M 1 0; omega))
  obtain ⟨a1, a2, a3, a4, a5, a6⟩ := hC
  have m1 := mny_rng (p := M 8) (v := 1) (M 6 0) w2.1
  have m2 := mny_rng (p := M 8) (v := 2) (M 6 0) w2.1
  have hT1 : M 12 2 ≤ M 15 1 := by rw [a4]; split <;> omega
  have hnear : ∀ w, 0 ≤ w → w < M 6 0 → M 8 w = 1 → M 17 (M 15 0 * 8 + mny (M 8) 1 w) = Dw (cf M) (rwX (cf M) k) w := by
    intro w q1 q2 q3
    have hlt := mny_lt (p := M 8) (v := 1) (w := w) (n := M 6 0) q1 q2 q3
    have hm := mny_rng (p := M 8) (v := 1) w q1
    rw [a2, hS.1 (M 6 1) w3.1 (Int.le_refl _) (mny (M 8) 1 w) hm.1 (by omega)]
    exact dst_congr (n := M 6 1) hr (fun i z1 z2 => (a5 w q1 q2 q3).2 i z1 z2) (fun _ _ _ => rfl) (M 6 1) w3.1 (Int.le_refl _)
  have hfar : ∀ w, 0 ≤ w → w < M 6 0 → M 8 w = 2 → 0 < M 1 3 → M 17 (M 15 0 * 8 + (M 12 2 + mny (M 8) 2 w)) = Dw (cf M) (rwX (cf M) k) w := by
    intro w q1 q2 q3 hg
    have hlt := mny_lt (p := M 8) (v := 2) (w := w) (n := M 6 0) q1 q2 q3
    have hm := mny_rng (p := M 8) (v := 2) w q1
    rw [a2, hS.1 (M 6 1) w3.1 (Int.le_refl _) (M 12 2 + mny (M 8) 2 w) (by omega) (by rw [a4, if_pos hg]; omega)]
    exact dst_congr (n := M 6 1) hr (fun i z1 z2 => a6 w q1 q2 q3 hg i z1 z2) (fun _ _ _ => rfl) (M 6 1) w3.1 (Int.le_refl _)
  have hfold := fold_near (f := Dw (cf M) (rwX (cf M) k)) (g := fun t => M 17 (M 15 0 * 8 + t)) (p := M 8) (M 6 0).toNat (fun w q1 q2 q3 => hnear w q1 (by omega) q3)
  rw [Int.toNat_of_nonneg w2.1, ← a3] at hfold
  refine ⟨fun t q1 q2 => ?_, hnear, ?_, hfold.1, hfold.2, ?_, ?_⟩
  · rw [a2, hS.1 (M 6 1) w3.1 (Int.le_refl _) t q1 q2]
    have := wDa_rng hR (t := t) ⟨q1, q2⟩ (M 6 1) w3.1 (by omega)
    omega
  · unfold cdK
    rw [cdI_iff (show 0 ≤ kW (cf M) from w2.1)]
    constructor
    · intro h w q1 q2 q3
      by_cases hg : 0 < M 1 3
      · rw [← hfar w q1 q2 q3 hg]
        have hlt := mny_lt (p := M 8) (v := 2) (w := w) (n := M 6 0) q1 q2 q3
        have hm := mny_rng (p := M 8) (v := 2) w q1
        exact h _ (by omega) (by rw [a4, if_pos hg]; omega)
      · have h1 := (Dw_rng hW (x := rwX (cf M) k) (w := w) ⟨q1, q2⟩ (fun i _ _ => rwX_rng hW k i)).1
        have h2 : kGp (cf M) = M 1 3 := rfl
        omega
    · intro h t q1 q2
      have hg : 0 < M 1 3 := by
        rw [a4] at q2
        by_cases g : 0 < M 1 3
        · exact g
        · rw [if_neg g] at q2; omega
      rw [a4, if_pos hg] at q2
      obtain ⟨w, b1, b2, b3, b4⟩ := mny_sur (p := M 8) (v := 2) (t := t - M 12 2) (M 6 0) w2.1 (by omega) (by omega)
      have h1 := hfar w b1 b2 b3 hg
      rw [b4, show M 12 2 + (t - M 12 2) = t by omega] at h1
      rw [h1]
      exact h w b1 b2 b3
  · rw [a2, (hS.2 (M 6 1) w3.1 (Int.le_refl _)).1]
    exact vl_congr (n := M 6 1) hr (M 6 1) w3.1 (Int.le_refl _)
  · rw [a2, (hS.2 (M 6 1) w3.1 (Int.le_refl _)).2]
    exact spI_congr hr
