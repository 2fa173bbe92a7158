theorem st_motifIn {M M1 M2 : Mem} {m t r s9 : Int} (h : Inv M) (q1 : QLm M m t r M1)
    (q2 : (((okM (cfM M1) m ∧ 0 ≤ t ∧ t < M1 43 10) ∧ M2 43 0 = 0 ∧ PMoI (cfM M1) m t s9) ∨ (¬ (okM (cfM M1) m ∧ 0 ≤ t ∧ t < M1 43 10) ∧ M2 43 0 = 1 ∧ s9 = 0)) ∧ (M2 43 15 = 0 ∨ ((1 ≤ M2 43 15 ∧ M2 43 15 ≤ 6) ∧ FM (fun _ => true) (moK (cfM M1) (M2 43 15)) (M1 43 1 ^ ((M2 43 15)).toNat) (M2 43 32) ∧ M2 43 33 = moK (cfM M1) (M2 43 15) (M2 43 32))) ∧ Sm [43, 51, 53] M1 M2 ∧ Fm [0, 15, 32, 33] M1 M2) :
    M2 43 0 = r ∧ (r = 0 ∨ r = 1) ∧ (r = 0 → M2 60 0 = (Int32.ofInt s9).toInt) ∧ Inv M2 := by
  obtain ⟨hpr, hKr, hFr, hJr⟩ := q2
  obtain ⟨i0, it, ib, i1, i2, i3, i4, i5, i6, i7, i8⟩ := id h.1
  have hFc : Sm [34, 35, 36, 37, 38, 39, 40, 41, 42, 60] M M1 := by
    rcases q1 with ⟨-, a, Ma, hq, rfl⟩ | ⟨-, -, rfl⟩
    · intro k hk
      have hk2 : k ≠ 60 := fun e => hk (by rw [e]; decide)
      rw [up2_ne hk2]
      exact hq.2.2.2.2.2 k (by simp at hk ⊢; omega)
    · exact fun k hk => rfl
  have hC3 : MoC (cf M) M1 ∧ M1 37 4 = 120 ∧ Z0b M1 := by
    rcases q1 with ⟨-, a, Ma, hq, rfl⟩ | ⟨-, -, rfl⟩
    · exact ⟨MoC_c (up2_ne (by decide)) (up2_ne (by decide)) hq.2.2.1, by rw [up2_ne (by decide)]; exact hq.2.2.2.1, Z0b_c (up2_ne (by decide)) (up2_ne (by decide)) (up2_ne (by decide)) hq.2.2.2.2.1⟩
    · exact ⟨i8, i6, i7⟩
  have ec : cf M1 = cf M := cf_e (hFc 1 (by decide)) (hFc 2 (by decide)) (hFc 6 (by decide)) (hFc 7 (by decide)) (hFc 8 (by decide)) (hFc 9 (by decide)) (hFc 10 (by decide)) (hFc 11 (by decide))
  have em : cfM M1 = cf M := by
    have e : cfM M1 = cfM M := cfM_e (congrFun (hFc 43 (by decide)) _) (congrFun (hFc 43 (by decide)) _) (congrFun (hFc 43 (by decide)) _) (congrFun (hFc 43 (by decide)) _) (congrFun (hFc 43 (by decide)) _) (congrFun (hFc 43 (by decide)) _) (congrFun (hFc 43 (by decide)) _) (hFc 44 (by decide)) (hFc 45 (by decide)) (hFc 46 (by decide)) (hFc 47 (by decide)) (hFc 48 (by decide))
    rw [e]; exact h.2.2.1
  have er : cfM M2 = cfM M1 := cfM_e (hJr 1 (by decide)) (hJr 3 (by decide)) (hJr 4 (by decide)) (hJr 5 (by decide)) (hJr 6 (by decide)) (hJr 7 (by decide)) (hJr 10 (by decide)) (hFr 44 (by decide)) (hFr 45 (by decide)) (hFr 46 (by decide)) (hFr 47 (by decide)) (hFr 48 (by decide))
  have e17 : M1 43 17 = M 3 0 := by rw [hFc 43 (by decide)]; exact h.2.2.2.1
  have e10 : M1 43 10 = M 9 0 := congrArg kT em
  obtain ⟨k1, k2, k3⟩ := id h.2.1
  rw [h.2.2.1] at k1 k2 k3
  rw [em, e10] at hpr
  have hI : Inv M2 := by
    refine Inv_mk (M1 := M1) (fun k hk => hFr k (by simp; omega)) ?_ (by rw [er, em, ec]) ?_ ?_ ?_ ?_ ?_
    · exact InvC_q h.1 ec (Or.inl ⟨by rw [hFc 3 (by decide)], hFc 5 (by decide)⟩) (by rw [hFc 15 (by decide)]; exact i1) (kZa (hFc 17 (by decide)) (hFc 19 (by decide)) (hFc 20 (by decide)) i2) (kSv (hFc 21 (by decide)) (hFc 22 (by decide)) (hFc 23 (by decide)) i3) (kSt (hFc 24 (by decide)) (hFc 25 (by decide)) (hFc 26 (by decide)) i4) (kMd (hFc 29 (by decide)) (hFc 30 (by decide)) i5) hC3.2.1 hC3.2.2 hC3.1
    · rw [hJr 17 (by decide), e17]; rw [hFc 3 (by decide)]
    · intro j q1 q2; rw [hFc 3 (by decide)] at q2; rw [hFr 49 (by decide), hFc 49 (by decide), hFc 5 (by decide)]; exact h.2.2.2.2 j q1 q2
    · rw [ec]; exact kKn ((hJr 13 (by decide)).trans (congrFun (hFc 43 (by decide)) _)) ((hFr 52 (by decide)).trans (hFc 52 (by decide))) k1
    · rw [ec]; exact kKm ((hJr 14 (by decide)).trans (congrFun (hFc 43 (by decide)) _)) ((hJr 29 (by decide)).trans (congrFun (hFc 43 (by decide)) _)) ((hJr 30 (by decide)).trans (congrFun (hFc 43 (by decide)) _)) ((hFr 58 (by decide)).trans (hFc 58 (by decide))) k2
    · rw [ec]; rw [em] at hKr; have e1 : M1 43 1 = kN (cf M) := congrArg kN em; rw [e1] at hKr; exact hKr
  rcases q1 with ⟨hr, a, Ma, hq, rfl⟩ | ⟨hr, hno, rfl⟩
  · rcases hpr with ⟨-, h0, hp⟩ | ⟨hn, -, -⟩
    · refine ⟨by rw [h0, hr], Or.inl hr, fun _ => ?_, hI⟩
      rw [hFr 60 (by decide), up2_eq, PMoI_one hp hq.2.1]
      simp
    · exact absurd hq.1 hn
  · rcases hpr with ⟨ho, -, -⟩ | ⟨-, h1, -⟩
    · exact absurd ho hno
    · exact ⟨by rw [h1, hr], Or.inr hr, fun e => by omega, hI⟩
