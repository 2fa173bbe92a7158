theorem st_centre {M M1 M2 : Mem} {r9 s9 : Int} (h : Inv M) (q1 : (PB (cf M) (rdK (cf M)) (rdK (cf M)) r9) ∧ (SvR (cf M) M1) ∧ (M1 21 0 = 1) ∧ (M1 15 4 = 8) ∧ (Z0a M1) ∧ Sm [12, 13, 15, 16, 17, 18, 19, 20, 21, 22, 23] M M1) (q2 : (PB (cfM M1) (rdK (cfM M1)) (rdK (cfM M1)) s9) ∧ (M2 43 0 = 0) ∧ (M2 43 13 = 0 ∨ (M2 43 13 = 1 ∧ KnOK (cfM M1) M2)) ∧ Sm [43, 51, 52, 53] M1 M2 ∧ Fm [0, 13] M1 M2) : r9 = s9 ∧ Inv M2 := by
  obtain ⟨hpc, hSc, h0c, h2c, h3c, hFc⟩ := q1
  obtain ⟨hpr, htr, hKr, hFr, hJr⟩ := q2
  have ec : cf M1 = cf M := cf_e (hFc 1 (by decide)) (hFc 2 (by decide)) (hFc 6 (by decide)) (hFc 7 (by decide)) (hFc 8 (by decide)) (hFc 9 (by decide)) (hFc 10 (by decide)) (hFc 11 (by decide))
  have em : cfM M1 = cf M := by
    have e : cfM M1 = cfM M := cfM_e (congrFun (hFc 43 (by decide)) _) (congrFun (hFc 43 (by decide)) _) (congrFun (hFc 43 (by decide)) _) (congrFun (hFc 43 (by decide)) _) (congrFun (hFc 43 (by decide)) _) (congrFun (hFc 43 (by decide)) _) (congrFun (hFc 43 (by decide)) _) (hFc 44 (by decide)) (hFc 45 (by decide)) (hFc 46 (by decide)) (hFc 47 (by decide)) (hFc 48 (by decide))
    rw [e]; exact h.2.2.1
  have er : cfM M2 = cfM M1 := cfM_e (hJr 1 (by decide)) (hJr 3 (by decide)) (hJr 4 (by decide)) (hJr 5 (by decide)) (hJr 6 (by decide)) (hJr 7 (by decide)) (hJr 10 (by decide)) (hFr 44 (by decide)) (hFr 45 (by decide)) (hFr 46 (by decide)) (hFr 47 (by decide)) (hFr 48 (by decide))
  have e17 : M1 43 17 = M 3 0 := by rw [hFc 43 (by decide)]; exact h.2.2.2.1
  obtain ⟨i0, it, ib, i1, i2, i3, i4, i5, i6, i7, i8⟩ := id h.1
  obtain ⟨k1, k2, k3⟩ := id h.2.1
  rw [h.2.2.1] at k1 k2 k3
  refine ⟨?_, Inv_mk (M1 := M1) (fun k hk => hFr k (by simp; omega)) ?_ (by rw [er, em, ec]) ?_ ?_ ?_ ?_ ?_⟩
  · exact PB_one hpc (by rw [em] at hpr; exact hpr)
  · exact InvC_q h.1 ec (Or.inl ⟨by rw [hFc 3 (by decide)], hFc 5 (by decide)⟩) (h2c) (h3c) (Or.inr ⟨h0c, hSc⟩) (kSt (hFc 24 (by decide)) (hFc 25 (by decide)) (hFc 26 (by decide)) i4) (kMd (hFc 29 (by decide)) (hFc 30 (by decide)) i5) (by rw [hFc 37 (by decide)]; exact i6) (Z0b_c (hFc 39 (by decide)) (hFc 41 (by decide)) (hFc 42 (by decide)) i7) (MoC_c (hFc 34 (by decide)) (hFc 35 (by decide)) i8)
  · rw [hJr 17 (by decide), e17]; rw [hFc 3 (by decide)]
  · intro j q1 q2; rw [hFc 3 (by decide)] at q2; rw [hFr 49 (by decide), hFc 49 (by decide), hFc 5 (by decide)]; exact h.2.2.2.2 j q1 q2
  · rw [ec]; rw [em] at hKr; exact hKr
  · rw [ec]; exact kKm ((hJr 14 (by decide)).trans (congrFun (hFc 43 (by decide)) _)) ((hJr 29 (by decide)).trans (congrFun (hFc 43 (by decide)) _)) ((hJr 30 (by decide)).trans (congrFun (hFc 43 (by decide)) _)) ((hFr 58 (by decide)).trans (hFc 58 (by decide))) k2
  · rw [ec]; exact kKo ((hJr 15 (by decide)).trans (congrFun (hFc 43 (by decide)) _)) ((hJr 32 (by decide)).trans (congrFun (hFc 43 (by decide)) _)) ((hJr 33 (by decide)).trans (congrFun (hFc 43 (by decide)) _)) k3
theorem st_centreAt {M M1 M2 : Mem} {i : Int} {r9 s9 : Int} (h : Inv M) (q1 : (PB (cf M) (rdK (cf M)) (fun b => if 0 ≤ i ∧ i < kL (cf M) then rwX (cf M) b i else -1) r9) ∧ (SvR (cf M) M1) ∧ (M1 21 0 = 1) ∧ (M1 15 4 = 8) ∧ (Z0a M1) ∧ Sm [12, 13, 15, 16, 17, 18, 19, 20, 21, 22, 23] M M1) (q2 : (PB (cfM M1) (rdK (cfM M1)) (fun b => if 0 ≤ i ∧ i < kL (cfM M1) then rwX (cfM M1) b i else -1) s9) ∧ (M2 43 0 = 0) ∧ (M2 43 13 = 0 ∨ (M2 43 13 = 1 ∧ KnOK (cfM M1) M2)) ∧ Sm [43, 51, 52, 53] M1 M2 ∧ Fm [0, 13] M1 M2) : r9 = s9 ∧ Inv M2 := by
  obtain ⟨hpc, hSc, h0c, h2c, h3c, hFc⟩ := q1
  obtain ⟨hpr, htr, hKr, hFr, hJr⟩ := q2
  have ec : cf M1 = cf M := cf_e (hFc 1 (by decide)) (hFc 2 (by decide)) (hFc 6 (by decide)) (hFc 7 (by decide)) (hFc 8 (by decide)) (hFc 9 (by decide)) (hFc 10 (by decide)) (hFc 11 (by decide))
  have em : cfM M1 = cf M := by
    have e : cfM M1 = cfM M := cfM_e (congrFun (hFc 43 (by decide)) _) (congrFun (hFc 43 (by decide)) _) (congrFun (hFc 43 (by decide)) _) (congrFun (hFc 43 (by decide)) _) (congrFun (hFc 43 (by decide)) _) (congrFun (hFc 43 (by decide)) _) (congrFun (hFc 43 (by decide)) _) (hFc 44 (by decide)) (hFc 45 (by decide)) (hFc 46 (by decide)) (hFc 47 (by decide)) (hFc 48 (by decide))
    rw [e]; exact h.2.2.1
  have er : cfM M2 = cfM M1 := cfM_e (hJr 1 (by decide)) (hJr 3 (by decide)) (hJr 4 (by decide)) (hJr 5 (by decide)) (hJr 6 (by decide)) (hJr 7 (by decide)) (hJr 10 (by decide)) (hFr 44 (by decide)) (hFr 45 (by decide)) (hFr 46 (by decide)) (hFr 47 (by decide)) (hFr 48 (by decide))
  have e17 : M1 43 17 = M 3 0 := by rw [hFc 43 (by decide)]; exact h.2.2.2.1
  obtain ⟨i0, it, ib, i1, i2, i3, i4, i5, i6, i7, i8⟩ := id h.1
  obtain ⟨k1, k2, k3⟩ := id h.2.1
  rw [h.2.2.1] at k1 k2 k3
  refine ⟨?_, Inv_mk (M1 := M1) (fun k hk => hFr k (by simp; omega)) ?_ (by rw [er, em, ec]) ?_ ?_ ?_ ?_ ?_⟩
  · exact PB_one hpc (by rw [em] at hpr; exact hpr)
  · exact InvC_q h.1 ec (Or.inl ⟨by rw [hFc 3 (by decide)], hFc 5 (by decide)⟩) (h2c) (h3c) (Or.inr ⟨h0c, hSc⟩) (kSt (hFc 24 (by decide)) (hFc 25 (by decide)) (hFc 26 (by decide)) i4) (kMd (hFc 29 (by decide)) (hFc 30 (by decide)) i5) (by rw [hFc 37 (by decide)]; exact i6) (Z0b_c (hFc 39 (by decide)) (hFc 41 (by decide)) (hFc 42 (by decide)) i7) (MoC_c (hFc 34 (by decide)) (hFc 35 (by decide)) i8)
  · rw [hJr 17 (by decide), e17]; rw [hFc 3 (by decide)]
  · intro j q1 q2; rw [hFc 3 (by decide)] at q2; rw [hFr 49 (by decide), hFc 49 (by decide), hFc 5 (by decide)]; exact h.2.2.2.2 j q1 q2
  · rw [ec]; rw [em] at hKr; exact hKr
  · rw [ec]; exact kKm ((hJr 14 (by decide)).trans (congrFun (hFc 43 (by decide)) _)) ((hJr 29 (by decide)).trans (congrFun (hFc 43 (by decide)) _)) ((hJr 30 (by decide)).trans (congrFun (hFc 43 (by decide)) _)) ((hFr 58 (by decide)).trans (hFc 58 (by decide))) k2
  · rw [ec]; exact kKo ((hJr 15 (by decide)).trans (congrFun (hFc 43 (by decide)) _)) ((hJr 32 (by decide)).trans (congrFun (hFc 43 (by decide)) _)) ((hJr 33 (by decide)).trans (congrFun (hFc 43 (by decide)) _)) k3
theorem st_median {M M1 M2 : Mem} {r9 s9 : Int} (h : Inv M) (q1 : (PB (cf M) (suK (cf M)) (suK (cf M)) r9) ∧ (SvR (cf M) M1) ∧ (M1 21 0 = 1) ∧ (M1 15 4 = 8) ∧ (Z0a M1) ∧ Sm [12, 13, 15, 16, 17, 18, 19, 20, 21, 22, 23] M M1) (q2 : (PB (cfM M1) (suK (cfM M1)) (suK (cfM M1)) s9) ∧ (M2 43 0 = 0) ∧ (M2 43 13 = 0 ∨ (M2 43 13 = 1 ∧ KnOK (cfM M1) M2)) ∧ Sm [43, 51, 52, 53] M1 M2 ∧ Fm [0, 13, 25] M1 M2) : r9 = s9 ∧ Inv M2 := by
  obtain ⟨hpc, hSc, h0c, h2c, h3c, hFc⟩ := q1
  obtain ⟨hpr, htr, hKr, hFr, hJr⟩ := q2
  have ec : cf M1 = cf M := cf_e (hFc 1 (by decide)) (hFc 2 (by decide)) (hFc 6 (by decide)) (hFc 7 (by decide)) (hFc 8 (by decide)) (hFc 9 (by decide)) (hFc 10 (by decide)) (hFc 11 (by decide))
  have em : cfM M1 = cf M := by
    have e : cfM M1 = cfM M := cfM_e (congrFun (hFc 43 (by decide)) _) (congrFun (hFc 43 (by decide)) _) (congrFun (hFc 43 (by decide)) _) (congrFun (hFc 43 (by decide)) _) (congrFun (hFc 43 (by decide)) _) (congrFun (hFc 43 (by decide)) _) (congrFun (hFc 43 (by decide)) _) (hFc 44 (by decide)) (hFc 45 (by decide)) (hFc 46 (by decide)) (hFc 47 (by decide)) (hFc 48 (by decide))
    rw [e]; exact h.2.2.1
  have er : cfM M2 = cfM M1 := cfM_e (hJr 1 (by decide)) (hJr 3 (by decide)) (hJr 4 (by decide)) (hJr 5 (by decide)) (hJr 6 (by decide)) (hJr 7 (by decide)) (hJr 10 (by decide)) (hFr 44 (by decide)) (hFr 45 (by decide)) (hFr 46 (by decide)) (hFr 47 (by decide)) (hFr 48 (by decide))
  have e17 : M1 43 17 = M 3 0 := by rw [hFc 43 (by decide)]; exact h.2.2.2.1
  obtain ⟨i0, it, ib, i1, i2, i3, i4, i5, i6, i7, i8⟩ := id h.1
  obtain ⟨k1, k2, k3⟩ := id h.2.1
  rw [h.2.2.1] at k1 k2 k3
  refine ⟨?_, Inv_mk (M1 := M1) (fun k hk => hFr k (by simp; omega)) ?_ (by rw [er, em, ec]) ?_ ?_ ?_ ?_ ?_⟩
  · exact PB_one hpc (by rw [em] at hpr; exact hpr)
  · exact InvC_q h.1 ec (Or.inl ⟨by rw [hFc 3 (by decide)], hFc 5 (by decide)⟩) (h2c) (h3c) (Or.inr ⟨h0c, hSc⟩) (kSt (hFc 24 (by decide)) (hFc 25 (by decide)) (hFc 26 (by decide)) i4) (kMd (hFc 29 (by decide)) (hFc 30 (by decide)) i5) (by rw [hFc 37 (by decide)]; exact i6) (Z0b_c (hFc 39 (by decide)) (hFc 41 (by decide)) (hFc 42 (by decide)) i7) (MoC_c (hFc 34 (by decide)) (hFc 35 (by decide)) i8)
  · rw [hJr 17 (by decide), e17]; rw [hFc 3 (by decide)]
  · intro j q1 q2; rw [hFc 3 (by decide)] at q2; rw [hFr 49 (by decide), hFc 49 (by decide), hFc 5 (by decide)]; exact h.2.2.2.2 j q1 q2
  · rw [ec]; rw [em] at hKr; exact hKr
  · rw [ec]; exact kKm ((hJr 14 (by decide)).trans (congrFun (hFc 43 (by decide)) _)) ((hJr 29 (by decide)).trans (congrFun (hFc 43 (by decide)) _)) ((hJr 30 (by decide)).trans (congrFun (hFc 43 (by decide)) _)) ((hFr 58 (by decide)).trans (hFc 58 (by decide))) k2
  · rw [ec]; exact kKo ((hJr 15 (by decide)).trans (congrFun (hFc 43 (by decide)) _)) ((hJr 32 (by decide)).trans (congrFun (hFc 43 (by decide)) _)) ((hJr 33 (by decide)).trans (congrFun (hFc 43 (by decide)) _)) k3
theorem st_medianAt {M M1 M2 : Mem} {i : Int} {r9 s9 : Int} (h : Inv M) (q1 : (PB (cf M) (suK (cf M)) (fun b => if 0 ≤ i ∧ i < kL (cf M) then rwX (cf M) b i else -1) r9) ∧ (SvR (cf M) M1) ∧ (M1 21 0 = 1) ∧ (M1 15 4 = 8) ∧ (Z0a M1) ∧ Sm [12, 13, 15, 16, 17, 18, 19, 20, 21, 22, 23] M M1) (q2 : (PB (cfM M1) (suK (cfM M1)) (fun b => if 0 ≤ i ∧ i < kL (cfM M1) then rwX (cfM M1) b i else -1) s9) ∧ (M2 43 0 = 0) ∧ (M2 43 13 = 0 ∨ (M2 43 13 = 1 ∧ KnOK (cfM M1) M2)) ∧ Sm [43, 51, 52, 53] M1 M2 ∧ Fm [0, 13, 25] M1 M2) : r9 = s9 ∧ Inv M2 := by
  obtain ⟨hpc, hSc, h0c, h2c, h3c, hFc⟩ := q1
  obtain ⟨hpr, htr, hKr, hFr, hJr⟩ := q2
  have ec : cf M1 = cf M := cf_e (hFc 1 (by decide)) (hFc 2 (by decide)) (hFc 6 (by decide)) (hFc 7 (by decide)) (hFc 8 (by decide)) (hFc 9 (by decide)) (hFc 10 (by decide)) (hFc 11 (by decide))
  have em : cfM M1 = cf M := by
    have e : cfM M1 = cfM M := cfM_e (congrFun (hFc 43 (by decide)) _) (congrFun (hFc 43 (by decide)) _) (congrFun (hFc 43 (by decide)) _) (congrFun (hFc 43 (by decide)) _) (congrFun (hFc 43 (by decide)) _) (congrFun (hFc 43 (by decide)) _) (congrFun (hFc 43 (by decide)) _) (hFc 44 (by decide)) (hFc 45 (by decide)) (hFc 46 (by decide)) (hFc 47 (by decide)) (hFc 48 (by decide))
    rw [e]; exact h.2.2.1
  have er : cfM M2 = cfM M1 := cfM_e (hJr 1 (by decide)) (hJr 3 (by decide)) (hJr 4 (by decide)) (hJr 5 (by decide)) (hJr 6 (by decide)) (hJr 7 (by decide)) (hJr 10 (by decide)) (hFr 44 (by decide)) (hFr 45 (by decide)) (hFr 46 (by decide)) (hFr 47 (by decide)) (hFr 48 (by decide))
  have e17 : M1 43 17 = M 3 0 := by rw [hFc 43 (by decide)]; exact h.2.2.2.1
  obtain ⟨i0, it, ib, i1, i2, i3, i4, i5, i6, i7, i8⟩ := id h.1
  obtain ⟨k1, k2, k3⟩ := id h.2.1
  rw [h.2.2.1] at k1 k2 k3
  refine ⟨?_, Inv_mk (M1 := M1) (fun k hk => hFr k (by simp; omega)) ?_ (by rw [er, em, ec]) ?_ ?_ ?_ ?_ ?_⟩
  · exact PB_one hpc (by rw [em] at hpr; exact hpr)
  · exact InvC_q h.1 ec (Or.inl ⟨by rw [hFc 3 (by decide)], hFc 5 (by decide)⟩) (h2c) (h3c) (Or.inr ⟨h0c, hSc⟩) (kSt (hFc 24 (by decide)) (hFc 25 (by decide)) (hFc 26 (by decide)) i4) (kMd (hFc 29 (by decide)) (hFc 30 (by decide)) i5) (by rw [hFc 37 (by decide)]; exact i6) (Z0b_c (hFc 39 (by decide)) (hFc 41 (by decide)) (hFc 42 (by decide)) i7) (MoC_c (hFc 34 (by decide)) (hFc 35 (by decide)) i8)
  · rw [hJr 17 (by decide), e17]; rw [hFc 3 (by decide)]
  · intro j q1 q2; rw [hFc 3 (by decide)] at q2; rw [hFr 49 (by decide), hFc 49 (by decide), hFc 5 (by decide)]; exact h.2.2.2.2 j q1 q2
  · rw [ec]; rw [em] at hKr; exact hKr
  · rw [ec]; exact kKm ((hJr 14 (by decide)).trans (congrFun (hFc 43 (by decide)) _)) ((hJr 29 (by decide)).trans (congrFun (hFc 43 (by decide)) _)) ((hJr 30 (by decide)).trans (congrFun (hFc 43 (by decide)) _)) ((hFr 58 (by decide)).trans (hFc 58 (by decide))) k2
  · rw [ec]; exact kKo ((hJr 15 (by decide)).trans (congrFun (hFc 43 (by decide)) _)) ((hJr 32 (by decide)).trans (congrFun (hFc 43 (by decide)) _)) ((hJr 33 (by decide)).trans (congrFun (hFc 43 (by decide)) _)) k3
theorem st_medians {M M1 M2 : Mem} {r9 s9 : Int} (h : Inv M) (q1 : (PB (cf M) (suK (cf M)) (fun b => cnI (fun j => cdK (cf M) j && decide (suK (cf M) j = suK (cf M) b)) (nK (cf M))) r9) ∧ (SvR (cf M) M1) ∧ (M1 21 0 = 1) ∧ (M1 15 4 = 8) ∧ (Z0a M1) ∧ Sm [12, 13, 15, 16, 17, 18, 19, 20, 21, 22, 23] M M1) (q2 : (PB (cfM M1) (suK (cfM M1)) (fun b => cnI (fun j => cdK (cfM M1) j && decide (suK (cfM M1) j = suK (cfM M1) b)) (nK (cfM M1))) s9) ∧ (M2 43 0 = 0) ∧ (M2 43 13 = 0 ∨ (M2 43 13 = 1 ∧ KnOK (cfM M1) M2)) ∧ Sm [43, 51, 52, 53] M1 M2 ∧ Fm [0, 13, 25] M1 M2) : r9 = s9 ∧ Inv M2 := by
  obtain ⟨hpc, hSc, h0c, h2c, h3c, hFc⟩ := q1
  obtain ⟨hpr, htr, hKr, hFr, hJr⟩ := q2
  have ec : cf M1 = cf M := cf_e (hFc 1 (by decide)) (hFc 2 (by decide)) (hFc 6 (by decide)) (hFc 7 (by decide)) (hFc 8 (by decide)) (hFc 9 (by decide)) (hFc 10 (by decide)) (hFc 11 (by decide))
  have em : cfM M1 = cf M := by
    have e : cfM M1 = cfM M := cfM_e (congrFun (hFc 43 (by decide)) _) (congrFun (hFc 43 (by decide)) _) (congrFun (hFc 43 (by decide)) _) (congrFun (hFc 43 (by decide)) _) (congrFun (hFc 43 (by decide)) _) (congrFun (hFc 43 (by decide)) _) (congrFun (hFc 43 (by decide)) _) (hFc 44 (by decide)) (hFc 45 (by decide)) (hFc 46 (by decide)) (hFc 47 (by decide)) (hFc 48 (by decide))
    rw [e]; exact h.2.2.1
  have er : cfM M2 = cfM M1 := cfM_e (hJr 1 (by decide)) (hJr 3 (by decide)) (hJr 4 (by decide)) (hJr 5 (by decide)) (hJr 6 (by decide)) (hJr 7 (by decide)) (hJr 10 (by decide)) (hFr 44 (by decide)) (hFr 45 (by decide)) (hFr 46 (by decide)) (hFr 47 (by decide)) (hFr 48 (by decide))
  have e17 : M1 43 17 = M 3 0 := by rw [hFc 43 (by decide)]; exact h.2.2.2.1
  obtain ⟨i0, it, ib, i1, i2, i3, i4, i5, i6, i7, i8⟩ := id h.1
  obtain ⟨k1, k2, k3⟩ := id h.2.1
  rw [h.2.2.1] at k1 k2 k3
  refine ⟨?_, Inv_mk (M1 := M1) (fun k hk => hFr k (by simp; omega)) ?_ (by rw [er, em, ec]) ?_ ?_ ?_ ?_ ?_⟩
  · exact PB_one hpc (by rw [em] at hpr; exact hpr)
  · exact InvC_q h.1 ec (Or.inl ⟨by rw [hFc 3 (by decide)], hFc 5 (by decide)⟩) (h2c) (h3c) (Or.inr ⟨h0c, hSc⟩) (kSt (hFc 24 (by decide)) (hFc 25 (by decide)) (hFc 26 (by decide)) i4) (kMd (hFc 29 (by decide)) (hFc 30 (by decide)) i5) (by rw [hFc 37 (by decide)]; exact i6) (Z0b_c (hFc 39 (by decide)) (hFc 41 (by decide)) (hFc 42 (by decide)) i7) (MoC_c (hFc 34 (by decide)) (hFc 35 (by decide)) i8)
  · rw [hJr 17 (by decide), e17]; rw [hFc 3 (by decide)]
  · intro j q1 q2; rw [hFc 3 (by decide)] at q2; rw [hFr 49 (by decide), hFc 49 (by decide), hFc 5 (by decide)]; exact h.2.2.2.2 j q1 q2
  · rw [ec]; rw [em] at hKr; exact hKr
  · rw [ec]; exact kKm ((hJr 14 (by decide)).trans (congrFun (hFc 43 (by decide)) _)) ((hJr 29 (by decide)).trans (congrFun (hFc 43 (by decide)) _)) ((hJr 30 (by decide)).trans (congrFun (hFc 43 (by decide)) _)) ((hFr 58 (by decide)).trans (hFc 58 (by decide))) k2
  · rw [ec]; exact kKo ((hJr 15 (by decide)).trans (congrFun (hFc 43 (by decide)) _)) ((hJr 32 (by decide)).trans (congrFun (hFc 43 (by decide)) _)) ((hJr 33 (by decide)).trans (congrFun (hFc 43 (by decide)) _)) k3
theorem st_within {M M1 M2 : Mem} {r0 : Int} {r9 s9 : Int} (h : Inv M) (q1 : (PW1 (cf M) r0 r9) ∧ (M1 21 0 = 0 ∨ (M1 21 0 = 1 ∧ SvR (cf M) M1)) ∧ (M1 15 4 = 8) ∧ (Z0a M1) ∧ Sm [12, 13, 15, 16, 17, 18, 19, 20, 21, 22, 23] M M1) (q2 : (PW1 (cfM M1) r0 s9) ∧ (M2 43 0 = 0) ∧ (M2 43 13 = 0 ∨ (M2 43 13 = 1 ∧ KnOK (cfM M1) M2)) ∧ Sm [43, 51, 52, 53] M1 M2 ∧ Fm [0, 13] M1 M2) : r9 = s9 ∧ Inv M2 := by
  obtain ⟨hpc, h0c, h2c, h3c, hFc⟩ := q1
  obtain ⟨hpr, htr, hKr, hFr, hJr⟩ := q2
  have ec : cf M1 = cf M := cf_e (hFc 1 (by decide)) (hFc 2 (by decide)) (hFc 6 (by decide)) (hFc 7 (by decide)) (hFc 8 (by decide)) (hFc 9 (by decide)) (hFc 10 (by decide)) (hFc 11 (by decide))
  have em : cfM M1 = cf M := by
    have e : cfM M1 = cfM M := cfM_e (congrFun (hFc 43 (by decide)) _) (congrFun (hFc 43 (by decide)) _) (congrFun (hFc 43 (by decide)) _) (congrFun (hFc 43 (by decide)) _) (congrFun (hFc 43 (by decide)) _) (congrFun (hFc 43 (by decide)) _) (congrFun (hFc 43 (by decide)) _) (hFc 44 (by decide)) (hFc 45 (by decide)) (hFc 46 (by decide)) (hFc 47 (by decide)) (hFc 48 (by decide))
    rw [e]; exact h.2.2.1
  have er : cfM M2 = cfM M1 := cfM_e (hJr 1 (by decide)) (hJr 3 (by decide)) (hJr 4 (by decide)) (hJr 5 (by decide)) (hJr 6 (by decide)) (hJr 7 (by decide)) (hJr 10 (by decide)) (hFr 44 (by decide)) (hFr 45 (by decide)) (hFr 46 (by decide)) (hFr 47 (by decide)) (hFr 48 (by decide))
  have e17 : M1 43 17 = M 3 0 := by rw [hFc 43 (by decide)]; exact h.2.2.2.1
  obtain ⟨i0, it, ib, i1, i2, i3, i4, i5, i6, i7, i8⟩ := id h.1
  obtain ⟨k1, k2, k3⟩ := id h.2.1
  rw [h.2.2.1] at k1 k2 k3
  refine ⟨?_, Inv_mk (M1 := M1) (fun k hk => hFr k (by simp; omega)) ?_ (by rw [er, em, ec]) ?_ ?_ ?_ ?_ ?_⟩
  · exact PW1_one hpc (by rw [em] at hpr; exact hpr)
  · exact InvC_q h.1 ec (Or.inl ⟨by rw [hFc 3 (by decide)], hFc 5 (by decide)⟩) (h2c) (h3c) (h0c) (kSt (hFc 24 (by decide)) (hFc 25 (by decide)) (hFc 26 (by decide)) i4) (kMd (hFc 29 (by decide)) (hFc 30 (by decide)) i5) (by rw [hFc 37 (by decide)]; exact i6) (Z0b_c (hFc 39 (by decide)) (hFc 41 (by decide)) (hFc 42 (by decide)) i7) (MoC_c (hFc 34 (by decide)) (hFc 35 (by decide)) i8)
  · rw [hJr 17 (by decide), e17]; rw [hFc 3 (by decide)]
  · intro j q1 q2; rw [hFc 3 (by decide)] at q2; rw [hFr 49 (by decide), hFc 49 (by decide), hFc 5 (by decide)]; exact h.2.2.2.2 j q1 q2
  · rw [ec]; rw [em] at hKr; exact hKr
  · rw [ec]; exact kKm ((hJr 14 (by decide)).trans (congrFun (hFc 43 (by decide)) _)) ((hJr 29 (by decide)).trans (congrFun (hFc 43 (by decide)) _)) ((hJr 30 (by decide)).trans (congrFun (hFc 43 (by decide)) _)) ((hFr 58 (by decide)).trans (hFc 58 (by decide))) k2
  · rw [ec]; exact kKo ((hJr 15 (by decide)).trans (congrFun (hFc 43 (by decide)) _)) ((hJr 32 (by decide)).trans (congrFun (hFc 43 (by decide)) _)) ((hJr 33 (by decide)).trans (congrFun (hFc 43 (by decide)) _)) k3
theorem st_lettersAt {M M1 M2 : Mem} {r0 i : Int} {r9 s9 : Int} (h : Inv M) (q1 : (PLt (cf M) r0 i r9) ∧ (M1 21 0 = 0 ∨ (M1 21 0 = 1 ∧ SvR (cf M) M1)) ∧ (M1 15 4 = 8) ∧ (Z0a M1) ∧ Sm [12, 13, 15, 16, 17, 18, 19, 20, 21, 22, 23] M M1) (q2 : (PLt (cfM M1) r0 i s9) ∧ (M2 43 0 = 0) ∧ (M2 43 13 = 0 ∨ (M2 43 13 = 1 ∧ KnOK (cfM M1) M2)) ∧ Sm [43, 51, 52, 53] M1 M2 ∧ Fm [0, 13] M1 M2) : r9 = s9 ∧ Inv M2 := by
  obtain ⟨hpc, h0c, h2c, h3c, hFc⟩ := q1
  obtain ⟨hpr, htr, hKr, hFr, hJr⟩ := q2
  have ec : cf M1 = cf M := cf_e (hFc 1 (by decide)) (hFc 2 (by decide)) (hFc 6 (by decide)) (hFc 7 (by decide)) (hFc 8 (by decide)) (hFc 9 (by decide)) (hFc 10 (by decide)) (hFc 11 (by decide))
  have em : cfM M1 = cf M := by
    have e : cfM M1 = cfM M := cfM_e (congrFun (hFc 43 (by decide)) _) (congrFun (hFc 43 (by decide)) _) (congrFun (hFc 43 (by decide)) _) (congrFun (hFc 43 (by decide)) _) (congrFun (hFc 43 (by decide)) _) (congrFun (hFc 43 (by decide)) _) (congrFun (hFc 43 (by decide)) _) (hFc 44 (by decide)) (hFc 45 (by decide)) (hFc 46 (by decide)) (hFc 47 (by decide)) (hFc 48 (by decide))
    rw [e]; exact h.2.2.1
  have er : cfM M2 = cfM M1 := cfM_e (hJr 1 (by decide)) (hJr 3 (by decide)) (hJr 4 (by decide)) (hJr 5 (by decide)) (hJr 6 (by decide)) (hJr 7 (by decide)) (hJr 10 (by decide)) (hFr 44 (by decide)) (hFr 45 (by decide)) (hFr 46 (by decide)) (hFr 47 (by decide)) (hFr 48 (by decide))
  have e17 : M1 43 17 = M 3 0 := by rw [hFc 43 (by decide)]; exact h.2.2.2.1
  obtain ⟨i0, it, ib, i1, i2, i3, i4, i5, i6, i7, i8⟩ := id h.1
  obtain ⟨k1, k2, k3⟩ := id h.2.1
  rw [h.2.2.1] at k1 k2 k3
  refine ⟨?_, Inv_mk (M1 := M1) (fun k hk => hFr k (by simp; omega)) ?_ (by rw [er, em, ec]) ?_ ?_ ?_ ?_ ?_⟩
  · exact PLt_one hpc (by rw [em] at hpr; exact hpr)
  · exact InvC_q h.1 ec (Or.inl ⟨by rw [hFc 3 (by decide)], hFc 5 (by decide)⟩) (h2c) (h3c) (h0c) (kSt (hFc 24 (by decide)) (hFc 25 (by decide)) (hFc 26 (by decide)) i4) (kMd (hFc 29 (by decide)) (hFc 30 (by decide)) i5) (by rw [hFc 37 (by decide)]; exact i6) (Z0b_c (hFc 39 (by decide)) (hFc 41 (by decide)) (hFc 42 (by decide)) i7) (MoC_c (hFc 34 (by decide)) (hFc 35 (by decide)) i8)
  · rw [hJr 17 (by decide), e17]; rw [hFc 3 (by decide)]
  · intro j q1 q2; rw [hFc 3 (by decide)] at q2; rw [hFr 49 (by decide), hFc 49 (by decide), hFc 5 (by decide)]; exact h.2.2.2.2 j q1 q2
  · rw [ec]; rw [em] at hKr; exact hKr
  · rw [ec]; exact kKm ((hJr 14 (by decide)).trans (congrFun (hFc 43 (by decide)) _)) ((hJr 29 (by decide)).trans (congrFun (hFc 43 (by decide)) _)) ((hJr 30 (by decide)).trans (congrFun (hFc 43 (by decide)) _)) ((hFr 58 (by decide)).trans (hFc 58 (by decide))) k2
  · rw [ec]; exact kKo ((hJr 15 (by decide)).trans (congrFun (hFc 43 (by decide)) _)) ((hJr 32 (by decide)).trans (congrFun (hFc 43 (by decide)) _)) ((hJr 33 (by decide)).trans (congrFun (hFc 43 (by decide)) _)) k3
theorem st_without {M M1 M2 : Mem} {k : Int} {r9 s9 : Int} (h : Inv M) (q1 : (PWo (cf M) k (rbK (cf M) k) r9) ∧ (M1 24 0 = 0 ∨ (M1 24 0 = 1 ∧ StR (cf M) M1)) ∧ (M1 15 4 = 8) ∧ (Z0a M1) ∧ Sm [12, 13, 15, 16, 17, 18, 19, 20, 24, 25, 26, 27, 28] M M1) (q2 : (PWo (cfM M1) k (rbK (cfM M1) k) s9) ∧ (M2 43 0 = 0) ∧ (M2 43 13 = 0 ∨ (M2 43 13 = 1 ∧ KnOK (cfM M1) M2)) ∧ Sm [43, 51, 52, 53] M1 M2 ∧ Fm [0, 13] M1 M2) : r9 = s9 ∧ Inv M2 := by
  obtain ⟨hpc, h0c, h2c, h3c, hFc⟩ := q1
  obtain ⟨hpr, htr, hKr, hFr, hJr⟩ := q2
  have ec : cf M1 = cf M := cf_e (hFc 1 (by decide)) (hFc 2 (by decide)) (hFc 6 (by decide)) (hFc 7 (by decide)) (hFc 8 (by decide)) (hFc 9 (by decide)) (hFc 10 (by decide)) (hFc 11 (by decide))
  have em : cfM M1 = cf M := by
    have e : cfM M1 = cfM M := cfM_e (congrFun (hFc 43 (by decide)) _) (congrFun (hFc 43 (by decide)) _) (congrFun (hFc 43 (by decide)) _) (congrFun (hFc 43 (by decide)) _) (congrFun (hFc 43 (by decide)) _) (congrFun (hFc 43 (by decide)) _) (congrFun (hFc 43 (by decide)) _) (hFc 44 (by decide)) (hFc 45 (by decide)) (hFc 46 (by decide)) (hFc 47 (by decide)) (hFc 48 (by decide))
    rw [e]; exact h.2.2.1
  have er : cfM M2 = cfM M1 := cfM_e (hJr 1 (by decide)) (hJr 3 (by decide)) (hJr 4 (by decide)) (hJr 5 (by decide)) (hJr 6 (by decide)) (hJr 7 (by decide)) (hJr 10 (by decide)) (hFr 44 (by decide)) (hFr 45 (by decide)) (hFr 46 (by decide)) (hFr 47 (by decide)) (hFr 48 (by decide))
  have e17 : M1 43 17 = M 3 0 := by rw [hFc 43 (by decide)]; exact h.2.2.2.1
  obtain ⟨i0, it, ib, i1, i2, i3, i4, i5, i6, i7, i8⟩ := id h.1
  obtain ⟨k1, k2, k3⟩ := id h.2.1
  rw [h.2.2.1] at k1 k2 k3
  refine ⟨?_, Inv_mk (M1 := M1) (fun k hk => hFr k (by simp; omega)) ?_ (by rw [er, em, ec]) ?_ ?_ ?_ ?_ ?_⟩
  · exact PWo_one hpc (by rw [em] at hpr; exact hpr)
  · exact InvC_q h.1 ec (Or.inl ⟨by rw [hFc 3 (by decide)], hFc 5 (by decide)⟩) (h2c) (h3c) (kSv (hFc 21 (by decide)) (hFc 22 (by decide)) (hFc 23 (by decide)) i3) (h0c) (kMd (hFc 29 (by decide)) (hFc 30 (by decide)) i5) (by rw [hFc 37 (by decide)]; exact i6) (Z0b_c (hFc 39 (by decide)) (hFc 41 (by decide)) (hFc 42 (by decide)) i7) (MoC_c (hFc 34 (by decide)) (hFc 35 (by decide)) i8)
  · rw [hJr 17 (by decide), e17]; rw [hFc 3 (by decide)]
  · intro j q1 q2; rw [hFc 3 (by decide)] at q2; rw [hFr 49 (by decide), hFc 49 (by decide), hFc 5 (by decide)]; exact h.2.2.2.2 j q1 q2
  · rw [ec]; rw [em] at hKr; exact hKr
  · rw [ec]; exact kKm ((hJr 14 (by decide)).trans (congrFun (hFc 43 (by decide)) _)) ((hJr 29 (by decide)).trans (congrFun (hFc 43 (by decide)) _)) ((hJr 30 (by decide)).trans (congrFun (hFc 43 (by decide)) _)) ((hFr 58 (by decide)).trans (hFc 58 (by decide))) k2
  · rw [ec]; exact kKo ((hJr 15 (by decide)).trans (congrFun (hFc 43 (by decide)) _)) ((hJr 32 (by decide)).trans (congrFun (hFc 43 (by decide)) _)) ((hJr 33 (by decide)).trans (congrFun (hFc 43 (by decide)) _)) k3
theorem st_leftOut {M M1 M2 : Mem} {k : Int} {r9 s9 : Int} (h : Inv M) (q1 : (PWo (cf M) k (loK (cf M) k) r9) ∧ (M1 24 0 = 0 ∨ (M1 24 0 = 1 ∧ StR (cf M) M1)) ∧ (M1 15 4 = 8) ∧ (Z0a M1) ∧ Sm [12, 13, 14, 15, 16, 17, 18, 19, 20, 24, 25, 26, 27, 28] M M1) (q2 : (PWo (cfM M1) k (loK (cfM M1) k) s9) ∧ (M2 43 0 = 0) ∧ (M2 43 13 = 0 ∨ (M2 43 13 = 1 ∧ KnOK (cfM M1) M2)) ∧ Sm [43, 51, 52, 53] M1 M2 ∧ Fm [0, 13] M1 M2) : r9 = s9 ∧ Inv M2 := by
  obtain ⟨hpc, h0c, h2c, h3c, hFc⟩ := q1
  obtain ⟨hpr, htr, hKr, hFr, hJr⟩ := q2
  have ec : cf M1 = cf M := cf_e (hFc 1 (by decide)) (hFc 2 (by decide)) (hFc 6 (by decide)) (hFc 7 (by decide)) (hFc 8 (by decide)) (hFc 9 (by decide)) (hFc 10 (by decide)) (hFc 11 (by decide))
  have em : cfM M1 = cf M := by
    have e : cfM M1 = cfM M := cfM_e (congrFun (hFc 43 (by decide)) _) (congrFun (hFc 43 (by decide)) _) (congrFun (hFc 43 (by decide)) _) (congrFun (hFc 43 (by decide)) _) (congrFun (hFc 43 (by decide)) _) (congrFun (hFc 43 (by decide)) _) (congrFun (hFc 43 (by decide)) _) (hFc 44 (by decide)) (hFc 45 (by decide)) (hFc 46 (by decide)) (hFc 47 (by decide)) (hFc 48 (by decide))
    rw [e]; exact h.2.2.1
  have er : cfM M2 = cfM M1 := cfM_e (hJr 1 (by decide)) (hJr 3 (by decide)) (hJr 4 (by decide)) (hJr 5 (by decide)) (hJr 6 (by decide)) (hJr 7 (by decide)) (hJr 10 (by decide)) (hFr 44 (by decide)) (hFr 45 (by decide)) (hFr 46 (by decide)) (hFr 47 (by decide)) (hFr 48 (by decide))
  have e17 : M1 43 17 = M 3 0 := by rw [hFc 43 (by decide)]; exact h.2.2.2.1
  obtain ⟨i0, it, ib, i1, i2, i3, i4, i5, i6, i7, i8⟩ := id h.1
  obtain ⟨k1, k2, k3⟩ := id h.2.1
  rw [h.2.2.1] at k1 k2 k3
  refine ⟨?_, Inv_mk (M1 := M1) (fun k hk => hFr k (by simp; omega)) ?_ (by rw [er, em, ec]) ?_ ?_ ?_ ?_ ?_⟩
  · exact PWo_one hpc (by rw [em] at hpr; exact hpr)
  · exact InvC_q h.1 ec (Or.inl ⟨by rw [hFc 3 (by decide)], hFc 5 (by decide)⟩) (h2c) (h3c) (kSv (hFc 21 (by decide)) (hFc 22 (by decide)) (hFc 23 (by decide)) i3) (h0c) (kMd (hFc 29 (by decide)) (hFc 30 (by decide)) i5) (by rw [hFc 37 (by decide)]; exact i6) (Z0b_c (hFc 39 (by decide)) (hFc 41 (by decide)) (hFc 42 (by decide)) i7) (MoC_c (hFc 34 (by decide)) (hFc 35 (by decide)) i8)
  · rw [hJr 17 (by decide), e17]; rw [hFc 3 (by decide)]
  · intro j q1 q2; rw [hFc 3 (by decide)] at q2; rw [hFr 49 (by decide), hFc 49 (by decide), hFc 5 (by decide)]; exact h.2.2.2.2 j q1 q2
  · rw [ec]; rw [em] at hKr; exact hKr
  · rw [ec]; exact kKm ((hJr 14 (by decide)).trans (congrFun (hFc 43 (by decide)) _)) ((hJr 29 (by decide)).trans (congrFun (hFc 43 (by decide)) _)) ((hJr 30 (by decide)).trans (congrFun (hFc 43 (by decide)) _)) ((hFr 58 (by decide)).trans (hFc 58 (by decide))) k2
  · rw [ec]; exact kKo ((hJr 15 (by decide)).trans (congrFun (hFc 43 (by decide)) _)) ((hJr 32 (by decide)).trans (congrFun (hFc 43 (by decide)) _)) ((hJr 33 (by decide)).trans (congrFun (hFc 43 (by decide)) _)) k3
theorem st_core {M M1 M2 : Mem} {r0 : Int} {r9 s9 : Int} (h : Inv M) (q1 : (PCo (cf M) r0 r9) ∧ (M1 24 0 = 0 ∨ (M1 24 0 = 1 ∧ StR (cf M) M1)) ∧ (M1 15 4 = 8) ∧ (Z0a M1) ∧ Sm [12, 13, 15, 16, 17, 18, 19, 20, 24, 25, 26, 27, 28] M M1) (q2 : (PCo (cfM M1) r0 s9) ∧ (M2 43 0 = 0) ∧ (M2 43 13 = 0 ∨ (M2 43 13 = 1 ∧ KnOK (cfM M1) M2)) ∧ Sm [43, 51, 52, 53, 54] M1 M2 ∧ Fm [0, 13] M1 M2) : r9 = s9 ∧ Inv M2 := by
  obtain ⟨hpc, h0c, h2c, h3c, hFc⟩ := q1
  obtain ⟨hpr, htr, hKr, hFr, hJr⟩ := q2
  have ec : cf M1 = cf M := cf_e (hFc 1 (by decide)) (hFc 2 (by decide)) (hFc 6 (by decide)) (hFc 7 (by decide)) (hFc 8 (by decide)) (hFc 9 (by decide)) (hFc 10 (by decide)) (hFc 11 (by decide))
  have em : cfM M1 = cf M := by
    have e : cfM M1 = cfM M := cfM_e (congrFun (hFc 43 (by decide)) _) (congrFun (hFc 43 (by decide)) _) (congrFun (hFc 43 (by decide)) _) (congrFun (hFc 43 (by decide)) _) (congrFun (hFc 43 (by decide)) _) (congrFun (hFc 43 (by decide)) _) (congrFun (hFc 43 (by decide)) _) (hFc 44 (by decide)) (hFc 45 (by decide)) (hFc 46 (by decide)) (hFc 47 (by decide)) (hFc 48 (by decide))
    rw [e]; exact h.2.2.1
  have er : cfM M2 = cfM M1 := cfM_e (hJr 1 (by decide)) (hJr 3 (by decide)) (hJr 4 (by decide)) (hJr 5 (by decide)) (hJr 6 (by decide)) (hJr 7 (by decide)) (hJr 10 (by decide)) (hFr 44 (by decide)) (hFr 45 (by decide)) (hFr 46 (by decide)) (hFr 47 (by decide)) (hFr 48 (by decide))
  have e17 : M1 43 17 = M 3 0 := by rw [hFc 43 (by decide)]; exact h.2.2.2.1
  obtain ⟨i0, it, ib, i1, i2, i3, i4, i5, i6, i7, i8⟩ := id h.1
  obtain ⟨k1, k2, k3⟩ := id h.2.1
  rw [h.2.2.1] at k1 k2 k3
  refine ⟨?_, Inv_mk (M1 := M1) (fun k hk => hFr k (by simp; omega)) ?_ (by rw [er, em, ec]) ?_ ?_ ?_ ?_ ?_⟩
  · exact PCo_one hpc (by rw [em] at hpr; exact hpr)
  · exact InvC_q h.1 ec (Or.inl ⟨by rw [hFc 3 (by decide)], hFc 5 (by decide)⟩) (h2c) (h3c) (kSv (hFc 21 (by decide)) (hFc 22 (by decide)) (hFc 23 (by decide)) i3) (h0c) (kMd (hFc 29 (by decide)) (hFc 30 (by decide)) i5) (by rw [hFc 37 (by decide)]; exact i6) (Z0b_c (hFc 39 (by decide)) (hFc 41 (by decide)) (hFc 42 (by decide)) i7) (MoC_c (hFc 34 (by decide)) (hFc 35 (by decide)) i8)
  · rw [hJr 17 (by decide), e17]; rw [hFc 3 (by decide)]
  · intro j q1 q2; rw [hFc 3 (by decide)] at q2; rw [hFr 49 (by decide), hFc 49 (by decide), hFc 5 (by decide)]; exact h.2.2.2.2 j q1 q2
  · rw [ec]; rw [em] at hKr; exact hKr
  · rw [ec]; exact kKm ((hJr 14 (by decide)).trans (congrFun (hFc 43 (by decide)) _)) ((hJr 29 (by decide)).trans (congrFun (hFc 43 (by decide)) _)) ((hJr 30 (by decide)).trans (congrFun (hFc 43 (by decide)) _)) ((hFr 58 (by decide)).trans (hFc 58 (by decide))) k2
  · rw [ec]; exact kKo ((hJr 15 (by decide)).trans (congrFun (hFc 43 (by decide)) _)) ((hJr 32 (by decide)).trans (congrFun (hFc 43 (by decide)) _)) ((hJr 33 (by decide)).trans (congrFun (hFc 43 (by decide)) _)) k3
theorem st_coreSet {M M1 M2 : Mem} {r0 : Int} {r9 s9 : Int} (h : Inv M) (q1 : (PCs (cf M) r0 r9) ∧ (M1 24 0 = 0 ∨ (M1 24 0 = 1 ∧ StR (cf M) M1)) ∧ (M1 15 4 = 8) ∧ (Z0a M1) ∧ Sm [12, 13, 15, 16, 17, 18, 19, 20, 24, 25, 26, 27, 28] M M1) (q2 : (PCs (cfM M1) r0 s9) ∧ (M2 43 0 = 0) ∧ (M2 43 13 = 0 ∨ (M2 43 13 = 1 ∧ KnOK (cfM M1) M2)) ∧ Sm [43, 51, 52, 53, 54] M1 M2 ∧ Fm [0, 13] M1 M2) : r9 = s9 ∧ Inv M2 := by
  obtain ⟨hpc, h0c, h2c, h3c, hFc⟩ := q1
  obtain ⟨hpr, htr, hKr, hFr, hJr⟩ := q2
  have ec : cf M1 = cf M := cf_e (hFc 1 (by decide)) (hFc 2 (by decide)) (hFc 6 (by decide)) (hFc 7 (by decide)) (hFc 8 (by decide)) (hFc 9 (by decide)) (hFc 10 (by decide)) (hFc 11 (by decide))
  have em : cfM M1 = cf M := by
    have e : cfM M1 = cfM M := cfM_e (congrFun (hFc 43 (by decide)) _) (congrFun (hFc 43 (by decide)) _) (congrFun (hFc 43 (by decide)) _) (congrFun (hFc 43 (by decide)) _) (congrFun (hFc 43 (by decide)) _) (congrFun (hFc 43 (by decide)) _) (congrFun (hFc 43 (by decide)) _) (hFc 44 (by decide)) (hFc 45 (by decide)) (hFc 46 (by decide)) (hFc 47 (by decide)) (hFc 48 (by decide))
    rw [e]; exact h.2.2.1
  have er : cfM M2 = cfM M1 := cfM_e (hJr 1 (by decide)) (hJr 3 (by decide)) (hJr 4 (by decide)) (hJr 5 (by decide)) (hJr 6 (by decide)) (hJr 7 (by decide)) (hJr 10 (by decide)) (hFr 44 (by decide)) (hFr 45 (by decide)) (hFr 46 (by decide)) (hFr 47 (by decide)) (hFr 48 (by decide))
  have e17 : M1 43 17 = M 3 0 := by rw [hFc 43 (by decide)]; exact h.2.2.2.1
  obtain ⟨i0, it, ib, i1, i2, i3, i4, i5, i6, i7, i8⟩ := id h.1
  obtain ⟨k1, k2, k3⟩ := id h.2.1
  rw [h.2.2.1] at k1 k2 k3
  refine ⟨?_, Inv_mk (M1 := M1) (fun k hk => hFr k (by simp; omega)) ?_ (by rw [er, em, ec]) ?_ ?_ ?_ ?_ ?_⟩
  · exact PCs_one hpc (by rw [em] at hpr; exact hpr)
  · exact InvC_q h.1 ec (Or.inl ⟨by rw [hFc 3 (by decide)], hFc 5 (by decide)⟩) (h2c) (h3c) (kSv (hFc 21 (by decide)) (hFc 22 (by decide)) (hFc 23 (by decide)) i3) (h0c) (kMd (hFc 29 (by decide)) (hFc 30 (by decide)) i5) (by rw [hFc 37 (by decide)]; exact i6) (Z0b_c (hFc 39 (by decide)) (hFc 41 (by decide)) (hFc 42 (by decide)) i7) (MoC_c (hFc 34 (by decide)) (hFc 35 (by decide)) i8)
  · rw [hJr 17 (by decide), e17]; rw [hFc 3 (by decide)]
  · intro j q1 q2; rw [hFc 3 (by decide)] at q2; rw [hFr 49 (by decide), hFc 49 (by decide), hFc 5 (by decide)]; exact h.2.2.2.2 j q1 q2
  · rw [ec]; rw [em] at hKr; exact hKr
  · rw [ec]; exact kKm ((hJr 14 (by decide)).trans (congrFun (hFc 43 (by decide)) _)) ((hJr 29 (by decide)).trans (congrFun (hFc 43 (by decide)) _)) ((hJr 30 (by decide)).trans (congrFun (hFc 43 (by decide)) _)) ((hFr 58 (by decide)).trans (hFc 58 (by decide))) k2
  · rw [ec]; exact kKo ((hJr 15 (by decide)).trans (congrFun (hFc 43 (by decide)) _)) ((hJr 32 (by decide)).trans (congrFun (hFc 43 (by decide)) _)) ((hJr 33 (by decide)).trans (congrFun (hFc 43 (by decide)) _)) k3
theorem st_cover {M M1 M2 : Mem} {r0 : Int} {r9 s9 : Int} (h : Inv M) (q1 : (PCv (cf M) r0 r9) ∧ (M1 24 0 = 0 ∨ (M1 24 0 = 1 ∧ StR (cf M) M1)) ∧ (M1 15 4 = 8) ∧ (Z0a M1) ∧ Sm [12, 13, 15, 16, 17, 18, 19, 20, 24, 25, 26, 27, 28] M M1) (q2 : (PCv (cfM M1) r0 s9) ∧ (M2 43 0 = 0) ∧ (M2 43 13 = 0 ∨ (M2 43 13 = 1 ∧ KnOK (cfM M1) M2)) ∧ Sm [43, 51, 52, 53, 54, 55] M1 M2 ∧ Fm [0, 13] M1 M2) : r9 = s9 ∧ Inv M2 := by
  obtain ⟨hpc, h0c, h2c, h3c, hFc⟩ := q1
  obtain ⟨hpr, htr, hKr, hFr, hJr⟩ := q2
  have ec : cf M1 = cf M := cf_e (hFc 1 (by decide)) (hFc 2 (by decide)) (hFc 6 (by decide)) (hFc 7 (by decide)) (hFc 8 (by decide)) (hFc 9 (by decide)) (hFc 10 (by decide)) (hFc 11 (by decide))
  have em : cfM M1 = cf M := by
    have e : cfM M1 = cfM M := cfM_e (congrFun (hFc 43 (by decide)) _) (congrFun (hFc 43 (by decide)) _) (congrFun (hFc 43 (by decide)) _) (congrFun (hFc 43 (by decide)) _) (congrFun (hFc 43 (by decide)) _) (congrFun (hFc 43 (by decide)) _) (congrFun (hFc 43 (by decide)) _) (hFc 44 (by decide)) (hFc 45 (by decide)) (hFc 46 (by decide)) (hFc 47 (by decide)) (hFc 48 (by decide))
    rw [e]; exact h.2.2.1
  have er : cfM M2 = cfM M1 := cfM_e (hJr 1 (by decide)) (hJr 3 (by decide)) (hJr 4 (by decide)) (hJr 5 (by decide)) (hJr 6 (by decide)) (hJr 7 (by decide)) (hJr 10 (by decide)) (hFr 44 (by decide)) (hFr 45 (by decide)) (hFr 46 (by decide)) (hFr 47 (by decide)) (hFr 48 (by decide))
  have e17 : M1 43 17 = M 3 0 := by rw [hFc 43 (by decide)]; exact h.2.2.2.1
  obtain ⟨i0, it, ib, i1, i2, i3, i4, i5, i6, i7, i8⟩ := id h.1
  obtain ⟨k1, k2, k3⟩ := id h.2.1
  rw [h.2.2.1] at k1 k2 k3
  refine ⟨?_, Inv_mk (M1 := M1) (fun k hk => hFr k (by simp; omega)) ?_ (by rw [er, em, ec]) ?_ ?_ ?_ ?_ ?_⟩
  · exact PCv_one hpc (by rw [em] at hpr; exact hpr)
  · exact InvC_q h.1 ec (Or.inl ⟨by rw [hFc 3 (by decide)], hFc 5 (by decide)⟩) (h2c) (h3c) (kSv (hFc 21 (by decide)) (hFc 22 (by decide)) (hFc 23 (by decide)) i3) (h0c) (kMd (hFc 29 (by decide)) (hFc 30 (by decide)) i5) (by rw [hFc 37 (by decide)]; exact i6) (Z0b_c (hFc 39 (by decide)) (hFc 41 (by decide)) (hFc 42 (by decide)) i7) (MoC_c (hFc 34 (by decide)) (hFc 35 (by decide)) i8)
  · rw [hJr 17 (by decide), e17]; rw [hFc 3 (by decide)]
  · intro j q1 q2; rw [hFc 3 (by decide)] at q2; rw [hFr 49 (by decide), hFc 49 (by decide), hFc 5 (by decide)]; exact h.2.2.2.2 j q1 q2
  · rw [ec]; rw [em] at hKr; exact hKr
  · rw [ec]; exact kKm ((hJr 14 (by decide)).trans (congrFun (hFc 43 (by decide)) _)) ((hJr 29 (by decide)).trans (congrFun (hFc 43 (by decide)) _)) ((hJr 30 (by decide)).trans (congrFun (hFc 43 (by decide)) _)) ((hFr 58 (by decide)).trans (hFc 58 (by decide))) k2
  · rw [ec]; exact kKo ((hJr 15 (by decide)).trans (congrFun (hFc 43 (by decide)) _)) ((hJr 32 (by decide)).trans (congrFun (hFc 43 (by decide)) _)) ((hJr 33 (by decide)).trans (congrFun (hFc 43 (by decide)) _)) k3
theorem st_centres {M M1 M2 : Mem} {k : Int} {r9 s9 : Int} (h : Inv M) (q1 : (PCt (cf M) k r9) ∧ (M1 24 0 = 0 ∨ (M1 24 0 = 1 ∧ StR (cf M) M1)) ∧ (M1 15 4 = 8) ∧ (Z0a M1) ∧ Sm [12, 13, 15, 16, 17, 18, 19, 20, 24, 25, 26, 27, 28] M M1) (q2 : (PCt (cfM M1) k s9) ∧ (M2 43 0 = 0) ∧ (M2 43 13 = 0 ∨ (M2 43 13 = 1 ∧ KnOK (cfM M1) M2)) ∧ Sm [43, 51, 52, 53, 54, 55] M1 M2 ∧ Fm [0, 13] M1 M2) : r9 = s9 ∧ Inv M2 := by
  obtain ⟨hpc, h0c, h2c, h3c, hFc⟩ := q1
  obtain ⟨hpr, htr, hKr, hFr, hJr⟩ := q2
  have ec : cf M1 = cf M := cf_e (hFc 1 (by decide)) (hFc 2 (by decide)) (hFc 6 (by decide)) (hFc 7 (by decide)) (hFc 8 (by decide)) (hFc 9 (by decide)) (hFc 10 (by decide)) (hFc 11 (by decide))
  have em : cfM M1 = cf M := by
    have e : cfM M1 = cfM M := cfM_e (congrFun (hFc 43 (by decide)) _) (congrFun (hFc 43 (by decide)) _) (congrFun (hFc 43 (by decide)) _) (congrFun (hFc 43 (by decide)) _) (congrFun (hFc 43 (by decide)) _) (congrFun (hFc 43 (by decide)) _) (congrFun (hFc 43 (by decide)) _) (hFc 44 (by decide)) (hFc 45 (by decide)) (hFc 46 (by decide)) (hFc 47 (by decide)) (hFc 48 (by decide))
    rw [e]; exact h.2.2.1
  have er : cfM M2 = cfM M1 := cfM_e (hJr 1 (by decide)) (hJr 3 (by decide)) (hJr 4 (by decide)) (hJr 5 (by decide)) (hJr 6 (by decide)) (hJr 7 (by decide)) (hJr 10 (by decide)) (hFr 44 (by decide)) (hFr 45 (by decide)) (hFr 46 (by decide)) (hFr 47 (by decide)) (hFr 48 (by decide))
  have e17 : M1 43 17 = M 3 0 := by rw [hFc 43 (by decide)]; exact h.2.2.2.1
  obtain ⟨i0, it, ib, i1, i2, i3, i4, i5, i6, i7, i8⟩ := id h.1
  obtain ⟨k1, k2, k3⟩ := id h.2.1
  rw [h.2.2.1] at k1 k2 k3
  refine ⟨?_, Inv_mk (M1 := M1) (fun k hk => hFr k (by simp; omega)) ?_ (by rw [er, em, ec]) ?_ ?_ ?_ ?_ ?_⟩
  · exact PCt_one hpc (by rw [em] at hpr; exact hpr)
  · exact InvC_q h.1 ec (Or.inl ⟨by rw [hFc 3 (by decide)], hFc 5 (by decide)⟩) (h2c) (h3c) (kSv (hFc 21 (by decide)) (hFc 22 (by decide)) (hFc 23 (by decide)) i3) (h0c) (kMd (hFc 29 (by decide)) (hFc 30 (by decide)) i5) (by rw [hFc 37 (by decide)]; exact i6) (Z0b_c (hFc 39 (by decide)) (hFc 41 (by decide)) (hFc 42 (by decide)) i7) (MoC_c (hFc 34 (by decide)) (hFc 35 (by decide)) i8)
  · rw [hJr 17 (by decide), e17]; rw [hFc 3 (by decide)]
  · intro j q1 q2; rw [hFc 3 (by decide)] at q2; rw [hFr 49 (by decide), hFc 49 (by decide), hFc 5 (by decide)]; exact h.2.2.2.2 j q1 q2
  · rw [ec]; rw [em] at hKr; exact hKr
  · rw [ec]; exact kKm ((hJr 14 (by decide)).trans (congrFun (hFc 43 (by decide)) _)) ((hJr 29 (by decide)).trans (congrFun (hFc 43 (by decide)) _)) ((hJr 30 (by decide)).trans (congrFun (hFc 43 (by decide)) _)) ((hFr 58 (by decide)).trans (hFc 58 (by decide))) k2
  · rw [ec]; exact kKo ((hJr 15 (by decide)).trans (congrFun (hFc 43 (by decide)) _)) ((hJr 32 (by decide)).trans (congrFun (hFc 43 (by decide)) _)) ((hJr 33 (by decide)).trans (congrFun (hFc 43 (by decide)) _)) k3
theorem st_middle {M M1 M2 : Mem} {r9 s9 : Int} (h : Inv M) (q1 : (PMs (cf M) r9) ∧ (MdR (cf M) M1) ∧ (M1 29 0 = 1) ∧ Sm [29, 30, 31, 32] M M1) (q2 : (PMs (cfM M1) s9) ∧ (M2 43 0 = 0) ∧ (M2 43 14 = 0 ∨ (M2 43 14 = 1 ∧ MdS (cfM M1) (M2 43 30) (M2 43 29) (M2 58))) ∧ Sm [43, 57, 58, 59] M1 M2 ∧ Fm [0, 14, 29, 30] M1 M2) : r9 = s9 ∧ Inv M2 := by
  obtain ⟨hpc, hSc, h0c, hFc⟩ := q1
  obtain ⟨hpr, htr, hKr, hFr, hJr⟩ := q2
  have ec : cf M1 = cf M := cf_e (hFc 1 (by decide)) (hFc 2 (by decide)) (hFc 6 (by decide)) (hFc 7 (by decide)) (hFc 8 (by decide)) (hFc 9 (by decide)) (hFc 10 (by decide)) (hFc 11 (by decide))
  have em : cfM M1 = cf M := by
    have e : cfM M1 = cfM M := cfM_e (congrFun (hFc 43 (by decide)) _) (congrFun (hFc 43 (by decide)) _) (congrFun (hFc 43 (by decide)) _) (congrFun (hFc 43 (by decide)) _) (congrFun (hFc 43 (by decide)) _) (congrFun (hFc 43 (by decide)) _) (congrFun (hFc 43 (by decide)) _) (hFc 44 (by decide)) (hFc 45 (by decide)) (hFc 46 (by decide)) (hFc 47 (by decide)) (hFc 48 (by decide))
    rw [e]; exact h.2.2.1
  have er : cfM M2 = cfM M1 := cfM_e (hJr 1 (by decide)) (hJr 3 (by decide)) (hJr 4 (by decide)) (hJr 5 (by decide)) (hJr 6 (by decide)) (hJr 7 (by decide)) (hJr 10 (by decide)) (hFr 44 (by decide)) (hFr 45 (by decide)) (hFr 46 (by decide)) (hFr 47 (by decide)) (hFr 48 (by decide))
  have e17 : M1 43 17 = M 3 0 := by rw [hFc 43 (by decide)]; exact h.2.2.2.1
  obtain ⟨i0, it, ib, i1, i2, i3, i4, i5, i6, i7, i8⟩ := id h.1
  obtain ⟨k1, k2, k3⟩ := id h.2.1
  rw [h.2.2.1] at k1 k2 k3
  refine ⟨?_, Inv_mk (M1 := M1) (fun k hk => hFr k (by simp; omega)) ?_ (by rw [er, em, ec]) ?_ ?_ ?_ ?_ ?_⟩
  · exact PMs_one hpc (by rw [em] at hpr; exact hpr)
  · exact InvC_q h.1 ec (Or.inl ⟨by rw [hFc 3 (by decide)], hFc 5 (by decide)⟩) (by rw [hFc 15 (by decide)]; exact i1) (kZa (hFc 17 (by decide)) (hFc 19 (by decide)) (hFc 20 (by decide)) i2) (kSv (hFc 21 (by decide)) (hFc 22 (by decide)) (hFc 23 (by decide)) i3) (kSt (hFc 24 (by decide)) (hFc 25 (by decide)) (hFc 26 (by decide)) i4) (Or.inr ⟨h0c, hSc⟩) (by rw [hFc 37 (by decide)]; exact i6) (Z0b_c (hFc 39 (by decide)) (hFc 41 (by decide)) (hFc 42 (by decide)) i7) (MoC_c (hFc 34 (by decide)) (hFc 35 (by decide)) i8)
  · rw [hJr 17 (by decide), e17]; rw [hFc 3 (by decide)]
  · intro j q1 q2; rw [hFc 3 (by decide)] at q2; rw [hFr 49 (by decide), hFc 49 (by decide), hFc 5 (by decide)]; exact h.2.2.2.2 j q1 q2
  · rw [ec]; exact kKn ((hJr 13 (by decide)).trans (congrFun (hFc 43 (by decide)) _)) ((hFr 52 (by decide)).trans (hFc 52 (by decide))) k1
  · rw [ec]; rw [em] at hKr; exact hKr
  · rw [ec]; exact kKo ((hJr 15 (by decide)).trans (congrFun (hFc 43 (by decide)) _)) ((hJr 32 (by decide)).trans (congrFun (hFc 43 (by decide)) _)) ((hJr 33 (by decide)).trans (congrFun (hFc 43 (by decide)) _)) k3
theorem st_middleLength {M M1 M2 : Mem} {r9 s9 : Int} (h : Inv M) (q1 : (PMl (cf M) r9) ∧ (MdR (cf M) M1) ∧ (M1 29 0 = 1) ∧ Sm [29, 30, 31, 32] M M1) (q2 : (PMl (cfM M1) s9) ∧ (M2 43 0 = 0) ∧ (M2 43 14 = 0 ∨ (M2 43 14 = 1 ∧ MdS (cfM M1) (M2 43 30) (M2 43 29) (M2 58))) ∧ Sm [43, 57, 58, 59] M1 M2 ∧ Fm [0, 14, 29, 30] M1 M2) : r9 = s9 ∧ Inv M2 := by
  obtain ⟨hpc, hSc, h0c, hFc⟩ := q1
  obtain ⟨hpr, htr, hKr, hFr, hJr⟩ := q2
  have ec : cf M1 = cf M := cf_e (hFc 1 (by decide)) (hFc 2 (by decide)) (hFc 6 (by decide)) (hFc 7 (by decide)) (hFc 8 (by decide)) (hFc 9 (by decide)) (hFc 10 (by decide)) (hFc 11 (by decide))
  have em : cfM M1 = cf M := by
    have e : cfM M1 = cfM M := cfM_e (congrFun (hFc 43 (by decide)) _) (congrFun (hFc 43 (by decide)) _) (congrFun (hFc 43 (by decide)) _) (congrFun (hFc 43 (by decide)) _) (congrFun (hFc 43 (by decide)) _) (congrFun (hFc 43 (by decide)) _) (congrFun (hFc 43 (by decide)) _) (hFc 44 (by decide)) (hFc 45 (by decide)) (hFc 46 (by decide)) (hFc 47 (by decide)) (hFc 48 (by decide))
    rw [e]; exact h.2.2.1
  have er : cfM M2 = cfM M1 := cfM_e (hJr 1 (by decide)) (hJr 3 (by decide)) (hJr 4 (by decide)) (hJr 5 (by decide)) (hJr 6 (by decide)) (hJr 7 (by decide)) (hJr 10 (by decide)) (hFr 44 (by decide)) (hFr 45 (by decide)) (hFr 46 (by decide)) (hFr 47 (by decide)) (hFr 48 (by decide))
  have e17 : M1 43 17 = M 3 0 := by rw [hFc 43 (by decide)]; exact h.2.2.2.1
  obtain ⟨i0, it, ib, i1, i2, i3, i4, i5, i6, i7, i8⟩ := id h.1
  obtain ⟨k1, k2, k3⟩ := id h.2.1
  rw [h.2.2.1] at k1 k2 k3
  refine ⟨?_, Inv_mk (M1 := M1) (fun k hk => hFr k (by simp; omega)) ?_ (by rw [er, em, ec]) ?_ ?_ ?_ ?_ ?_⟩
  · exact PMl_one hpc (by rw [em] at hpr; exact hpr)
  · exact InvC_q h.1 ec (Or.inl ⟨by rw [hFc 3 (by decide)], hFc 5 (by decide)⟩) (by rw [hFc 15 (by decide)]; exact i1) (kZa (hFc 17 (by decide)) (hFc 19 (by decide)) (hFc 20 (by decide)) i2) (kSv (hFc 21 (by decide)) (hFc 22 (by decide)) (hFc 23 (by decide)) i3) (kSt (hFc 24 (by decide)) (hFc 25 (by decide)) (hFc 26 (by decide)) i4) (Or.inr ⟨h0c, hSc⟩) (by rw [hFc 37 (by decide)]; exact i6) (Z0b_c (hFc 39 (by decide)) (hFc 41 (by decide)) (hFc 42 (by decide)) i7) (MoC_c (hFc 34 (by decide)) (hFc 35 (by decide)) i8)
  · rw [hJr 17 (by decide), e17]; rw [hFc 3 (by decide)]
  · intro j q1 q2; rw [hFc 3 (by decide)] at q2; rw [hFr 49 (by decide), hFc 49 (by decide), hFc 5 (by decide)]; exact h.2.2.2.2 j q1 q2
  · rw [ec]; exact kKn ((hJr 13 (by decide)).trans (congrFun (hFc 43 (by decide)) _)) ((hFr 52 (by decide)).trans (hFc 52 (by decide))) k1
  · rw [ec]; rw [em] at hKr; exact hKr
  · rw [ec]; exact kKo ((hJr 15 (by decide)).trans (congrFun (hFc 43 (by decide)) _)) ((hJr 32 (by decide)).trans (congrFun (hFc 43 (by decide)) _)) ((hJr 33 (by decide)).trans (congrFun (hFc 43 (by decide)) _)) k3
theorem st_middleAt {M M1 M2 : Mem} {i : Int} {r9 s9 : Int} (h : Inv M) (q1 : (PMa (cf M) i r9) ∧ (MdR (cf M) M1) ∧ (M1 29 0 = 1) ∧ Sm [29, 30, 31, 32] M M1) (q2 : (PMa (cfM M1) i s9) ∧ (M2 43 0 = 0) ∧ (M2 43 14 = 0 ∨ (M2 43 14 = 1 ∧ MdS (cfM M1) (M2 43 30) (M2 43 29) (M2 58))) ∧ Sm [43, 57, 58, 59] M1 M2 ∧ Fm [0, 14, 29, 30] M1 M2) : r9 = s9 ∧ Inv M2 := by
  obtain ⟨hpc, hSc, h0c, hFc⟩ := q1
  obtain ⟨hpr, htr, hKr, hFr, hJr⟩ := q2
  have ec : cf M1 = cf M := cf_e (hFc 1 (by decide)) (hFc 2 (by decide)) (hFc 6 (by decide)) (hFc 7 (by decide)) (hFc 8 (by decide)) (hFc 9 (by decide)) (hFc 10 (by decide)) (hFc 11 (by decide))
  have em : cfM M1 = cf M := by
    have e : cfM M1 = cfM M := cfM_e (congrFun (hFc 43 (by decide)) _) (congrFun (hFc 43 (by decide)) _) (congrFun (hFc 43 (by decide)) _) (congrFun (hFc 43 (by decide)) _) (congrFun (hFc 43 (by decide)) _) (congrFun (hFc 43 (by decide)) _) (congrFun (hFc 43 (by decide)) _) (hFc 44 (by decide)) (hFc 45 (by decide)) (hFc 46 (by decide)) (hFc 47 (by decide)) (hFc 48 (by decide))
    rw [e]; exact h.2.2.1
  have er : cfM M2 = cfM M1 := cfM_e (hJr 1 (by decide)) (hJr 3 (by decide)) (hJr 4 (by decide)) (hJr 5 (by decide)) (hJr 6 (by decide)) (hJr 7 (by decide)) (hJr 10 (by decide)) (hFr 44 (by decide)) (hFr 45 (by decide)) (hFr 46 (by decide)) (hFr 47 (by decide)) (hFr 48 (by decide))
  have e17 : M1 43 17 = M 3 0 := by rw [hFc 43 (by decide)]; exact h.2.2.2.1
  obtain ⟨i0, it, ib, i1, i2, i3, i4, i5, i6, i7, i8⟩ := id h.1
  obtain ⟨k1, k2, k3⟩ := id h.2.1
  rw [h.2.2.1] at k1 k2 k3
  refine ⟨?_, Inv_mk (M1 := M1) (fun k hk => hFr k (by simp; omega)) ?_ (by rw [er, em, ec]) ?_ ?_ ?_ ?_ ?_⟩
  · exact PMa_one hpc (by rw [em] at hpr; exact hpr)
  · exact InvC_q h.1 ec (Or.inl ⟨by rw [hFc 3 (by decide)], hFc 5 (by decide)⟩) (by rw [hFc 15 (by decide)]; exact i1) (kZa (hFc 17 (by decide)) (hFc 19 (by decide)) (hFc 20 (by decide)) i2) (kSv (hFc 21 (by decide)) (hFc 22 (by decide)) (hFc 23 (by decide)) i3) (kSt (hFc 24 (by decide)) (hFc 25 (by decide)) (hFc 26 (by decide)) i4) (Or.inr ⟨h0c, hSc⟩) (by rw [hFc 37 (by decide)]; exact i6) (Z0b_c (hFc 39 (by decide)) (hFc 41 (by decide)) (hFc 42 (by decide)) i7) (MoC_c (hFc 34 (by decide)) (hFc 35 (by decide)) i8)
  · rw [hJr 17 (by decide), e17]; rw [hFc 3 (by decide)]
  · intro j q1 q2; rw [hFc 3 (by decide)] at q2; rw [hFr 49 (by decide), hFc 49 (by decide), hFc 5 (by decide)]; exact h.2.2.2.2 j q1 q2
  · rw [ec]; exact kKn ((hJr 13 (by decide)).trans (congrFun (hFc 43 (by decide)) _)) ((hFr 52 (by decide)).trans (hFc 52 (by decide))) k1
  · rw [ec]; rw [em] at hKr; exact hKr
  · rw [ec]; exact kKo ((hJr 15 (by decide)).trans (congrFun (hFc 43 (by decide)) _)) ((hJr 32 (by decide)).trans (congrFun (hFc 43 (by decide)) _)) ((hJr 33 (by decide)).trans (congrFun (hFc 43 (by decide)) _)) k3
theorem st_motif {M M1 M2 : Mem} {m : Int} {r9 s9 : Int} (h : Inv M) (q1 : (PMo (cf M) m r9) ∧ (MoC (cf M) M1) ∧ (M1 37 4 = 120) ∧ (Z0b M1) ∧ Sm [34, 35, 37, 38, 39, 40, 41, 42] M M1) (q2 : (PMo (cfM M1) m s9) ∧ (M2 43 0 = 0) ∧ (M2 43 15 = 0 ∨ ((1 ≤ M2 43 15 ∧ M2 43 15 ≤ 6) ∧ FM (fun _ => true) (moK (cfM M1) (M2 43 15)) (M1 43 1 ^ ((M2 43 15)).toNat) (M2 43 32) ∧ M2 43 33 = moK (cfM M1) (M2 43 15) (M2 43 32))) ∧ Sm [43, 51, 53] M1 M2 ∧ Fm [0, 15, 32, 33] M1 M2) : r9 = s9 ∧ Inv M2 := by
  obtain ⟨hpc, hCc, hwdc, hZc, hFc⟩ := q1
  obtain ⟨hpr, htr, hKr, hFr, hJr⟩ := q2
  have ec : cf M1 = cf M := cf_e (hFc 1 (by decide)) (hFc 2 (by decide)) (hFc 6 (by decide)) (hFc 7 (by decide)) (hFc 8 (by decide)) (hFc 9 (by decide)) (hFc 10 (by decide)) (hFc 11 (by decide))
  have em : cfM M1 = cf M := by
    have e : cfM M1 = cfM M := cfM_e (congrFun (hFc 43 (by decide)) _) (congrFun (hFc 43 (by decide)) _) (congrFun (hFc 43 (by decide)) _) (congrFun (hFc 43 (by decide)) _) (congrFun (hFc 43 (by decide)) _) (congrFun (hFc 43 (by decide)) _) (congrFun (hFc 43 (by decide)) _) (hFc 44 (by decide)) (hFc 45 (by decide)) (hFc 46 (by decide)) (hFc 47 (by decide)) (hFc 48 (by decide))
    rw [e]; exact h.2.2.1
  have er : cfM M2 = cfM M1 := cfM_e (hJr 1 (by decide)) (hJr 3 (by decide)) (hJr 4 (by decide)) (hJr 5 (by decide)) (hJr 6 (by decide)) (hJr 7 (by decide)) (hJr 10 (by decide)) (hFr 44 (by decide)) (hFr 45 (by decide)) (hFr 46 (by decide)) (hFr 47 (by decide)) (hFr 48 (by decide))
  have e17 : M1 43 17 = M 3 0 := by rw [hFc 43 (by decide)]; exact h.2.2.2.1
  obtain ⟨i0, it, ib, i1, i2, i3, i4, i5, i6, i7, i8⟩ := id h.1
  obtain ⟨k1, k2, k3⟩ := id h.2.1
  rw [h.2.2.1] at k1 k2 k3
  refine ⟨?_, Inv_mk (M1 := M1) (fun k hk => hFr k (by simp; omega)) ?_ (by rw [er, em, ec]) ?_ ?_ ?_ ?_ ?_⟩
  · exact PMo_one hpc (by rw [em] at hpr; exact hpr)
  · exact InvC_q h.1 ec (Or.inl ⟨by rw [hFc 3 (by decide)], hFc 5 (by decide)⟩) (by rw [hFc 15 (by decide)]; exact i1) (kZa (hFc 17 (by decide)) (hFc 19 (by decide)) (hFc 20 (by decide)) i2) (kSv (hFc 21 (by decide)) (hFc 22 (by decide)) (hFc 23 (by decide)) i3) (kSt (hFc 24 (by decide)) (hFc 25 (by decide)) (hFc 26 (by decide)) i4) (kMd (hFc 29 (by decide)) (hFc 30 (by decide)) i5) (hwdc) (hZc) (hCc)
  · rw [hJr 17 (by decide), e17]; rw [hFc 3 (by decide)]
  · intro j q1 q2; rw [hFc 3 (by decide)] at q2; rw [hFr 49 (by decide), hFc 49 (by decide), hFc 5 (by decide)]; exact h.2.2.2.2 j q1 q2
  · rw [ec]; exact kKn ((hJr 13 (by decide)).trans (congrFun (hFc 43 (by decide)) _)) ((hFr 52 (by decide)).trans (hFc 52 (by decide))) k1
  · rw [ec]; exact kKm ((hJr 14 (by decide)).trans (congrFun (hFc 43 (by decide)) _)) ((hJr 29 (by decide)).trans (congrFun (hFc 43 (by decide)) _)) ((hJr 30 (by decide)).trans (congrFun (hFc 43 (by decide)) _)) ((hFr 58 (by decide)).trans (hFc 58 (by decide))) k2
  · rw [ec]; rw [em] at hKr; have e1 : M1 43 1 = kN (cf M) := congrArg kN em; rw [e1] at hKr; exact hKr
theorem st_motifAt {M M1 M2 : Mem} {m i : Int} {r9 s9 : Int} (h : Inv M) (q1 : (PMoA (cf M) m i r9) ∧ (MoC (cf M) M1) ∧ (M1 37 4 = 120) ∧ (Z0b M1) ∧ Sm [34, 35, 37, 38, 39, 40, 41, 42] M M1) (q2 : (PMoA (cfM M1) m i s9) ∧ (M2 43 0 = 0) ∧ (M2 43 15 = 0 ∨ ((1 ≤ M2 43 15 ∧ M2 43 15 ≤ 6) ∧ FM (fun _ => true) (moK (cfM M1) (M2 43 15)) (M1 43 1 ^ ((M2 43 15)).toNat) (M2 43 32) ∧ M2 43 33 = moK (cfM M1) (M2 43 15) (M2 43 32))) ∧ Sm [43, 51, 53] M1 M2 ∧ Fm [0, 15, 32, 33] M1 M2) : r9 = s9 ∧ Inv M2 := by
  obtain ⟨hpc, hCc, hwdc, hZc, hFc⟩ := q1
  obtain ⟨hpr, htr, hKr, hFr, hJr⟩ := q2
  have ec : cf M1 = cf M := cf_e (hFc 1 (by decide)) (hFc 2 (by decide)) (hFc 6 (by decide)) (hFc 7 (by decide)) (hFc 8 (by decide)) (hFc 9 (by decide)) (hFc 10 (by decide)) (hFc 11 (by decide))
  have em : cfM M1 = cf M := by
    have e : cfM M1 = cfM M := cfM_e (congrFun (hFc 43 (by decide)) _) (congrFun (hFc 43 (by decide)) _) (congrFun (hFc 43 (by decide)) _) (congrFun (hFc 43 (by decide)) _) (congrFun (hFc 43 (by decide)) _) (congrFun (hFc 43 (by decide)) _) (congrFun (hFc 43 (by decide)) _) (hFc 44 (by decide)) (hFc 45 (by decide)) (hFc 46 (by decide)) (hFc 47 (by decide)) (hFc 48 (by decide))
    rw [e]; exact h.2.2.1
  have er : cfM M2 = cfM M1 := cfM_e (hJr 1 (by decide)) (hJr 3 (by decide)) (hJr 4 (by decide)) (hJr 5 (by decide)) (hJr 6 (by decide)) (hJr 7 (by decide)) (hJr 10 (by decide)) (hFr 44 (by decide)) (hFr 45 (by decide)) (hFr 46 (by decide)) (hFr 47 (by decide)) (hFr 48 (by decide))
  have e17 : M1 43 17 = M 3 0 := by rw [hFc 43 (by decide)]; exact h.2.2.2.1
  obtain ⟨i0, it, ib, i1, i2, i3, i4, i5, i6, i7, i8⟩ := id h.1
  obtain ⟨k1, k2, k3⟩ := id h.2.1
  rw [h.2.2.1] at k1 k2 k3
  refine ⟨?_, Inv_mk (M1 := M1) (fun k hk => hFr k (by simp; omega)) ?_ (by rw [er, em, ec]) ?_ ?_ ?_ ?_ ?_⟩
  · exact PMoA_one hpc (by rw [em] at hpr; exact hpr)
  · exact InvC_q h.1 ec (Or.inl ⟨by rw [hFc 3 (by decide)], hFc 5 (by decide)⟩) (by rw [hFc 15 (by decide)]; exact i1) (kZa (hFc 17 (by decide)) (hFc 19 (by decide)) (hFc 20 (by decide)) i2) (kSv (hFc 21 (by decide)) (hFc 22 (by decide)) (hFc 23 (by decide)) i3) (kSt (hFc 24 (by decide)) (hFc 25 (by decide)) (hFc 26 (by decide)) i4) (kMd (hFc 29 (by decide)) (hFc 30 (by decide)) i5) (hwdc) (hZc) (hCc)
  · rw [hJr 17 (by decide), e17]; rw [hFc 3 (by decide)]
  · intro j q1 q2; rw [hFc 3 (by decide)] at q2; rw [hFr 49 (by decide), hFc 49 (by decide), hFc 5 (by decide)]; exact h.2.2.2.2 j q1 q2
  · rw [ec]; exact kKn ((hJr 13 (by decide)).trans (congrFun (hFc 43 (by decide)) _)) ((hFr 52 (by decide)).trans (hFc 52 (by decide))) k1
  · rw [ec]; exact kKm ((hJr 14 (by decide)).trans (congrFun (hFc 43 (by decide)) _)) ((hJr 29 (by decide)).trans (congrFun (hFc 43 (by decide)) _)) ((hJr 30 (by decide)).trans (congrFun (hFc 43 (by decide)) _)) ((hFr 58 (by decide)).trans (hFc 58 (by decide))) k2
  · rw [ec]; rw [em] at hKr; have e1 : M1 43 1 = kN (cf M) := congrArg kN em; rw [e1] at hKr; exact hKr
theorem st_edits {M M1 M2 : Mem} {a b : Int} {r9 s9 : Int} (h : Inv M) (q1 : (PEd (cf M) a b r9) ∧ Sm [32] M M1) (q2 : (M2 43 0 = 0) ∧ (PEd (cfM M1) a b s9) ∧ Sm [43, 56] M1 M2 ∧ Fm [0] M1 M2) : r9 = s9 ∧ Inv M2 := by
  obtain ⟨hpc, hFc⟩ := q1
  obtain ⟨htr, hpr, hFr, hJr⟩ := q2
  have ec : cf M1 = cf M := cf_e (hFc 1 (by decide)) (hFc 2 (by decide)) (hFc 6 (by decide)) (hFc 7 (by decide)) (hFc 8 (by decide)) (hFc 9 (by decide)) (hFc 10 (by decide)) (hFc 11 (by decide))
  have em : cfM M1 = cf M := by
    have e : cfM M1 = cfM M := cfM_e (congrFun (hFc 43 (by decide)) _) (congrFun (hFc 43 (by decide)) _) (congrFun (hFc 43 (by decide)) _) (congrFun (hFc 43 (by decide)) _) (congrFun (hFc 43 (by decide)) _) (congrFun (hFc 43 (by decide)) _) (congrFun (hFc 43 (by decide)) _) (hFc 44 (by decide)) (hFc 45 (by decide)) (hFc 46 (by decide)) (hFc 47 (by decide)) (hFc 48 (by decide))
    rw [e]; exact h.2.2.1
  have er : cfM M2 = cfM M1 := cfM_e (hJr 1 (by decide)) (hJr 3 (by decide)) (hJr 4 (by decide)) (hJr 5 (by decide)) (hJr 6 (by decide)) (hJr 7 (by decide)) (hJr 10 (by decide)) (hFr 44 (by decide)) (hFr 45 (by decide)) (hFr 46 (by decide)) (hFr 47 (by decide)) (hFr 48 (by decide))
  have e17 : M1 43 17 = M 3 0 := by rw [hFc 43 (by decide)]; exact h.2.2.2.1
  obtain ⟨i0, it, ib, i1, i2, i3, i4, i5, i6, i7, i8⟩ := id h.1
  obtain ⟨k1, k2, k3⟩ := id h.2.1
  rw [h.2.2.1] at k1 k2 k3
  refine ⟨?_, Inv_mk (M1 := M1) (fun k hk => hFr k (by simp; omega)) ?_ (by rw [er, em, ec]) ?_ ?_ ?_ ?_ ?_⟩
  · rw [em] at hpr
    unfold PEd at hpc hpr
    rw [hpc, hpr]
  · exact InvC_q h.1 ec (Or.inl ⟨by rw [hFc 3 (by decide)], hFc 5 (by decide)⟩) (by rw [hFc 15 (by decide)]; exact i1) (kZa (hFc 17 (by decide)) (hFc 19 (by decide)) (hFc 20 (by decide)) i2) (kSv (hFc 21 (by decide)) (hFc 22 (by decide)) (hFc 23 (by decide)) i3) (kSt (hFc 24 (by decide)) (hFc 25 (by decide)) (hFc 26 (by decide)) i4) (kMd (hFc 29 (by decide)) (hFc 30 (by decide)) i5) (by rw [hFc 37 (by decide)]; exact i6) (Z0b_c (hFc 39 (by decide)) (hFc 41 (by decide)) (hFc 42 (by decide)) i7) (MoC_c (hFc 34 (by decide)) (hFc 35 (by decide)) i8)
  · rw [hJr 17 (by decide), e17]; rw [hFc 3 (by decide)]
  · intro j q1 q2; rw [hFc 3 (by decide)] at q2; rw [hFr 49 (by decide), hFc 49 (by decide), hFc 5 (by decide)]; exact h.2.2.2.2 j q1 q2
  · rw [ec]; exact kKn ((hJr 13 (by decide)).trans (congrFun (hFc 43 (by decide)) _)) ((hFr 52 (by decide)).trans (hFc 52 (by decide))) k1
  · rw [ec]; exact kKm ((hJr 14 (by decide)).trans (congrFun (hFc 43 (by decide)) _)) ((hJr 29 (by decide)).trans (congrFun (hFc 43 (by decide)) _)) ((hJr 30 (by decide)).trans (congrFun (hFc 43 (by decide)) _)) ((hFr 58 (by decide)).trans (hFc 58 (by decide))) k2
  · rw [ec]; exact kKo ((hJr 15 (by decide)).trans (congrFun (hFc 43 (by decide)) _)) ((hJr 32 (by decide)).trans (congrFun (hFc 43 (by decide)) _)) ((hJr 33 (by decide)).trans (congrFun (hFc 43 (by decide)) _)) k3
theorem st_editsFrom {M M1 M2 : Mem} {w : Int} {r9 s9 : Int} (h : Inv M) (q1 : (M1 3 0 = 0) ∧ (PEf (cf M) (M 3 0) (M 5) w r9) ∧ Sm [3, 4, 32] M M1) (q2 : (M2 43 0 = 0) ∧ (M2 43 17 = 0) ∧ (PEf (cfM M1) (M1 43 17) (M1 49) w s9) ∧ Sm [43, 50, 56] M1 M2 ∧ Fm [0, 17, 19] M1 M2) : r9 = s9 ∧ Inv M2 := by
  obtain ⟨hzc, hpc, hFc⟩ := q1
  obtain ⟨htr, hzr, hpr, hFr, hJr⟩ := q2
  have ec : cf M1 = cf M := cf_e (hFc 1 (by decide)) (hFc 2 (by decide)) (hFc 6 (by decide)) (hFc 7 (by decide)) (hFc 8 (by decide)) (hFc 9 (by decide)) (hFc 10 (by decide)) (hFc 11 (by decide))
  have em : cfM M1 = cf M := by
    have e : cfM M1 = cfM M := cfM_e (congrFun (hFc 43 (by decide)) _) (congrFun (hFc 43 (by decide)) _) (congrFun (hFc 43 (by decide)) _) (congrFun (hFc 43 (by decide)) _) (congrFun (hFc 43 (by decide)) _) (congrFun (hFc 43 (by decide)) _) (congrFun (hFc 43 (by decide)) _) (hFc 44 (by decide)) (hFc 45 (by decide)) (hFc 46 (by decide)) (hFc 47 (by decide)) (hFc 48 (by decide))
    rw [e]; exact h.2.2.1
  have er : cfM M2 = cfM M1 := cfM_e (hJr 1 (by decide)) (hJr 3 (by decide)) (hJr 4 (by decide)) (hJr 5 (by decide)) (hJr 6 (by decide)) (hJr 7 (by decide)) (hJr 10 (by decide)) (hFr 44 (by decide)) (hFr 45 (by decide)) (hFr 46 (by decide)) (hFr 47 (by decide)) (hFr 48 (by decide))
  have e17 : M1 43 17 = M 3 0 := by rw [hFc 43 (by decide)]; exact h.2.2.2.1
  obtain ⟨i0, it, ib, i1, i2, i3, i4, i5, i6, i7, i8⟩ := id h.1
  obtain ⟨k1, k2, k3⟩ := id h.2.1
  rw [h.2.2.1] at k1 k2 k3
  refine ⟨?_, Inv_mk (M1 := M1) (fun k hk => hFr k (by simp; omega)) ?_ (by rw [er, em, ec]) ?_ ?_ ?_ ?_ ?_⟩
  · rw [em, e17, hFc 49 (by decide)] at hpr
    exact PEf_one hpc (PEf_c h.1.1 it.1 h.2.2.2.2 hpr)
  · exact InvC_q h.1 ec (Or.inr hzc) (by rw [hFc 15 (by decide)]; exact i1) (kZa (hFc 17 (by decide)) (hFc 19 (by decide)) (hFc 20 (by decide)) i2) (kSv (hFc 21 (by decide)) (hFc 22 (by decide)) (hFc 23 (by decide)) i3) (kSt (hFc 24 (by decide)) (hFc 25 (by decide)) (hFc 26 (by decide)) i4) (kMd (hFc 29 (by decide)) (hFc 30 (by decide)) i5) (by rw [hFc 37 (by decide)]; exact i6) (Z0b_c (hFc 39 (by decide)) (hFc 41 (by decide)) (hFc 42 (by decide)) i7) (MoC_c (hFc 34 (by decide)) (hFc 35 (by decide)) i8)
  · rw [hzr, hzc]
  · intro j q1 q2; rw [hzc] at q2; omega
  · rw [ec]; exact kKn ((hJr 13 (by decide)).trans (congrFun (hFc 43 (by decide)) _)) ((hFr 52 (by decide)).trans (hFc 52 (by decide))) k1
  · rw [ec]; exact kKm ((hJr 14 (by decide)).trans (congrFun (hFc 43 (by decide)) _)) ((hJr 29 (by decide)).trans (congrFun (hFc 43 (by decide)) _)) ((hJr 30 (by decide)).trans (congrFun (hFc 43 (by decide)) _)) ((hFr 58 (by decide)).trans (hFc 58 (by decide))) k2
  · rw [ec]; exact kKo ((hJr 15 (by decide)).trans (congrFun (hFc 43 (by decide)) _)) ((hJr 32 (by decide)).trans (congrFun (hFc 43 (by decide)) _)) ((hJr 33 (by decide)).trans (congrFun (hFc 43 (by decide)) _)) k3
theorem st_from {M M1 M2 : Mem} {w : Int} {r9 s9 : Int} (h : Inv M) (q1 : (M1 3 0 = 0) ∧ (((allL (M 5) (M 1 0) (M 3 0) ∧ (0 ≤ w ∧ w < M 6 0) ∧ M 3 0 = M 6 1) ∧ r9 = dst (M 2) (M 1 1) (fun p => M 5 p - 97) (fun p => M 7 (w * 7 + p)) (M 6 1)) ∨ (¬ (allL (M 5) (M 1 0) (M 3 0) ∧ (0 ≤ w ∧ w < M 6 0) ∧ M 3 0 = M 6 1) ∧ r9 = -1)) ∧ Sm [3, 4] M M1) (q2 : (M2 43 0 = 0) ∧ (M2 43 17 = 0) ∧ (((allL (M1 49) (M1 43 1) (M1 43 17) ∧ (0 ≤ w ∧ w < M1 43 6) ∧ M1 43 17 = M1 43 7) ∧ s9 = dst (M1 44) (M1 43 3) (fun p => M1 49 p - 97) (fun p => M1 45 (w * 7 + p)) (M1 43 7)) ∨ (¬ (allL (M1 49) (M1 43 1) (M1 43 17) ∧ (0 ≤ w ∧ w < M1 43 6) ∧ M1 43 17 = M1 43 7) ∧ s9 = -1)) ∧ Sm [43, 50, 51] M1 M2 ∧ Fm [0, 17, 19] M1 M2) : r9 = s9 ∧ Inv M2 := by
  obtain ⟨hzc, hpc, hFc⟩ := q1
  obtain ⟨htr, hzr, hpr, hFr, hJr⟩ := q2
  have ec : cf M1 = cf M := cf_e (hFc 1 (by decide)) (hFc 2 (by decide)) (hFc 6 (by decide)) (hFc 7 (by decide)) (hFc 8 (by decide)) (hFc 9 (by decide)) (hFc 10 (by decide)) (hFc 11 (by decide))
  have em : cfM M1 = cf M := by
    have e : cfM M1 = cfM M := cfM_e (congrFun (hFc 43 (by decide)) _) (congrFun (hFc 43 (by decide)) _) (congrFun (hFc 43 (by decide)) _) (congrFun (hFc 43 (by decide)) _) (congrFun (hFc 43 (by decide)) _) (congrFun (hFc 43 (by decide)) _) (congrFun (hFc 43 (by decide)) _) (hFc 44 (by decide)) (hFc 45 (by decide)) (hFc 46 (by decide)) (hFc 47 (by decide)) (hFc 48 (by decide))
    rw [e]; exact h.2.2.1
  have er : cfM M2 = cfM M1 := cfM_e (hJr 1 (by decide)) (hJr 3 (by decide)) (hJr 4 (by decide)) (hJr 5 (by decide)) (hJr 6 (by decide)) (hJr 7 (by decide)) (hJr 10 (by decide)) (hFr 44 (by decide)) (hFr 45 (by decide)) (hFr 46 (by decide)) (hFr 47 (by decide)) (hFr 48 (by decide))
  have e17 : M1 43 17 = M 3 0 := by rw [hFc 43 (by decide)]; exact h.2.2.2.1
  obtain ⟨i0, it, ib, i1, i2, i3, i4, i5, i6, i7, i8⟩ := id h.1
  obtain ⟨k1, k2, k3⟩ := id h.2.1
  rw [h.2.2.1] at k1 k2 k3
  refine ⟨?_, Inv_mk (M1 := M1) (fun k hk => hFr k (by simp; omega)) ?_ (by rw [er, em, ec]) ?_ ?_ ?_ ?_ ?_⟩
  · obtain ⟨l1, l2, l3, l4, l5, l6, l7, l8, l9, l10, l11, l12⟩ := Lk h
    rw [hFc 43 (by decide), hFc 44 (by decide), hFc 45 (by decide), hFc 49 (by decide), l1, l2, l5, l6, l7, l8, h.2.2.2.1] at hpr
    exact PFr_c (c := cf M) (fun j q1 q2 => (h.2.2.2.2 j q1 q2).symm) hpc hpr (show 0 ≤ M 6 1 from (wf_l i0).1)
  · exact InvC_q h.1 ec (Or.inr hzc) (by rw [hFc 15 (by decide)]; exact i1) (kZa (hFc 17 (by decide)) (hFc 19 (by decide)) (hFc 20 (by decide)) i2) (kSv (hFc 21 (by decide)) (hFc 22 (by decide)) (hFc 23 (by decide)) i3) (kSt (hFc 24 (by decide)) (hFc 25 (by decide)) (hFc 26 (by decide)) i4) (kMd (hFc 29 (by decide)) (hFc 30 (by decide)) i5) (by rw [hFc 37 (by decide)]; exact i6) (Z0b_c (hFc 39 (by decide)) (hFc 41 (by decide)) (hFc 42 (by decide)) i7) (MoC_c (hFc 34 (by decide)) (hFc 35 (by decide)) i8)
  · rw [hzr, hzc]
  · intro j q1 q2; rw [hzc] at q2; omega
  · rw [ec]; exact kKn ((hJr 13 (by decide)).trans (congrFun (hFc 43 (by decide)) _)) ((hFr 52 (by decide)).trans (hFc 52 (by decide))) k1
  · rw [ec]; exact kKm ((hJr 14 (by decide)).trans (congrFun (hFc 43 (by decide)) _)) ((hJr 29 (by decide)).trans (congrFun (hFc 43 (by decide)) _)) ((hJr 30 (by decide)).trans (congrFun (hFc 43 (by decide)) _)) ((hFr 58 (by decide)).trans (hFc 58 (by decide))) k2
  · rw [ec]; exact kKo ((hJr 15 (by decide)).trans (congrFun (hFc 43 (by decide)) _)) ((hJr 32 (by decide)).trans (congrFun (hFc 43 (by decide)) _)) ((hJr 33 (by decide)).trans (congrFun (hFc 43 (by decide)) _)) k3
theorem st_apart {M M1 M2 : Mem} {a b : Int} {r9 s9 : Int} (h : Inv M) (q1 : (r9 = if (0 ≤ a ∧ a < M 6 0) ∧ (0 ≤ b ∧ b < M 6 0) then dst (M 2) (M 1 1) (fun p => M 7 (a * 7 + p)) (fun p => M 7 (b * 7 + p)) (M 6 1) else -1) ∧ M1 = M) (q2 : (M2 43 0 = 0) ∧ (s9 = if (0 ≤ a ∧ a < M1 43 6) ∧ (0 ≤ b ∧ b < M1 43 6) then dst (M1 44) (M1 43 3) (fun p => M1 45 (a * 7 + p)) (fun p => M1 45 (b * 7 + p)) (M1 43 7) else -1) ∧ Sm [43, 51] M1 M2 ∧ Fm [0] M1 M2) : r9 = s9 ∧ Inv M2 := by
  obtain ⟨hvc, hMc⟩ := q1
  obtain ⟨htr, hpr, hFr, hJr⟩ := q2
  replace hMc := hMc.symm
  subst hMc
  have ec : cf M = cf M := cf_e (rfl) (rfl) (rfl) (rfl) (rfl) (rfl) (rfl) (rfl)
  have em : cfM M = cf M := by
    have e : cfM M = cfM M := cfM_e (rfl) (rfl) (rfl) (rfl) (rfl) (rfl) (rfl) (rfl) (rfl) (rfl) (rfl) (rfl)
    rw [e]; exact h.2.2.1
  have er : cfM M2 = cfM M := cfM_e (hJr 1 (by decide)) (hJr 3 (by decide)) (hJr 4 (by decide)) (hJr 5 (by decide)) (hJr 6 (by decide)) (hJr 7 (by decide)) (hJr 10 (by decide)) (hFr 44 (by decide)) (hFr 45 (by decide)) (hFr 46 (by decide)) (hFr 47 (by decide)) (hFr 48 (by decide))
  have e17 : M 43 17 = M 3 0 := h.2.2.2.1
  obtain ⟨i0, it, ib, i1, i2, i3, i4, i5, i6, i7, i8⟩ := id h.1
  obtain ⟨k1, k2, k3⟩ := id h.2.1
  rw [h.2.2.1] at k1 k2 k3
  refine ⟨?_, Inv_mk (M1 := M) (fun k hk => hFr k (by simp; omega)) ?_ (by rw [er, em, ec]) ?_ ?_ ?_ ?_ ?_⟩
  · obtain ⟨l1, l2, l3, l4, l5, l6, l7, l8, l9, l10, l11, l12⟩ := Lk h
    rw [l2, l5, l6, l7, l8] at hpr
    rw [hvc, hpr]
  · exact h.1
  · rw [hJr 17 (by decide), e17]
  · intro j q1 q2; rw [hFr 49 (by decide)]; exact h.2.2.2.2 j q1 q2
  · rw [ec]; exact kKn (hJr 13 (by decide)) (hFr 52 (by decide)) k1
  · rw [ec]; exact kKm (hJr 14 (by decide)) (hJr 29 (by decide)) (hJr 30 (by decide)) (hFr 58 (by decide)) k2
  · rw [ec]; exact kKo (hJr 15 (by decide)) (hJr 32 (by decide)) (hJr 33 (by decide)) k3
theorem st_of {M M1 M2 : Mem} {w g9 : Int} {r9 s9 : Int} (h : Inv M) (q1 : (r9 = if (0 ≤ w ∧ w < M 6 0) ∧ 0 ≤ g9 ∧ g9 ≤ M 6 1 then (if g9 = 0 then M 8 w else M 7 (w * 7 + g9 - 1)) else -1) ∧ M1 = M) (q2 : (s9 = if (0 ≤ w ∧ w < M1 43 6) ∧ 0 ≤ g9 ∧ g9 ≤ M1 43 7 then (if g9 = 0 then M1 46 w else M1 45 (w * 7 + g9 - 1)) else -1) ∧ M2 = (up2 M1 43 0 0)) : r9 = s9 ∧ Inv M2 := by
  obtain ⟨hvc, hMc⟩ := q1
  obtain ⟨hvr, hMr⟩ := q2
  replace hMc := hMc.symm
  subst hMc
  subst hMr
  have ec : cf M = cf M := cf_e (rfl) (rfl) (rfl) (rfl) (rfl) (rfl) (rfl) (rfl)
  have em : cfM M = cf M := by
    have e : cfM M = cfM M := cfM_e (rfl) (rfl) (rfl) (rfl) (rfl) (rfl) (rfl) (rfl) (rfl) (rfl) (rfl) (rfl)
    rw [e]; exact h.2.2.1
  have er : cfM (up2 M 43 0 0) = cfM M := cfM_e (rd_ne (by decide)) (rd_ne (by decide)) (rd_ne (by decide)) (rd_ne (by decide)) (rd_ne (by decide)) (rd_ne (by decide)) (rd_ne (by decide)) (up2_ne (by decide)) (up2_ne (by decide)) (up2_ne (by decide)) (up2_ne (by decide)) (up2_ne (by decide))
  have e17 : M 43 17 = M 3 0 := h.2.2.2.1
  obtain ⟨i0, it, ib, i1, i2, i3, i4, i5, i6, i7, i8⟩ := id h.1
  obtain ⟨k1, k2, k3⟩ := id h.2.1
  rw [h.2.2.1] at k1 k2 k3
  refine ⟨?_, Inv_mk (M1 := M) (fun k hk => up2_ne (by omega)) ?_ (by rw [er, em, ec]) ?_ ?_ ?_ ?_ ?_⟩
  · obtain ⟨l1, l2, l3, l4, l5, l6, l7, l8, l9, l10, l11, l12⟩ := Lk h
    rw [l6, l7, l8, l9] at hvr
    rw [hvc, hvr]
  · exact h.1
  · rw [rd_ne (by decide), e17]
  · intro j q1 q2; rw [up2_ne (by decide)]; exact h.2.2.2.2 j q1 q2
  · rw [ec]; exact kKn (rd_ne (by decide)) (up2_ne (by decide)) k1
  · rw [ec]; exact kKm (rd_ne (by decide)) (rd_ne (by decide)) (rd_ne (by decide)) (up2_ne (by decide)) k2
  · rw [ec]; exact kKo (rd_ne (by decide)) (rd_ne (by decide)) (rd_ne (by decide)) k3
theorem st_count {M M1 M2 : Mem} {w : Int} {r9 s9 : Int} (h : Inv M) (q1 : (r9 = cnF ((M 3 0)) (cf M) w) ∧ M1 = M) (q2 : (s9 = cnF (M1 43 17) (cfM M1) w) ∧ M2 = (up2 M1 43 0 0)) : r9 = s9 ∧ Inv M2 := by
  obtain ⟨hvc, hMc⟩ := q1
  obtain ⟨hvr, hMr⟩ := q2
  replace hMc := hMc.symm
  subst hMc
  subst hMr
  have ec : cf M = cf M := cf_e (rfl) (rfl) (rfl) (rfl) (rfl) (rfl) (rfl) (rfl)
  have em : cfM M = cf M := by
    have e : cfM M = cfM M := cfM_e (rfl) (rfl) (rfl) (rfl) (rfl) (rfl) (rfl) (rfl) (rfl) (rfl) (rfl) (rfl)
    rw [e]; exact h.2.2.1
  have er : cfM (up2 M 43 0 0) = cfM M := cfM_e (rd_ne (by decide)) (rd_ne (by decide)) (rd_ne (by decide)) (rd_ne (by decide)) (rd_ne (by decide)) (rd_ne (by decide)) (rd_ne (by decide)) (up2_ne (by decide)) (up2_ne (by decide)) (up2_ne (by decide)) (up2_ne (by decide)) (up2_ne (by decide))
  have e17 : M 43 17 = M 3 0 := h.2.2.2.1
  obtain ⟨i0, it, ib, i1, i2, i3, i4, i5, i6, i7, i8⟩ := id h.1
  obtain ⟨k1, k2, k3⟩ := id h.2.1
  rw [h.2.2.1] at k1 k2 k3
  refine ⟨?_, Inv_mk (M1 := M) (fun k hk => up2_ne (by omega)) ?_ (by rw [er, em, ec]) ?_ ?_ ?_ ?_ ?_⟩
  · rw [h.2.2.1, h.2.2.2.1] at hvr
    rw [hvc, hvr]
  · exact h.1
  · rw [rd_ne (by decide), e17]
  · intro j q1 q2; rw [up2_ne (by decide)]; exact h.2.2.2.2 j q1 q2
  · rw [ec]; exact kKn (rd_ne (by decide)) (up2_ne (by decide)) k1
  · rw [ec]; exact kKm (rd_ne (by decide)) (rd_ne (by decide)) (rd_ne (by decide)) (up2_ne (by decide)) k2
  · rw [ec]; exact kKo (rd_ne (by decide)) (rd_ne (by decide)) (rd_ne (by decide)) k3
