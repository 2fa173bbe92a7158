theorem st_cost {M M1 M2 : Mem} {a b v r9 s9 : Int} (h : Inv M) (q1 : (if (0 ≤ a ∧ a ≤ 3) ∧ (0 ≤ b ∧ b ≤ 3) ∧ a ≠ b ∧ 1 ≤ v ∧ v ≤ 9 then r9 = 1 ∧ M1 2 = (up2 (up2 M 2 (a * 4 + b) v) 2 (b * 4 + a) v) 2 ∧ M1 21 0 = 0 ∧ M1 24 0 = 0 ∧ (∀ m, 0 ≤ m → m ≤ 6 → M1 34 m = -2) ∧ M1 29 0 = 0 else r9 = 0 ∧ M1 = M) ∧ Sm [2, 21, 24, 29, 34] M M1) (q2 : (if (0 ≤ a ∧ a ≤ 3) ∧ (0 ≤ b ∧ b ≤ 3) ∧ a ≠ b ∧ 1 ≤ v ∧ v ≤ 9 then s9 = 1 ∧ M2 = (up2 (up2 (up2 (up2 (up2 (up2 M1 43 0 0) 44 (4 * a + b) v) 44 (4 * b + a) v) 43 13 0) 43 14 0) 43 15 0) else s9 = 0 ∧ M2 = (up2 M1 43 0 0)) ∧ Sm [43, 44] M1 M2) : r9 = s9 ∧ Inv M2 := by
  obtain ⟨p1, hF⟩ := q1
  obtain ⟨p2, hG⟩ := q2
  obtain ⟨l1, l2, l3, l4, l5, l6, l7, l8, l9, l10, l11, l12⟩ := Lk h
  by_cases hc : (0 ≤ a ∧ a ≤ 3) ∧ (0 ≤ b ∧ b ≤ 3) ∧ a ≠ b ∧ 1 ≤ v ∧ v ≤ 9
  · rw [if_pos hc] at p1 p2
    obtain ⟨a1, a2, a3, a4, a5, a6⟩ := p1
    obtain ⟨b1, b2⟩ := p2
    refine ⟨by omega, ?_⟩
    obtain ⟨i0, it, ib, i1, i2, i3, i4, i5, i6, i7, i8⟩ := id h.1
    have e1 : cf M1 = (M 1 0, M 1 1, M 1 2, M 1 3, M1 2, M 6 0, M 6 1, M 7, M 8, M 9 0, M 10, M 11) := by
      unfold cf
      rw [hF 1 (by decide), hF 6 (by decide), hF 7 (by decide), hF 8 (by decide), hF 9 (by decide), hF 10 (by decide), hF 11 (by decide)]
    obtain ⟨h1, h2, h3, h4, h5, h6⟩ := id i0
    have g2 : ∀ j, M1 2 j = if j = b * 4 + a then v else if j = a * 4 + b then v else M 2 j := fun j => by
      rw [a2, rd_if, rd_if]
    have wf : WfK (cf M1) := by
      rw [e1]
      refine ⟨h1, h2, h3, h4, fun x y x0 x1 y0 y1 => ?_, h6⟩
      have z := h5 x y x0 x1 y0 y1
      show (x = y → M1 2 (x * 4 + y) = 0) ∧ (x ≠ y → 1 ≤ M1 2 (x * 4 + y) ∧ M1 2 (x * 4 + y) ≤ 9)
      rw [g2]
      refine ⟨fun e => ?_, fun e => ?_⟩
      · rw [if_neg (by omega), if_neg (by omega)]
        exact z.1 e
      · split
        · exact hc.2.2.2
        · split
          · exact hc.2.2.2
          · exact z.2 e
    have c1 : InvC M1 := ⟨wf, by rw [hF 3 (by decide)]; exact it, by rw [hF 3 (by decide), hF 5 (by decide)]; exact ib, by rw [hF 15 (by decide)]; exact i1, kZa (hF _ (by decide)) (hF _ (by decide)) (hF _ (by decide)) i2, Or.inl a3, Or.inl a4, Or.inl a6, by rw [hF 37 (by decide)]; exact i6, Z0b_c (hF _ (by decide)) (hF _ (by decide)) (hF _ (by decide)) i7, fun m m1 m2 => Or.inl (a5 m (by omega) m2)⟩
    have m43 : M1 43 = M 43 := hF 43 (by decide)
    have m44 : M2 44 = M1 2 := by
      funext j
      rw [g2 j, b2, rd_nc (by decide), rd_nc (by decide), rd_nc (by decide), rd_if, rd_if, rd_nc (by decide), hF 44 (by decide), l5, show 4 * b + a = b * 4 + a by omega, show 4 * a + b = a * 4 + b by omega]
    have f : ∀ j, j ≠ 0 → j ≠ 13 → j ≠ 14 → j ≠ 15 → M2 43 j = M 43 j := fun j z1 z2 z3 z4 => by rw [b2, rd_ne z4, rd_ne z3, rd_ne z2, rd_nc (by decide), rd_nc (by decide), rd_ne z1, m43]
    have e2 : cfM M2 = cf M1 := by
      rw [e1]
      unfold cfM
      rw [f 1 (by decide) (by decide) (by decide) (by decide), f 3 (by decide) (by decide) (by decide) (by decide), f 4 (by decide) (by decide) (by decide) (by decide), f 5 (by decide) (by decide) (by decide) (by decide), f 6 (by decide) (by decide) (by decide) (by decide), f 7 (by decide) (by decide) (by decide) (by decide), f 10 (by decide) (by decide) (by decide) (by decide), m44, hG 45 (by decide), hG 46 (by decide), hG 47 (by decide), hG 48 (by decide), hF 45 (by decide), hF 46 (by decide), hF 47 (by decide), hF 48 (by decide), l1, l2, l3, l4, l6, l7, l8, l9, l10, l11, l12]
    refine Inv_mk (fun k hk => hG k (by simp; omega)) c1 e2 ?_ ?_ (Or.inl ?_) (Or.inl ?_) (Or.inl ?_)
    · rw [f 17 (by decide) (by decide) (by decide) (by decide), hF 3 (by decide)]
      exact h.2.2.2.1
    · rw [hG 49 (by decide), hF 49 (by decide), hF 3 (by decide), hF 5 (by decide)]
      exact h.2.2.2.2
    · rw [b2, rd_ne (by decide), rd_ne (by decide)]; exact rd_eq
    · rw [b2, rd_ne (by decide)]; exact rd_eq
    · rw [b2]; exact rd_eq
  · rw [if_neg hc] at p1 p2
    obtain ⟨a1, a2⟩ := p1
    obtain ⟨b1, b2⟩ := p2
    refine ⟨by omega, ?_⟩
    rw [b2, a2]
    exact Inv_thr h
theorem st_part {M M1 M2 : Mem} {w p r9 s9 : Int} (h : Inv M) (q1 : (if (0 ≤ w ∧ w < M 6 0) ∧ 0 ≤ p ∧ p ≤ 2 then r9 = 1 ∧ M1 8 = (up2 M 8 w p) 8 ∧ M1 21 0 = 0 ∧ M1 24 0 = 0 ∧ M1 29 0 = 0 else r9 = 0 ∧ M1 = M) ∧ Sm [8, 21, 24, 29] M M1) (q2 : (if (0 ≤ w ∧ w < M1 43 6) ∧ 0 ≤ p ∧ p ≤ 2 then s9 = 1 ∧ M2 = up2 (up2 (up2 M1 43 0 0) 46 w p) 43 14 0 else s9 = 0 ∧ M2 = (up2 M1 43 0 0)) ∧ Sm [43, 46] M1 M2) : r9 = s9 ∧ Inv M2 := by
  obtain ⟨p1, hF⟩ := q1
  obtain ⟨p2, hG⟩ := q2
  obtain ⟨l1, l2, l3, l4, l5, l6, l7, l8, l9, l10, l11, l12⟩ := Lk h
  rw [hF 43 (by decide), l6] at p2
  by_cases hc : (0 ≤ w ∧ w < M 6 0) ∧ 0 ≤ p ∧ p ≤ 2
  · rw [if_pos hc] at p1 p2
    obtain ⟨a1, a2, a3, a4, a5⟩ := p1
    obtain ⟨b1, b2⟩ := p2
    refine ⟨by omega, ?_⟩
    obtain ⟨i0, it, ib, i1, i2, i3, i4, i5, i6, i7, i8⟩ := id h.1
    obtain ⟨k1, k2, k3⟩ := id h.2.1
    rw [h.2.2.1] at k1 k2 k3
    have e1 : cf M1 = (M 1 0, M 1 1, M 1 2, M 1 3, M 2, M 6 0, M 6 1, M 7, M1 8, M 9 0, M 10, M 11) := by
      unfold cf
      rw [hF 1 (by decide), hF 2 (by decide), hF 6 (by decide), hF 7 (by decide), hF 9 (by decide), hF 10 (by decide), hF 11 (by decide)]
    have gT : AgT (cf M) (cf M1) := by rw [e1]; exact ⟨rfl, rfl, rfl, rfl, rfl, rfl⟩
    have gK : AgK (cf M) (cf M1) := by rw [e1]; exact ⟨rfl, rfl, rfl, rfl, rfl, rfl⟩
    have g8 : ∀ j, M1 8 j = if j = w then p else M 8 j := fun j => by rw [a2, rd_if]
    obtain ⟨h1, h2, h3, h4, h5, h6, h7, h8, h9, h10, h11⟩ := id i0
    have wf : WfK (cf M1) := by
      rw [e1]
      refine ⟨h1, h2, h3, h4, h5, h6, h7, h8, h9, fun u z1 z2 => ?_, h11⟩
      show 0 ≤ M1 8 u ∧ M1 8 u ≤ 2
      rw [g8]
      split
      · exact hc.2
      · exact h10 u z1 z2
    have c1 : InvC M1 := ⟨wf, by rw [hF 3 (by decide)]; exact it, by rw [hF 3 (by decide), hF 5 (by decide)]; exact ib, by rw [hF 15 (by decide)]; exact i1, kZa (hF _ (by decide)) (hF _ (by decide)) (hF _ (by decide)) i2, Or.inl a3, Or.inl a4, Or.inl a5, by rw [hF 37 (by decide)]; exact i6, Z0b_c (hF _ (by decide)) (hF _ (by decide)) (hF _ (by decide)) i7, MoC_ag gT (MoC_c (hF _ (by decide)) (hF _ (by decide)) i8)⟩
    have m43 : M1 43 = M 43 := hF 43 (by decide)
    have m46 : M2 46 = M1 8 := by
      funext j
      rw [g8 j, b2, rd_nc (by decide), rd_if, rd_nc (by decide), hF 46 (by decide), l9]
    have f : ∀ j, j ≠ 0 → j ≠ 14 → M2 43 j = M 43 j := fun j z1 z2 => by rw [b2, rd_ne z2, rd_nc (by decide), rd_ne z1, m43]
    have e2 : cfM M2 = cf M1 := by
      rw [e1]
      unfold cfM
      rw [f 1 (by decide) (by decide), f 3 (by decide) (by decide), f 4 (by decide) (by decide), f 5 (by decide) (by decide), f 6 (by decide) (by decide), f 7 (by decide) (by decide), f 10 (by decide) (by decide), m46, hG 44 (by decide), hG 45 (by decide), hG 47 (by decide), hG 48 (by decide), hF 44 (by decide), hF 45 (by decide), hF 47 (by decide), hF 48 (by decide), l1, l2, l3, l4, l5, l6, l7, l8, l10, l11, l12]
    refine Inv_mk (fun k hk => hG k (by simp; omega)) c1 e2 ?_ ?_ (KnP_ag gK (kKn (f 13 (by decide) (by decide)) ((hG 52 (by decide)).trans (hF 52 (by decide))) k1)) (Or.inl ?_) (KoP_ag gT (kKo (f 15 (by decide) (by decide)) (f 32 (by decide) (by decide)) (f 33 (by decide) (by decide)) k3))
    · rw [f 17 (by decide) (by decide), hF 3 (by decide)]
      exact h.2.2.2.1
    · rw [hG 49 (by decide), hF 49 (by decide), hF 3 (by decide), hF 5 (by decide)]
      exact h.2.2.2.2
    · rw [b2]; exact rd_eq
  · rw [if_neg hc] at p1 p2
    obtain ⟨a1, a2⟩ := p1
    obtain ⟨b1, b2⟩ := p2
    refine ⟨by omega, ?_⟩
    rw [b2, a2]
    exact Inv_thr h
theorem st_feed {M M1 M2 : Mem} {a b c d e r9 s9 : Int} (h : Inv M) (q1 : (if (M 3 0) ≤ 20 then r9 = M 3 0 + 20 ∧ M1 3 0 = M 3 0 + 20 ∧ (∀ j, M1 5 j = if M 3 0 ≤ j ∧ j < M 3 0 + 20 then by8 (if j - M 3 0 < 4 then a else if j - M 3 0 < 8 then b else if j - M 3 0 < 12 then c else if j - M 3 0 < 16 then d else e) (24 - 8 * ((j - M 3 0) % 4)) else M 5 j) else r9 = -1 ∧ M1 = M) ∧ Sm [3, 5] M M1) (q2 : (if M1 43 17 ≤ 20 then s9 = M1 43 17 + 20 ∧ M2 43 17 = M1 43 17 + 20 ∧ M2 43 0 = 0 ∧ (∀ j, M2 49 j = if M1 43 17 ≤ j ∧ j < M1 43 17 + 20 then by8 (if j - M1 43 17 < 4 then a else if j - M1 43 17 < 8 then b else if j - M1 43 17 < 12 then c else if j - M1 43 17 < 16 then d else e) (24 - 8 * ((j - M1 43 17) % 4)) else M1 49 j) else s9 = -1 ∧ M2 = up2 M1 43 0 0) ∧ Sm [43, 49] M1 M2 ∧ Fm [0, 17] M1 M2) : r9 = s9 ∧ Inv M2 := by
  obtain ⟨p1, hF⟩ := q1
  obtain ⟨p2, hG, hJ⟩ := q2
  have m43 : M1 43 = M 43 := hF 43 (by decide)
  rw [m43, h.2.2.2.1] at p2
  obtain ⟨i0, it, ib, i1, i2, i3, i4, i5, i6, i7, i8⟩ := id h.1
  by_cases hc : M 3 0 ≤ 20
  · rw [if_pos hc] at p1 p2
    obtain ⟨a1, a2, a3⟩ := p1
    obtain ⟨b1, b2, b3, b4⟩ := p2
    refine ⟨by omega, ?_⟩
    obtain ⟨k1, k2, k3⟩ := id h.2.1
    rw [h.2.2.1] at k1 k2 k3
    have ec : cf M1 = cf M := cf_e (hF _ (by decide)) (hF _ (by decide)) (hF _ (by decide)) (hF _ (by decide)) (hF _ (by decide)) (hF _ (by decide)) (hF _ (by decide)) (hF _ (by decide))
    have c1 : InvC M1 := by
      unfold InvC
      rw [ec, a2, hF 15 (by decide), hF 37 (by decide)]
      refine ⟨i0, by omega, fun j z1 z2 => ?_, i1, kZa (hF _ (by decide)) (hF _ (by decide)) (hF _ (by decide)) i2, kSv (hF _ (by decide)) (hF _ (by decide)) (hF _ (by decide)) i3, kSt (hF _ (by decide)) (hF _ (by decide)) (hF _ (by decide)) i4, kMd (hF _ (by decide)) (hF _ (by decide)) i5, i6, Z0b_c (hF _ (by decide)) (hF _ (by decide)) (hF _ (by decide)) i7, MoC_c (hF _ (by decide)) (hF _ (by decide)) i8⟩
      rw [a3]
      split
      · exact by8_rng _ _
      · exact ib j z1 (by omega)
    have f : ∀ j, j ∉ [0, 17] → M2 43 j = M 43 j := fun j z => by rw [hJ j z, m43]
    have e2 : cfM M2 = cf M1 := by
      rw [ec, ← h.2.2.1]
      exact cfM_e (f 1 (by decide)) (f 3 (by decide)) (f 4 (by decide)) (f 5 (by decide)) (f 6 (by decide)) (f 7 (by decide)) (f 10 (by decide)) ((hG 44 (by decide)).trans (hF 44 (by decide))) ((hG 45 (by decide)).trans (hF 45 (by decide))) ((hG 46 (by decide)).trans (hF 46 (by decide))) ((hG 47 (by decide)).trans (hF 47 (by decide))) ((hG 48 (by decide)).trans (hF 48 (by decide)))
    refine Inv_mk (fun k hk => hG k (by simp; omega)) c1 e2 (by rw [b2, a2]) (fun j z1 z2 => ?_) ?_ ?_ ?_
    · rw [a2] at z2
      rw [b4 j, a3 j]
      split
      · rfl
      · rw [hF 49 (by decide)]
        exact h.2.2.2.2 j z1 (by omega)
    · rw [ec]; exact kKn (f 13 (by decide)) ((hG 52 (by decide)).trans (hF 52 (by decide))) k1
    · rw [ec]; exact kKm (f 14 (by decide)) (f 29 (by decide)) (f 30 (by decide)) ((hG 58 (by decide)).trans (hF 58 (by decide))) k2
    · rw [ec]; exact kKo (f 15 (by decide)) (f 32 (by decide)) (f 33 (by decide)) k3
  · rw [if_neg hc] at p1 p2
    obtain ⟨a1, a2⟩ := p1
    obtain ⟨b1, b2⟩ := p2
    refine ⟨by omega, ?_⟩
    rw [b2, a2]
    exact Inv_thr h
