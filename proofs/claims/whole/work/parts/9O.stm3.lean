theorem st_word {M M1 M2 : Mem} {r9 s9 : Int} (h : Inv M) (q1 : (M1 3 0 = 0) ∧ (((allL (M 5) ((M 1 0)) ((M 3 0)) ∧ (1 ≤ (M 3 0) ∧ (M 3 0) ≤ 7) ∧ (M 6 0) < 8 ∧ (0 < (M 6 0) → (M 3 0) = (M 6 1))) ∧ r9 = M 6 0 ∧ M1 6 0 = M 6 0 + 1 ∧ M1 6 1 = M 3 0 ∧ (∀ j, M1 7 j = if M 6 0 * 7 ≤ j ∧ j < M 6 0 * 7 + M 3 0 then M 5 (j - M 6 0 * 7) - 97 else M 7 j) ∧ (∀ j, M1 8 j = if j = M 6 0 then 1 else M 8 j) ∧ M1 21 0 = 0 ∧ M1 24 0 = 0 ∧ M1 29 0 = 0) ∨ (¬ (allL (M 5) ((M 1 0)) ((M 3 0)) ∧ (1 ≤ (M 3 0) ∧ (M 3 0) ≤ 7) ∧ (M 6 0) < 8 ∧ (0 < (M 6 0) → (M 3 0) = (M 6 1))) ∧ r9 = -1 ∧ Sm [3, 4] M M1)) ∧ Sm [3, 4, 6, 7, 8, 21, 24, 29] M M1)
    (q2 : (M2 43 0 = 0) ∧ (M2 43 17 = 0) ∧ (((allL (M1 49) (M1 43 1) (M1 43 17) ∧ (1 ≤ M1 43 17 ∧ M1 43 17 ≤ 7) ∧ M1 43 6 < 8 ∧ (0 < M1 43 6 → M1 43 17 = M1 43 7)) ∧ s9 = M1 43 6 ∧ M2 43 6 = M1 43 6 + 1 ∧ M2 43 7 = M1 43 17 ∧ (∀ j, M2 45 j = if M1 43 6 * 7 ≤ j ∧ j < M1 43 6 * 7 + M1 43 17 then M1 49 (j - M1 43 6 * 7) - 97 else M1 45 j) ∧ (∀ j, M2 46 j = if j = M1 43 6 then 1 else M1 46 j) ∧ M2 43 13 = 0 ∧ M2 43 14 = 0 ∧ M2 43 15 = 0) ∨ (¬ (allL (M1 49) (M1 43 1) (M1 43 17) ∧ (1 ≤ M1 43 17 ∧ M1 43 17 ≤ 7) ∧ M1 43 6 < 8 ∧ (0 < M1 43 6 → M1 43 17 = M1 43 7)) ∧ s9 = -1 ∧ Sm [43, 50] M1 M2 ∧ Fm [0, 17, 19] M1 M2)) ∧ Sm [43, 45, 46, 50] M1 M2 ∧ Fm [0, 6, 7, 13, 14, 15, 17, 19] M1 M2) : r9 = s9 ∧ Inv M2 := by
  obtain ⟨z3, p1, hF⟩ := q1
  obtain ⟨-, z17, p2, hG, hJ⟩ := q2
  obtain ⟨l1, l2, l3, l4, l5, l6, l7, l8, l9, l10, l11, l12⟩ := Lk h
  obtain ⟨i0, it, ib, i1, i2, i3, i4, i5, i6, i7, i8⟩ := id h.1
  obtain ⟨k1, k2, k3⟩ := id h.2.1
  rw [h.2.2.1] at k1 k2 k3
  have m43 : M1 43 = M 43 := hF 43 (by decide)
  have hal := allL_c (n := M 1 0) h.2.2.2.2
  rw [m43, hF 49 (by decide), hF 45 (by decide), hF 46 (by decide), l1, l6, l7, l8, l9, h.2.2.2.1, hal] at p2
  rcases p1 with ⟨c1, a1, a2, a3, a4, a5, a6, a7, a8⟩ | ⟨c1, a1, a2⟩
  · rcases p2 with ⟨-, b1, b2, b3, b4, b5, b6, b7, b8⟩ | ⟨c2, -⟩
    · refine ⟨by omega, ?_⟩
      have e1 : cf M1 = (M 1 0, M 1 1, M 1 2, M 1 3, M 2, M 6 0 + 1, M 3 0, M1 7, M1 8, M 9 0, M 10, M 11) := by
        unfold cf
        rw [hF 1 (by decide), hF 2 (by decide), a2, a3, hF 9 (by decide), hF 10 (by decide), hF 11 (by decide)]
      have gT : AgT (cf M) (cf M1) := by rw [e1]; exact ⟨rfl, rfl, rfl, rfl, rfl, rfl⟩
      obtain ⟨h1, h2, h3, h4, h5, h6, h7, h8, h9, h10, h11⟩ := id i0
      have h60 : 0 ≤ M 6 0 ∧ M 6 0 ≤ 8 := h6
      have wf : WfK (cf M1) := by
        rw [e1]
        refine ⟨h1, h2, h3, h4, h5, ?_, ?_, fun _ => c1.2.1.1, fun w i w0 w1 z1 z2 => ?_, fun w w0 w1 => ?_, h11⟩
        · show 0 ≤ M 6 0 + 1 ∧ M 6 0 + 1 ≤ 8
          omega
        · show 0 ≤ M 3 0 ∧ M 3 0 ≤ 7
          omega
        · have w1 : w < M 6 0 + 1 := w1
          have z2 : i < M 3 0 := z2
          show 0 ≤ M1 7 (w * 7 + i) ∧ M1 7 (w * 7 + i) < M 1 0
          rw [a4]
          by_cases e : w = M 6 0
          · rw [if_pos (by omega), e, show M 6 0 * 7 + i - M 6 0 * 7 = i by omega]
            have := c1.1 i z1 z2
            omega
          · rw [if_neg (by omega)]
            have hl := c1.2.2.2 (by omega)
            exact h9 w i w0 (by show w < M 6 0; omega) z1 (by show i < M 6 1; omega)
        · have w1 : w < M 6 0 + 1 := w1
          show 0 ≤ M1 8 w ∧ M1 8 w ≤ 2
          rw [a5]
          split
          · decide
          · exact h10 w w0 (by show w < M 6 0; omega)
      have cI : InvC M1 := ⟨wf, by omega, fun j z1 z2 => by omega, by rw [hF 15 (by decide)]; exact i1, kZa (hF _ (by decide)) (hF _ (by decide)) (hF _ (by decide)) i2, Or.inl a6, Or.inl a7, Or.inl a8, by rw [hF 37 (by decide)]; exact i6, Z0b_c (hF _ (by decide)) (hF _ (by decide)) (hF _ (by decide)) i7, MoC_ag gT (MoC_c (hF _ (by decide)) (hF _ (by decide)) i8)⟩
      have f : ∀ j, j ∉ [0, 6, 7, 13, 14, 15, 17, 19] → M2 43 j = M 43 j := fun j z => by rw [hJ j z, m43]
      have m45 : M2 45 = M1 7 := by
        funext j
        rw [b4 j, a4 j]
        split
        · rw [h.2.2.2.2 (j - M 6 0 * 7) (by omega) (by omega)]
        · rfl
      have m46 : M2 46 = M1 8 := by
        funext j
        rw [b5 j, a5 j]
      have e2 : cfM M2 = cf M1 := by
        rw [e1]
        unfold cfM
        rw [f 1 (by decide), f 3 (by decide), f 4 (by decide), f 5 (by decide), b2, b3, f 10 (by decide), m45, m46, hG 44 (by decide), hG 47 (by decide), hG 48 (by decide), hF 44 (by decide), hF 47 (by decide), hF 48 (by decide), l1, l2, l3, l4, l5, l10, l11, l12]
      exact Inv_mk (fun k hk => hG k (by simp; omega)) cI e2 (by rw [z17, z3]) (fun j q1 q2 => by rw [z3] at q2; omega) (Or.inl b6) (Or.inl b7) (Or.inl b8)
    · exact absurd c1 c2
  · rcases p2 with ⟨c2, -⟩ | ⟨-, b1, b2, b3⟩
    · exact absurd c2 c1
    · refine ⟨by omega, ?_⟩
      have ec : cf M1 = cf M := cf_e (a2 _ (by decide)) (a2 _ (by decide)) (a2 _ (by decide)) (a2 _ (by decide)) (a2 _ (by decide)) (a2 _ (by decide)) (a2 _ (by decide)) (a2 _ (by decide))
      have cI : InvC M1 := InvC_q h.1 ec (Or.inr z3) (by rw [a2 15 (by decide)]; exact i1) (kZa (a2 _ (by decide)) (a2 _ (by decide)) (a2 _ (by decide)) i2) (kSv (a2 _ (by decide)) (a2 _ (by decide)) (a2 _ (by decide)) i3) (kSt (a2 _ (by decide)) (a2 _ (by decide)) (a2 _ (by decide)) i4) (kMd (a2 _ (by decide)) (a2 _ (by decide)) i5) (by rw [a2 37 (by decide)]; exact i6) (Z0b_c (a2 _ (by decide)) (a2 _ (by decide)) (a2 _ (by decide)) i7) (MoC_c (a2 _ (by decide)) (a2 _ (by decide)) i8)
      have f : ∀ j, j ∉ [0, 17, 19] → M2 43 j = M 43 j := fun j z => by rw [b3 j z, m43]
      have e2 : cfM M2 = cf M1 := by
        rw [ec, ← h.2.2.1]
        exact cfM_e (f 1 (by decide)) (f 3 (by decide)) (f 4 (by decide)) (f 5 (by decide)) (f 6 (by decide)) (f 7 (by decide)) (f 10 (by decide)) ((b2 44 (by decide)).trans (a2 44 (by decide))) ((b2 45 (by decide)).trans (a2 45 (by decide))) ((b2 46 (by decide)).trans (a2 46 (by decide))) ((b2 47 (by decide)).trans (a2 47 (by decide))) ((b2 48 (by decide)).trans (a2 48 (by decide)))
      refine Inv_mk (fun k hk => hG k (by simp; omega)) cI e2 (by rw [z17, z3]) (fun j q1 q2 => by rw [z3] at q2; omega) ?_ ?_ ?_
      · rw [ec]; exact kKn (f 13 (by decide)) ((b2 52 (by decide)).trans (a2 52 (by decide))) k1
      · rw [ec]; exact kKm (f 14 (by decide)) (f 29 (by decide)) (f 30 (by decide)) ((b2 58 (by decide)).trans (a2 58 (by decide))) k2
      · rw [ec]; exact kKo (f 15 (by decide)) (f 32 (by decide)) (f 33 (by decide)) k3
theorem st_text {M M1 M2 : Mem} {r9 s9 : Int} (h : Inv M) (q1 : (M1 3 0 = 0) ∧ (((allL (M 5) ((M 1 0)) ((M 3 0)) ∧ (1 ≤ (M 3 0) ∧ (M 3 0) ≤ 24) ∧ (M 9 0) < 5) ∧ r9 = M 9 0 ∧ M1 9 0 = M 9 0 + 1 ∧ (∀ j, M1 10 j = if M 9 0 * 24 ≤ j ∧ j < M 9 0 * 24 + M 3 0 then M 5 (j - M 9 0 * 24) - 97 else M 10 j) ∧ (∀ j, M1 11 j = if j = M 9 0 then M 3 0 else M 11 j) ∧ (∀ m, 0 ≤ m → m ≤ 6 → M1 34 m = -2)) ∨ (¬ (allL (M 5) ((M 1 0)) ((M 3 0)) ∧ (1 ≤ (M 3 0) ∧ (M 3 0) ≤ 24) ∧ (M 9 0) < 5) ∧ r9 = -1 ∧ Sm [3, 4] M M1)) ∧ Sm [3, 4, 9, 10, 11, 34] M M1)
    (q2 : (M2 43 0 = 0) ∧ (M2 43 17 = 0) ∧ (((allL (M1 49) (M1 43 1) (M1 43 17) ∧ (1 ≤ M1 43 17 ∧ M1 43 17 ≤ 24) ∧ M1 43 10 < 5) ∧ s9 = M1 43 10 ∧ M2 43 10 = M1 43 10 + 1 ∧ (∀ j, M2 47 j = if M1 43 10 * 24 ≤ j ∧ j < M1 43 10 * 24 + M1 43 17 then M1 49 (j - M1 43 10 * 24) - 97 else M1 47 j) ∧ (∀ j, M2 48 j = if j = M1 43 10 then M1 43 17 else M1 48 j) ∧ M2 43 13 = 0 ∧ M2 43 14 = 0 ∧ M2 43 15 = 0) ∨ (¬ (allL (M1 49) (M1 43 1) (M1 43 17) ∧ (1 ≤ M1 43 17 ∧ M1 43 17 ≤ 24) ∧ M1 43 10 < 5) ∧ s9 = -1 ∧ Sm [43, 50] M1 M2 ∧ Fm [0, 17, 19] M1 M2)) ∧ Sm [43, 47, 48, 50] M1 M2 ∧ Fm [0, 10, 13, 14, 15, 17, 19] M1 M2) : r9 = s9 ∧ Inv M2 := by
  obtain ⟨z3, p1, hF⟩ := q1
  obtain ⟨-, z17, p2, hG, hJ⟩ := q2
  obtain ⟨l1, l2, l3, l4, l5, l6, l7, l8, l9, l10, l11, l12⟩ := Lk h
  obtain ⟨i0, it, ib, i1, i2, i3, i4, i5, i6, i7, i8⟩ := id h.1
  obtain ⟨k1, k2, k3⟩ := id h.2.1
  rw [h.2.2.1] at k1 k2 k3
  have m43 : M1 43 = M 43 := hF 43 (by decide)
  have hal := allL_c (n := M 1 0) h.2.2.2.2
  rw [m43, hF 49 (by decide), hF 47 (by decide), hF 48 (by decide), l1, l10, l11, l12, h.2.2.2.1, hal] at p2
  rcases p1 with ⟨c1, a1, a2, a3, a4, a5⟩ | ⟨c1, a1, a2⟩
  · rcases p2 with ⟨-, b1, b2, b3, b4, b6, b7, b8⟩ | ⟨c2, -⟩
    · refine ⟨by omega, ?_⟩
      have e1 : cf M1 = (M 1 0, M 1 1, M 1 2, M 1 3, M 2, M 6 0, M 6 1, M 7, M 8, M 9 0 + 1, M1 10, M1 11) := by
        unfold cf
        rw [hF 1 (by decide), hF 2 (by decide), hF 6 (by decide), hF 7 (by decide), hF 8 (by decide), a2]
      have gS : AgS (cf M) (cf M1) := by rw [e1]; exact ⟨rfl, rfl, rfl, rfl, rfl, rfl, rfl, rfl⟩
      have gM : AgM (cf M) (cf M1) := by rw [e1]; exact ⟨rfl, rfl, rfl, rfl, rfl, rfl, rfl⟩
      obtain ⟨h1, h2, h3, h4, h5, h6, h7, h8, h9, h10, h11, h12, h13⟩ := id i0
      have h90 : 0 ≤ M 9 0 ∧ M 9 0 ≤ 5 := h11
      have wf : WfK (cf M1) := by
        rw [e1]
        refine ⟨h1, h2, h3, h4, h5, h6, h7, h8, h9, h10, ?_, fun t t0 t1 => ?_, fun t i t0 t1 z1 z2 => ?_⟩
        · show 0 ≤ M 9 0 + 1 ∧ M 9 0 + 1 ≤ 5
          omega
        · have t1 : t < M 9 0 + 1 := t1
          show 1 ≤ M1 11 t ∧ M1 11 t ≤ 24
          rw [a4]
          split
          · exact c1.2.1
          · exact h12 t t0 (by show t < M 9 0; omega)
        · have t1 : t < M 9 0 + 1 := t1
          have z2 : i < M1 11 t := z2
          rw [a4] at z2
          show 0 ≤ M1 10 (t * 24 + i) ∧ M1 10 (t * 24 + i) < M 1 0
          rw [a3]
          by_cases e : t = M 9 0
          · rw [if_pos e] at z2
            rw [if_pos (by omega), e, show M 9 0 * 24 + i - M 9 0 * 24 = i by omega]
            have := c1.1 i z1 z2
            omega
          · rw [if_neg e] at z2
            have hl : 1 ≤ M 11 t ∧ M 11 t ≤ 24 := h12 t t0 (by show t < M 9 0; omega)
            rw [if_neg (by omega)]
            exact h13 t i t0 (by show t < M 9 0; omega) z1 z2
      have cI : InvC M1 := ⟨wf, by omega, fun j z1 z2 => by omega, by rw [hF 15 (by decide)]; exact i1, kZa (hF _ (by decide)) (hF _ (by decide)) (hF _ (by decide)) i2, SvP_ag gS (kSv (hF _ (by decide)) (hF _ (by decide)) (hF _ (by decide)) i3), StP_ag gS (kSt (hF _ (by decide)) (hF _ (by decide)) (hF _ (by decide)) i4), MdP_ag gM (kMd (hF _ (by decide)) (hF _ (by decide)) i5), by rw [hF 37 (by decide)]; exact i6, Z0b_c (hF _ (by decide)) (hF _ (by decide)) (hF _ (by decide)) i7, fun m m1 m2 => Or.inl (a5 m (by omega) m2)⟩
      have f : ∀ j, j ∉ [0, 10, 13, 14, 15, 17, 19] → M2 43 j = M 43 j := fun j z => by rw [hJ j z, m43]
      have m47 : M2 47 = M1 10 := by
        funext j
        rw [b3 j, a3 j]
        split
        · rw [h.2.2.2.2 (j - M 9 0 * 24) (by omega) (by omega)]
        · rfl
      have m48 : M2 48 = M1 11 := by
        funext j
        rw [b4 j, a4 j]
      have e2 : cfM M2 = cf M1 := by
        rw [e1]
        unfold cfM
        rw [f 1 (by decide), f 3 (by decide), f 4 (by decide), f 5 (by decide), f 6 (by decide), f 7 (by decide), b2, m47, m48, hG 44 (by decide), hG 45 (by decide), hG 46 (by decide), hF 44 (by decide), hF 45 (by decide), hF 46 (by decide), l1, l2, l3, l4, l5, l6, l7, l8, l9]
      exact Inv_mk (fun k hk => hG k (by simp; omega)) cI e2 (by rw [z17, z3]) (fun j q1 q2 => by rw [z3] at q2; omega) (Or.inl b6) (Or.inl b7) (Or.inl b8)
    · exact absurd c1 c2
  · rcases p2 with ⟨c2, -⟩ | ⟨-, b1, b2, b3⟩
    · exact absurd c2 c1
    · refine ⟨by omega, ?_⟩
      have ec : cf M1 = cf M := cf_e (a2 _ (by decide)) (a2 _ (by decide)) (a2 _ (by decide)) (a2 _ (by decide)) (a2 _ (by decide)) (a2 _ (by decide)) (a2 _ (by decide)) (a2 _ (by decide))
      have cI : InvC M1 := InvC_q h.1 ec (Or.inr z3) (by rw [a2 15 (by decide)]; exact i1) (kZa (a2 _ (by decide)) (a2 _ (by decide)) (a2 _ (by decide)) i2) (kSv (a2 _ (by decide)) (a2 _ (by decide)) (a2 _ (by decide)) i3) (kSt (a2 _ (by decide)) (a2 _ (by decide)) (a2 _ (by decide)) i4) (kMd (a2 _ (by decide)) (a2 _ (by decide)) i5) (by rw [a2 37 (by decide)]; exact i6) (Z0b_c (a2 _ (by decide)) (a2 _ (by decide)) (a2 _ (by decide)) i7) (MoC_c (a2 _ (by decide)) (a2 _ (by decide)) i8)
      have f : ∀ j, j ∉ [0, 17, 19] → M2 43 j = M 43 j := fun j z => by rw [b3 j z, m43]
      have e2 : cfM M2 = cf M1 := by
        rw [ec, ← h.2.2.1]
        exact cfM_e (f 1 (by decide)) (f 3 (by decide)) (f 4 (by decide)) (f 5 (by decide)) (f 6 (by decide)) (f 7 (by decide)) (f 10 (by decide)) ((b2 44 (by decide)).trans (a2 44 (by decide))) ((b2 45 (by decide)).trans (a2 45 (by decide))) ((b2 46 (by decide)).trans (a2 46 (by decide))) ((b2 47 (by decide)).trans (a2 47 (by decide))) ((b2 48 (by decide)).trans (a2 48 (by decide)))
      refine Inv_mk (fun k hk => hG k (by simp; omega)) cI e2 (by rw [z17, z3]) (fun j q1 q2 => by rw [z3] at q2; omega) ?_ ?_ ?_
      · rw [ec]; exact kKn (f 13 (by decide)) ((b2 52 (by decide)).trans (a2 52 (by decide))) k1
      · rw [ec]; exact kKm (f 14 (by decide)) (f 29 (by decide)) (f 30 (by decide)) ((b2 58 (by decide)).trans (a2 58 (by decide))) k2
      · rw [ec]; exact kKo (f 15 (by decide)) (f 32 (by decide)) (f 33 (by decide)) k3
