/-! steps that change rules, words, texts, the tape -/
theorem SvP_ag {c d : Cfg} {M : Mem} (h : AgS c d) (q : SvP c M) : SvP d M := q.elim Or.inl (fun q => Or.inr ⟨q.1, SvR_ag h q.2⟩)
theorem StP_ag {c d : Cfg} {M : Mem} (h : AgS c d) (q : StP c M) : StP d M := q.elim Or.inl (fun q => Or.inr ⟨q.1, StR_ag h q.2⟩)
theorem MdP_ag {c d : Cfg} {M : Mem} (h : AgM c d) (q : MdP c M) : MdP d M := q.elim Or.inl (fun q => Or.inr ⟨q.1, MdR_ag h q.2⟩)
theorem KnP_ag {c d : Cfg} {M : Mem} (h : AgK c d) (q : KnP c M) : KnP d M := q.elim Or.inl (fun q => Or.inr ⟨q.1, KnOK_ag h q.2⟩)
theorem KmP_ag {c d : Cfg} {M : Mem} (h : AgM c d) (q : KmP c M) : KmP d M := q.elim Or.inl (fun q => Or.inr ⟨q.1, MdS_ag h q.2⟩)
theorem KoP_ag {c d : Cfg} {M : Mem} (h : AgT c d) (q : KoP c M) : KoP d M := by
  have e := ag_moK h
  unfold KoP at q ⊢
  rw [← e, ← h.1]
  exact q
theorem SvP_w0 {c d : Cfg} {M : Mem} (h : kW c = 0) (h2 : kW d = 0) (q : SvP c M) : SvP d M := by
  rcases q with a | ⟨a, b | b⟩
  · exact Or.inl a
  · exact Or.inr ⟨a, Or.inl ⟨nrB_w0 h2, b.2⟩⟩
  · exact absurd (nrB_w0 h) b.1
theorem StP_w0 {c d : Cfg} {M : Mem} (h : kW c = 0) (h2 : kW d = 0) (q : StP c M) : StP d M := by
  rcases q with a | ⟨a, b1, b2, b3, b4⟩
  · exact Or.inl a
  · refine Or.inr ⟨a, ?_, b2, fun _ => b3 (nrB_w0 h), fun z => absurd (nrB_w0 h2) z⟩
    rw [b1, nrB_w0 h, nrB_w0 h2]
theorem MdP_w0 {c d : Cfg} {M : Mem} (h : kW c = 0) (h2 : kW d = 0) (q : MdP c M) : MdP d M := by
  rcases q with a | ⟨a, b | b⟩
  · exact Or.inl a
  · exact Or.inr ⟨a, Or.inl ⟨nrB_w0 h2, b.2⟩⟩
  · exact absurd (nrB_w0 h) b.1
theorem Inv_thr {M : Mem} (h : Inv M) : Inv (up2 M 43 0 0) := by
  obtain ⟨k1, k2, k3⟩ := h.2.1
  rw [h.2.2.1] at k1 k2 k3
  have e : cfM (up2 M 43 0 0) = cfM M := cfM_e (rd_ne (by decide)) (rd_ne (by decide)) (rd_ne (by decide)) (rd_ne (by decide)) (rd_ne (by decide)) (rd_ne (by decide)) (rd_ne (by decide)) (up2_ne (by decide)) (up2_ne (by decide)) (up2_ne (by decide)) (up2_ne (by decide)) (up2_ne (by decide))
  exact Inv_mk (fun k hk => up2_ne (by omega)) h.1 (by rw [e]; exact h.2.2.1) (by rw [rd_ne (by decide)]; exact h.2.2.2.1) (by rw [up2_ne (by decide)]; exact h.2.2.2.2) (kKn (rd_ne (by decide)) (up2_ne (by decide)) k1) (kKm (rd_ne (by decide)) (rd_ne (by decide)) (rd_ne (by decide)) (up2_ne (by decide)) k2) (kKo (rd_ne (by decide)) (rd_ne (by decide)) (rd_ne (by decide)) k3)
theorem moK_0 {c : Cfg} (h : kT c = 0) (m k : Int) : moK c m k = 0 := by
  unfold moK moR
  rw [h]
  rfl
theorem KoP_t0 {c d : Cfg} {M : Mem} (h : kT c = 0) (h2 : kT d = 0) (hN : 2 ≤ kN c) (hM : 2 ≤ kN d) (q : KoP c M) : KoP d M := by
  rcases q with a | ⟨a, b, e⟩
  · exact Or.inl a
  · refine Or.inr ⟨a, ?_, by rw [e, moK_0 h, moK_0 h2]⟩
    obtain ⟨b1, b2, b3, b4⟩ := b
    have p1 : (0 : Int) < kN c ^ (M 43 15).toNat := Int.pow_pos (by omega)
    have p2 : (0 : Int) < kN d ^ (M 43 15).toNat := Int.pow_pos (by omega)
    have g := b4 0 (Int.le_refl _) p1 rfl
    rw [moK_0 h, moK_0 h] at g
    refine ⟨b1, by omega, rfl, fun j q1 q2 q3 => ?_⟩
    rw [moK_0 h2, moK_0 h2]
    omega
theorem up5 {M : Mem} {a b c d e : Int} {x y z u v : Int} {k : Nat} (h : k ≠ 43) : up2 (up2 (up2 (up2 (up2 M 43 a x) 43 b y) 43 c z) 43 d u) 43 e v k = M k := by
  rw [up2_ne h, up2_ne h, up2_ne h, up2_ne h, up2_ne h]
theorem st_letters {M M1 M2 : Mem} {n r9 s9 : Int} (h : Inv M) (q1 : (if 2 ≤ n ∧ n ≤ 4 ∧ (M 6 0) = 0 ∧ (M 9 0) = 0 then r9 = 1 ∧ M1 = up2 M 1 0 n else r9 = 0 ∧ M1 = M) ∧ Sm [1] M M1) (q2 : (if 2 ≤ n ∧ n ≤ 4 ∧ M1 43 6 = 0 ∧ M1 43 10 = 0 then s9 = 1 ∧ M2 = up2 (up2 M1 43 0 0) 43 1 n else s9 = 0 ∧ M2 = (up2 M1 43 0 0)) ∧ Sm [43] M1 M2) : r9 = s9 ∧ Inv M2 := by
  obtain ⟨p1, hF⟩ := q1
  obtain ⟨p2, hG⟩ := q2
  obtain ⟨l1, l2, l3, l4, l5, l6, l7, l8, l9, l10, l11, l12⟩ := Lk h
  rw [hF 43 (by decide), l6, l10] at p2
  by_cases hc : 2 ≤ n ∧ n ≤ 4 ∧ M 6 0 = 0 ∧ M 9 0 = 0
  · rw [if_pos hc] at p1 p2
    obtain ⟨a1, a2⟩ := p1
    obtain ⟨b1, b2⟩ := p2
    refine ⟨by omega, ?_⟩
    obtain ⟨i0, it, ib, i1, i2, i3, i4, i5, i6, i7, i8⟩ := id h.1
    obtain ⟨k1, k2, k3⟩ := id h.2.1
    rw [h.2.2.1] at k1 k2 k3
    have e1 : cf M1 = (n, M 1 1, M 1 2, M 1 3, M 2, M 6 0, M 6 1, M 7, M 8, M 9 0, M 10, M 11) := by
      unfold cf
      rw [hF 2 (by decide), hF 6 (by decide), hF 7 (by decide), hF 8 (by decide), hF 9 (by decide), hF 10 (by decide), hF 11 (by decide), a2]
      simp [up2]
    have w0 : kW (cf M) = 0 := hc.2.2.1
    have w1 : kW (cf M1) = 0 := by rw [e1]; exact hc.2.2.1
    obtain ⟨h1, h2, h3, h4, h5, h6, h7, h8, h9, h10, h11, h12, h13⟩ := id i0
    have wf : WfK (cf M1) := by
      rw [e1]
      exact ⟨⟨hc.1, hc.2.1⟩, h2, h3, h4, h5, h6, h7, h8, fun w i z1 z2 => absurd z2 (by show ¬ w < M 6 0; omega), h10, h11, h12, fun t i z1 z2 => absurd z2 (by show ¬ t < M 9 0; omega)⟩
    have c1 : InvC M1 := by
      refine ⟨wf, by rw [hF 3 (by decide)]; exact it, by rw [hF 3 (by decide), hF 5 (by decide)]; exact ib, by rw [hF 15 (by decide)]; exact i1, kZa (hF _ (by decide)) (hF _ (by decide)) (hF _ (by decide)) i2, SvP_w0 w0 w1 (kSv (hF _ (by decide)) (hF _ (by decide)) (hF _ (by decide)) i3), StP_w0 w0 w1 (kSt (hF _ (by decide)) (hF _ (by decide)) (hF _ (by decide)) i4), MdP_w0 w0 w1 (kMd (hF _ (by decide)) (hF _ (by decide)) i5), by rw [hF 37 (by decide)]; exact i6, Z0b_c (hF _ (by decide)) (hF _ (by decide)) (hF _ (by decide)) i7, fun m m1 m2 => ?_⟩
      rw [hF 34 (by decide)]
      rcases i8 m m1 m2 with z | z
      · exact Or.inl z
      · exact absurd z.1.2.2.1 (by show ¬ 0 < M 9 0; omega)
    have m43 : M1 43 = M 43 := hF 43 (by decide)
    have e2 : cfM M2 = cf M1 := by
      rw [e1]
      unfold cfM
      rw [hG 44 (by decide), hG 45 (by decide), hG 46 (by decide), hG 47 (by decide), hG 48 (by decide), hF 44 (by decide), hF 45 (by decide), hF 46 (by decide), hF 47 (by decide), hF 48 (by decide), l5, l8, l9, l11, l12, b2]
      simp [up2, m43, l2, l3, l4, l6, l7, l10]
    have lo : ∀ k, k ≠ 43 → M2 k = M1 k := fun k hk => by rw [b2, up2_ne hk, up2_ne hk]
    have f : ∀ j, j ≠ 0 → j ≠ 1 → M2 43 j = M 43 j := fun j z1 z2 => by rw [b2, rd_ne z2, rd_ne z1, m43]
    refine Inv_mk (fun k hk => lo k (by omega)) c1 e2 (by rw [f 17 (by decide) (by decide), hF 3 (by decide)]; exact h.2.2.2.1) (by rw [lo 49 (by decide), hF 49 (by decide), hF 3 (by decide), hF 5 (by decide)]; exact h.2.2.2.2) ?_ ?_ ?_
    · rcases k1 with z | ⟨z, -⟩
      · exact Or.inl (by rw [f 13 (by decide) (by decide)]; exact z)
      · refine Or.inr ⟨by rw [f 13 (by decide) (by decide)]; exact z, fun k z1 z2 w z3 z4 => ?_⟩
        rw [w1] at z4
        omega
    · rcases k2 with z | ⟨z, z2⟩
      · exact Or.inl (by rw [f 14 (by decide) (by decide)]; exact z)
      · refine Or.inr ⟨by rw [f 14 (by decide) (by decide)]; exact z, ?_⟩
        rw [f 30 (by decide) (by decide), f 29 (by decide) (by decide), lo 58 (by decide), hF 58 (by decide)]
        exact MdS_w0 (show 2 ≤ M 1 0 from h1.1) (by rw [e1]; exact hc.1) w0 w1 z2
    · have z := KoP_t0 (d := cf M1) (show M 9 0 = 0 from hc.2.2.2) (by rw [e1]; exact hc.2.2.2) (show 2 ≤ M 1 0 from h1.1) (by rw [e1]; exact hc.1) k3
      exact kKo (f 15 (by decide) (by decide)) (f 32 (by decide) (by decide)) (f 33 (by decide) (by decide)) z
  · rw [if_neg hc] at p1 p2
    obtain ⟨a1, a2⟩ := p1
    obtain ⟨b1, b2⟩ := p2
    refine ⟨by omega, ?_⟩
    rw [b2, a2]
    exact Inv_thr h
theorem st_drop {M M1 M2 : Mem} {v r9 s9 : Int} (h : Inv M) (q1 : (if 1 ≤ v ∧ v ≤ 9 then r9 = 1 ∧ M1 = up2 (up2 M 1 2 v) 29 0 0 else r9 = 0 ∧ M1 = M) ∧ Sm [1, 29] M M1) (q2 : (if 1 ≤ v ∧ v ≤ 9 then s9 = 1 ∧ M2 = (up2 (up2 (up2 (up2 (up2 M1 43 0 0) 43 4 v) 43 13 0) 43 14 0) 43 15 0) else s9 = 0 ∧ M2 = (up2 M1 43 0 0)) ∧ Sm [43] M1 M2) : r9 = s9 ∧ Inv M2 := by
  obtain ⟨p1, hF⟩ := q1
  obtain ⟨p2, hG⟩ := q2
  obtain ⟨l1, l2, l3, l4, l5, l6, l7, l8, l9, l10, l11, l12⟩ := Lk h
  by_cases hc : 1 ≤ v ∧ v ≤ 9
  · rw [if_pos hc] at p1 p2
    obtain ⟨a1, a2⟩ := p1
    obtain ⟨b1, b2⟩ := p2
    refine ⟨by omega, ?_⟩
    obtain ⟨i0, it, ib, i1, i2, i3, i4, i5, i6, i7, i8⟩ := id h.1
    have e1 : cf M1 = (M 1 0, M 1 1, v, M 1 3, M 2, M 6 0, M 6 1, M 7, M 8, M 9 0, M 10, M 11) := by
      unfold cf
      rw [hF 2 (by decide), hF 6 (by decide), hF 7 (by decide), hF 8 (by decide), hF 9 (by decide), hF 10 (by decide), hF 11 (by decide), a2]
      simp [up2]
    have gS : AgS (cf M) (cf M1) := by rw [e1]; exact ⟨rfl, rfl, rfl, rfl, rfl, rfl, rfl, rfl⟩
    have gT : AgT (cf M) (cf M1) := by rw [e1]; exact ⟨rfl, rfl, rfl, rfl, rfl, rfl⟩
    obtain ⟨h1, h2, h3, h4, h5⟩ := id i0
    have wf : WfK (cf M1) := by rw [e1]; exact ⟨h1, h2, hc, h4, h5⟩
    have c1 : InvC M1 := ⟨wf, by rw [hF 3 (by decide)]; exact it, by rw [hF 3 (by decide), hF 5 (by decide)]; exact ib, by rw [hF 15 (by decide)]; exact i1, kZa (hF _ (by decide)) (hF _ (by decide)) (hF _ (by decide)) i2, SvP_ag gS (kSv (hF _ (by decide)) (hF _ (by decide)) (hF _ (by decide)) i3), StP_ag gS (kSt (hF _ (by decide)) (hF _ (by decide)) (hF _ (by decide)) i4), Or.inl (by rw [a2]; exact rd_eq), by rw [hF 37 (by decide)]; exact i6, Z0b_c (hF _ (by decide)) (hF _ (by decide)) (hF _ (by decide)) i7, MoC_ag gT (MoC_c (hF _ (by decide)) (hF _ (by decide)) i8)⟩
    have m43 : M1 43 = M 43 := hF 43 (by decide)
    have e2 : cfM M2 = cf M1 := by
      rw [e1]
      unfold cfM
      rw [hG 44 (by decide), hG 45 (by decide), hG 46 (by decide), hG 47 (by decide), hG 48 (by decide), hF 44 (by decide), hF 45 (by decide), hF 46 (by decide), hF 47 (by decide), hF 48 (by decide), l5, l8, l9, l11, l12, b2]
      simp [up2, m43, l1, l2, l4, l6, l7, l10]
    refine Inv_mk (fun k hk => by rw [b2]; exact up5 (by omega)) c1 e2 ?_ ?_ (Or.inl ?_) (Or.inl ?_) (Or.inl ?_)
    · rw [b2, rd_ne (by decide), rd_ne (by decide), rd_ne (by decide), rd_ne (by decide), rd_ne (by decide), m43, hF 3 (by decide)]
      exact h.2.2.2.1
    · rw [b2, up5 (by decide), hF 49 (by decide), hF 3 (by decide), hF 5 (by decide)]
      exact h.2.2.2.2
    · rw [b2, rd_ne (by decide), rd_ne (by decide)]; exact rd_eq
    · rw [b2, rd_ne (by decide)]; exact rd_eq
    · rw [b2]; exact rd_eq
  · rw [if_neg hc] at p1 p2
    obtain ⟨a1, a2⟩ := p1
    obtain ⟨b1, b2⟩ := p2
    refine ⟨by omega, ?_⟩
    rw [b2, a2]
    exact Inv_thr h
theorem st_swap {M M1 M2 : Mem} {v r9 s9 : Int} (h : Inv M) (q1 : (if 0 ≤ v ∧ v ≤ 9 then r9 = 1 ∧ M1 1 = (up2 M 1 1 v) 1 ∧ M1 21 0 = 0 ∧ M1 24 0 = 0 ∧ (∀ m, 0 ≤ m → m ≤ 6 → M1 34 m = -2) else r9 = 0 ∧ M1 = M) ∧ Sm [1, 21, 24, 34] M M1) (q2 : (if 0 ≤ v ∧ v ≤ 9 then s9 = 1 ∧ M2 = (up2 (up2 (up2 (up2 (up2 M1 43 0 0) 43 3 v) 43 13 0) 43 14 0) 43 15 0) else s9 = 0 ∧ M2 = (up2 M1 43 0 0)) ∧ Sm [43] M1 M2) : r9 = s9 ∧ Inv M2 := by
  obtain ⟨p1, hF⟩ := q1
  obtain ⟨p2, hG⟩ := q2
  obtain ⟨l1, l2, l3, l4, l5, l6, l7, l8, l9, l10, l11, l12⟩ := Lk h
  by_cases hc : 0 ≤ v ∧ v ≤ 9
  · rw [if_pos hc] at p1 p2
    obtain ⟨a1, a2, a3, a4, a5⟩ := p1
    obtain ⟨b1, b2⟩ := p2
    refine ⟨by omega, ?_⟩
    obtain ⟨i0, it, ib, i1, i2, i3, i4, i5, i6, i7, i8⟩ := id h.1
    have e1 : cf M1 = (M 1 0, v, M 1 2, M 1 3, M 2, M 6 0, M 6 1, M 7, M 8, M 9 0, M 10, M 11) := by
      unfold cf
      rw [a2, hF 2 (by decide), hF 6 (by decide), hF 7 (by decide), hF 8 (by decide), hF 9 (by decide), hF 10 (by decide), hF 11 (by decide)]
      simp [up2]
    have gM : AgM (cf M) (cf M1) := by rw [e1]; exact ⟨rfl, rfl, rfl, rfl, rfl, rfl, rfl⟩
    obtain ⟨h1, h2, h3⟩ := id i0
    have wf : WfK (cf M1) := by rw [e1]; exact ⟨h1, hc, h3⟩
    have c1 : InvC M1 := ⟨wf, by rw [hF 3 (by decide)]; exact it, by rw [hF 3 (by decide), hF 5 (by decide)]; exact ib, by rw [hF 15 (by decide)]; exact i1, kZa (hF _ (by decide)) (hF _ (by decide)) (hF _ (by decide)) i2, Or.inl a3, Or.inl a4, MdP_ag gM (kMd (hF _ (by decide)) (hF _ (by decide)) i5), by rw [hF 37 (by decide)]; exact i6, Z0b_c (hF _ (by decide)) (hF _ (by decide)) (hF _ (by decide)) i7, fun m m1 m2 => Or.inl (a5 m (by omega) m2)⟩
    have m43 : M1 43 = M 43 := hF 43 (by decide)
    have e2 : cfM M2 = cf M1 := by
      rw [e1]
      unfold cfM
      rw [hG 44 (by decide), hG 45 (by decide), hG 46 (by decide), hG 47 (by decide), hG 48 (by decide), hF 44 (by decide), hF 45 (by decide), hF 46 (by decide), hF 47 (by decide), hF 48 (by decide), l5, l8, l9, l11, l12, b2]
      simp [up2, m43, l1, l3, l4, l6, l7, l10]
    refine Inv_mk (fun k hk => by rw [b2]; exact up5 (by omega)) c1 e2 ?_ ?_ (Or.inl ?_) (Or.inl ?_) (Or.inl ?_)
    · rw [b2, rd_ne (by decide), rd_ne (by decide), rd_ne (by decide), rd_ne (by decide), rd_ne (by decide), m43, hF 3 (by decide)]
      exact h.2.2.2.1
    · rw [b2, up5 (by decide), hF 49 (by decide), hF 3 (by decide), hF 5 (by decide)]
      exact h.2.2.2.2
    · rw [b2, rd_ne (by decide), rd_ne (by decide)]; exact rd_eq
    · rw [b2, rd_ne (by decide)]; exact rd_eq
    · rw [b2]; exact rd_eq
  · rw [if_neg hc] at p1 p2
    obtain ⟨a1, a2⟩ := p1
    obtain ⟨b1, b2⟩ := p2
    refine ⟨by omega, ?_⟩
    rw [b2, a2]
    exact Inv_thr h
theorem st_gap {M M1 M2 : Mem} {v r9 s9 : Int} (h : Inv M) (q1 : (if 0 ≤ v ∧ v ≤ 63 then r9 = 1 ∧ M1 = up2 (up2 (up2 M 1 3 v) 21 0 0) 24 0 0 else r9 = 0 ∧ M1 = M) ∧ Sm [1, 21, 24] M M1) (q2 : (if 0 ≤ v ∧ v ≤ 63 then s9 = 1 ∧ M2 = up2 (up2 M1 43 0 0) 43 5 v else s9 = 0 ∧ M2 = (up2 M1 43 0 0)) ∧ Sm [43] M1 M2) : r9 = s9 ∧ Inv M2 := by
  obtain ⟨p1, hF⟩ := q1
  obtain ⟨p2, hG⟩ := q2
  obtain ⟨l1, l2, l3, l4, l5, l6, l7, l8, l9, l10, l11, l12⟩ := Lk h
  by_cases hc : 0 ≤ v ∧ v ≤ 63
  · rw [if_pos hc] at p1 p2
    obtain ⟨a1, a2⟩ := p1
    obtain ⟨b1, b2⟩ := p2
    refine ⟨by omega, ?_⟩
    obtain ⟨i0, it, ib, i1, i2, i3, i4, i5, i6, i7, i8⟩ := id h.1
    obtain ⟨k1, k2, k3⟩ := id h.2.1
    rw [h.2.2.1] at k1 k2 k3
    have e1 : cf M1 = (M 1 0, M 1 1, M 1 2, v, M 2, M 6 0, M 6 1, M 7, M 8, M 9 0, M 10, M 11) := by
      unfold cf
      rw [hF 2 (by decide), hF 6 (by decide), hF 7 (by decide), hF 8 (by decide), hF 9 (by decide), hF 10 (by decide), hF 11 (by decide), a2]
      simp [up2]
    have gM : AgM (cf M) (cf M1) := by rw [e1]; exact ⟨rfl, rfl, rfl, rfl, rfl, rfl, rfl⟩
    have gT : AgT (cf M) (cf M1) := by rw [e1]; exact ⟨rfl, rfl, rfl, rfl, rfl, rfl⟩
    have gK : AgK (cf M) (cf M1) := by rw [e1]; exact ⟨rfl, rfl, rfl, rfl, rfl, rfl⟩
    obtain ⟨h1, h2, h3, h4, h5⟩ := id i0
    have wf : WfK (cf M1) := by rw [e1]; exact ⟨h1, h2, h3, hc, h5⟩
    have c1 : InvC M1 := ⟨wf, by rw [hF 3 (by decide)]; exact it, by rw [hF 3 (by decide), hF 5 (by decide)]; exact ib, by rw [hF 15 (by decide)]; exact i1, kZa (hF _ (by decide)) (hF _ (by decide)) (hF _ (by decide)) i2, Or.inl (by rw [a2, rd_nc (by decide)]; exact rd_eq), Or.inl (by rw [a2]; exact rd_eq), MdP_ag gM (kMd (hF _ (by decide)) (hF _ (by decide)) i5), by rw [hF 37 (by decide)]; exact i6, Z0b_c (hF _ (by decide)) (hF _ (by decide)) (hF _ (by decide)) i7, MoC_ag gT (MoC_c (hF _ (by decide)) (hF _ (by decide)) i8)⟩
    have m43 : M1 43 = M 43 := hF 43 (by decide)
    have e2 : cfM M2 = cf M1 := by
      rw [e1]
      unfold cfM
      rw [hG 44 (by decide), hG 45 (by decide), hG 46 (by decide), hG 47 (by decide), hG 48 (by decide), hF 44 (by decide), hF 45 (by decide), hF 46 (by decide), hF 47 (by decide), hF 48 (by decide), l5, l8, l9, l11, l12, b2]
      simp [up2, m43, l1, l2, l3, l6, l7, l10]
    have lo : ∀ k, k ≠ 43 → M2 k = M1 k := fun k hk => by rw [b2, up2_ne hk, up2_ne hk]
    have f : ∀ j, j ≠ 0 → j ≠ 5 → M2 43 j = M 43 j := fun j z1 z2 => by rw [b2, rd_ne z2, rd_ne z1, m43]
    exact Inv_mk (fun k hk => lo k (by omega)) c1 e2 (by rw [f 17 (by decide) (by decide), hF 3 (by decide)]; exact h.2.2.2.1) (by rw [lo 49 (by decide), hF 49 (by decide), hF 3 (by decide), hF 5 (by decide)]; exact h.2.2.2.2)
      (KnP_ag gK (kKn (f 13 (by decide) (by decide)) ((lo 52 (by decide)).trans (hF 52 (by decide))) k1)) (KmP_ag gM (kKm (f 14 (by decide) (by decide)) (f 29 (by decide) (by decide)) (f 30 (by decide) (by decide)) ((lo 58 (by decide)).trans (hF 58 (by decide))) k2)) (KoP_ag gT (kKo (f 15 (by decide) (by decide)) (f 32 (by decide) (by decide)) (f 33 (by decide) (by decide)) k3))
  · rw [if_neg hc] at p1 p2
    obtain ⟨a1, a2⟩ := p1
    obtain ⟨b1, b2⟩ := p2
    refine ⟨by omega, ?_⟩
    rw [b2, a2]
    exact Inv_thr h
theorem st_end {M M1 M2 : Mem} {n r9 s9 : Int} (h : Inv M) (q1 : (if 0 ≤ n ∧ n ≤ (M 3 0) then r9 = n ∧ M1 = up2 M 3 0 n else r9 = -1 ∧ M1 = M) ∧ Sm [3] M M1) (q2 : (if 0 ≤ n ∧ n ≤ M1 43 17 then s9 = n ∧ M2 = up2 (up2 M1 43 0 0) 43 17 n else s9 = -1 ∧ M2 = (up2 M1 43 0 0)) ∧ Sm [43] M1 M2) : r9 = s9 ∧ Inv M2 := by
  obtain ⟨p1, hF⟩ := q1
  obtain ⟨p2, hG⟩ := q2
  rw [hF 43 (by decide), h.2.2.2.1] at p2
  by_cases hc : 0 ≤ n ∧ n ≤ M 3 0
  · rw [if_pos hc] at p1 p2
    obtain ⟨a1, a2⟩ := p1
    obtain ⟨b1, b2⟩ := p2
    refine ⟨by omega, ?_⟩
    obtain ⟨i0, it, ib, i1, i2, i3, i4, i5, i6, i7, i8⟩ := id h.1
    obtain ⟨k1, k2, k3⟩ := id h.2.1
    rw [h.2.2.1] at k1 k2 k3
    have ec : cf M1 = cf M := cf_e (hF _ (by decide)) (hF _ (by decide)) (hF _ (by decide)) (hF _ (by decide)) (hF _ (by decide)) (hF _ (by decide)) (hF _ (by decide)) (hF _ (by decide))
    have t3 : M1 3 0 = n := by rw [a2]; exact rd_eq
    have c1 : InvC M1 := by
      unfold InvC
      rw [ec, t3, hF 5 (by decide), hF 15 (by decide), hF 37 (by decide)]
      exact ⟨i0, by omega, fun j z1 z2 => ib j z1 (by omega), i1, kZa (hF _ (by decide)) (hF _ (by decide)) (hF _ (by decide)) i2, kSv (hF _ (by decide)) (hF _ (by decide)) (hF _ (by decide)) i3, kSt (hF _ (by decide)) (hF _ (by decide)) (hF _ (by decide)) i4, kMd (hF _ (by decide)) (hF _ (by decide)) i5, i6, Z0b_c (hF _ (by decide)) (hF _ (by decide)) (hF _ (by decide)) i7, MoC_c (hF _ (by decide)) (hF _ (by decide)) i8⟩
    have lo : ∀ k, k ≠ 43 → M2 k = M1 k := fun k hk => by rw [b2, up2_ne hk, up2_ne hk]
    have f : ∀ j, j ≠ 0 → j ≠ 17 → M2 43 j = M 43 j := fun j z1 z2 => by rw [b2, rd_ne z2, rd_ne z1, hF 43 (by decide)]
    have e2 : cfM M2 = cf M1 := by
      rw [ec, ← h.2.2.1]
      exact cfM_e (f 1 (by decide) (by decide)) (f 3 (by decide) (by decide)) (f 4 (by decide) (by decide)) (f 5 (by decide) (by decide)) (f 6 (by decide) (by decide)) (f 7 (by decide) (by decide)) (f 10 (by decide) (by decide)) ((lo 44 (by decide)).trans (hF 44 (by decide))) ((lo 45 (by decide)).trans (hF 45 (by decide))) ((lo 46 (by decide)).trans (hF 46 (by decide))) ((lo 47 (by decide)).trans (hF 47 (by decide))) ((lo 48 (by decide)).trans (hF 48 (by decide)))
    refine Inv_mk (fun k hk => lo k (by omega)) c1 e2 (by rw [t3, b2]; exact rd_eq) (fun j z1 z2 => ?_) ?_ ?_ ?_
    · rw [t3] at z2
      rw [lo 49 (by decide), hF 49 (by decide), hF 5 (by decide)]
      exact h.2.2.2.2 j z1 (by omega)
    · rw [ec]; exact kKn (f 13 (by decide) (by decide)) ((lo 52 (by decide)).trans (hF 52 (by decide))) k1
    · rw [ec]; exact kKm (f 14 (by decide) (by decide)) (f 29 (by decide) (by decide)) (f 30 (by decide) (by decide)) ((lo 58 (by decide)).trans (hF 58 (by decide))) k2
    · rw [ec]; exact kKo (f 15 (by decide) (by decide)) (f 32 (by decide) (by decide)) (f 33 (by decide) (by decide)) k3
  · rw [if_neg hc] at p1 p2
    obtain ⟨a1, a2⟩ := p1
    obtain ⟨b1, b2⟩ := p2
    refine ⟨by omega, ?_⟩
    rw [b2, a2]
    exact Inv_thr h
