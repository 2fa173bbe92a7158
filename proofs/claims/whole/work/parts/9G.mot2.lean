/-- the walk while the texts are aimed at: all pieces of the texts ahead of t, i0 of t -/
def MoP (c : Cfg) (M : Mem) (m t i0 : Int) : Prop := M 37 4 = 120 ∧ M 37 0 = m ∧ M 37 1 = pfx c m t + i0 ∧ (∀ u i p, 0 ≤ u → (u < t ∧ i < nPc c m u) ∨ (u = t ∧ i < i0) → 0 ≤ i → 0 ≤ p → p < m → M 40 (p * 120 + (pfx c m u + i)) = kX c (u * 24 + i + p)) ∧ ∀ i t, 0 ≤ i → i < m → 0 ≤ t → t < M 37 1 → 0 ≤ M 40 (i * 120 + t) ∧ M 40 (i * 120 + t) ≤ 3
theorem MoP_c {c : Cfg} {M M' : Mem} {m t i : Int} (h1 : M' 37 = M 37) (h2 : M' 40 = M 40) (h : MoP c M m t i) : MoP c M' m t i := by
  unfold MoP at h ⊢
  rw [h1, h2]
  exact h
theorem MoP_next {c : Cfg} {M : Mem} {m t : Int} (ht : 0 ≤ t) (h : MoP c M m t (nPc c m t)) : MoP c M m (t + 1) 0 := by
  obtain ⟨a, b, d, e, g⟩ := h
  refine ⟨a, b, by rw [d, pfx_s ht]; omega, fun u i p u0 hu i0 p0 p1 => ?_, g⟩
  refine e u i p u0 ?_ i0 p0 p1
  by_cases z : u = t
  · subst z
    exact Or.inr ⟨rfl, by omega⟩
  · exact Or.inl ⟨by omega, by omega⟩
theorem MoP_end {c : Cfg} {M : Mem} {m : Int} (h : MoP c M m (kT c) 0) : MoA c M m := by
  obtain ⟨a, b, d, e, g⟩ := h
  exact ⟨a, b, by rw [d]; omega, fun t i p t0 t1 i0 i1 p0 p1 => e t i p t0 (Or.inl ⟨t1, i1⟩) i0 p0 p1, g⟩
theorem MoP_step {M M' : Mem} {c : Cfg} {m t i : Int} (hW : WfK c) (hm : okM c m) (hX : M 10 = kX c) (ht : 0 ≤ t ∧ t < kT c) (hi : 0 ≤ i ∧ i < nPc c m t) (h : MoP c M m t i) (h1 : M' 37 0 = M 37 0) (h2 : M' 37 1 = M 37 1 + 1) (h3 : M' 37 4 = 120) (h4 : ∀ p, 0 ≤ p → p < M 37 0 → M' 40 (p * 120 + M 37 1) = M 10 (t * 24 + i + p)) (h5 : ∀ p τ, 0 ≤ τ → τ < 120 → τ ≠ M 37 1 → M' 40 (p * 120 + τ) = M 40 (p * 120 + τ)) : MoP c M' m t (i + 1) := by
  obtain ⟨a, b, d, e, g⟩ := h
  have hp := pfx_in hm ht hi
  have hr := pfx_rng hW hm (kT c) (by omega) (Int.le_refl _)
  have ht5 := hW.2.2.2.2.2.2.2.2.2.2.1
  have hr0 := pfx_rng hW hm t ht.1 (by omega)
  have hxs := hW.2.2.2.2.2.2.2.2.2.2.2.2
  have hN := hW.1
  have hn : nPc c m t = kXs c t - m + 1 := rfl
  refine ⟨h3, by rw [h1, b], by rw [h2, d]; omega, fun u j p u0 hu j0 p0 p1 => ?_, fun j τ j0 j1 τ0 τ1 => ?_⟩
  · by_cases z : u = t ∧ j = i
    · obtain ⟨z1, z2⟩ := z
      subst z1
      subst z2
      rw [← d, h4 p p0 (by omega), hX]
    · have hlt : pfx c m u + j < pfx c m t + i := by
        rcases hu with q | q
        · have q1 := pfx_mono hm (t := u + 1) (by omega) (t - (u + 1)) (by omega) (by omega)
          rw [show u + 1 + (t - (u + 1)) = t by omega, pfx_s u0] at q1
          omega
        · rw [q.1]; omega
      have hu9 := (pfx_rng hW hm u u0 (by omega)).1
      rw [h5 p _ (by omega) (by omega) (by omega)]
      refine e u j p u0 ?_ j0 p0 p1
      omega
  · by_cases z : τ = M 37 1
    · rw [z, h4 j j0 (by omega), hX]
      have := hxs t (i + j) ht.1 ht.2 (by omega) (by omega)
      rw [← Int.add_assoc] at this
      omega
    · rw [h5 j τ τ0 (by omega) z]
      exact g j τ j0 j1 τ0 (by omega)
set_option maxHeartbeats 4000000 in
set_option maxRecDepth 100000 in
theorem c_X2_refresh (l : Launch) (K : KX) (M : Mem) (m : Int) (hW : WfK (cf M)) (hwd : M 37 4 = 120) (hZ : Z0b M) (hC : MoC (cf M) M) (hm0 : okM (cf M) m) : MCv l K LAY yX2_refresh cX2_refresh 4 none 4 [rV K 33, iV m] M (fun M' => (MoS (cf M) m (M' 34 m) (M' 35 m)) ∧ (MoC (cf M) M') ∧ (M' 37 4 = 120) ∧ (Z0b M') ∧ Sm [34, 35, 37, 38, 39, 40, 41, 42] M M') := by
  refine mcv_intro RX2 rfl [some (rV K 33), some (iV m), none, none] rfl (by decide +kernel) (cat_r (cat_i cat_nil)) (Nat.le_of_ble_eq_true rfl) (fun X hX C => ?_)
  subst hX
  have w_let := wf_let hW
  have w_sw := wf_sw hW
  have w_t := wf_t hW
  have hm6 : 1 ≤ m ∧ m ≤ 6 := ⟨hm0.1, hm0.2.1⟩
  have hpn := pw_n (n := m) w_let (by omega)
  have hCm := hC m hm6.1 hm6.2
  have hCr : -2 ≤ M 34 m ∧ M 34 m ≤ 54 := by
    rcases hCm with q | ⟨q, b, q2, q3, -⟩
    · omega
    · have := moK_rng hW (k := b) hm0; omega
  refine pw_aload0 C dX2_refresh_0 ?_
  refine g_33_0 C fl_X2_9 dX2_refresh_1 ?_
  refine pw_iload1 C dX2_refresh_4 ?_
  refine pw_iaload C lay_34 (by omega) (by decide) dX2_refresh_5 ?_
  refine pw_bipush C dX2_refresh_6 (by decide) ?_
  refine pw_icmp_eq (tgt := 12) C dX2_refresh_8 (by decide) (by omega) (by omega) (fun h8 => ?_) (fun h8 => ?_)
  · refine pw_aload0 C dX2_refresh_12 ?_
    refine g_33_0 C fl_X2_9 dX2_refresh_13 ?_
    refine pw_iload1 C dX2_refresh_16 ?_
    refine pw_ldc C (z := 2147483647) (by decide) ct_X2_41 dX2_refresh_17 ?_
    refine pw_iastore C lay_34 (by omega) (by decide) dX2_refresh_19 ?_
    refine pw_aload0 C dX2_refresh_20 ?_
    refine g_33_4 C fl_X2_34 dX2_refresh_21 ?_
    refine pw_iload1 C dX2_refresh_24 ?_
    refine pw_cVv1 C (c_X8_begin_B _ K _ _ (by omega)) cb_X8_begin lay_37 kc_8 rfl ml_X2_42 dX2_refresh_25 (by decide) (Nat.le_of_ble_eq_true rfl) (fun M25 hQ => ?_)
    obtain ⟨h1_25, h2_25, h3_25, h4_25, hF25⟩ := hQ
    refine pw_iconst C dX2_refresh_28 ?_
    refine pw_istore2 C (by decide) dX2_refresh_29 ?_
    have cut_30 : ∀ (fu : Nat) (t : Int) (M1 : Mem), Sm [34, 37, 38, 40] M M1 → (0 ≤ t ∧ t ≤ M 9 0) → (MoP (cf M) M1 m t 0) → (∀ i, 0 ≤ i → i < m → M1 38 i = 0) → ((∀ j, M1 34 j = if j = m then 2147483647 else M 34 j)) → (M 9 0 - t).toNat < fu → PW X K LAY 4 (0, 0) (Zv X K LAY (fun M' => (MoS (cf M) m (M' 34 m) (M' 35 m)) ∧ (MoC (cf M) M') ∧ (M' 37 4 = 120) ∧ (Z0b M') ∧ Sm [34, 35, 37, 38, 39, 40, 41, 42] M M')) 30 [some (rV K 33), some (iV m), some (iV t), none] [] M1 := by
      intro fu
      induction fu with
      | zero => intro _ _ _ _ _ _ _ hm; exact absurd hm (Nat.not_lt_zero _)
      | succ fu ih =>
        intro t M1 hF30 ht gP gr g34 hm
        have ih_30 := ih
        have hm_30 := hm
        have e11 : True := trivial
        refine pw_iload2 C dX2_refresh_30 ?_
        refine pw_aload0 C dX2_refresh_31 ?_
        refine g_33_3 C fl_X2_25 dX2_refresh_32 ?_
        refine g_9_0 C fl_X2_46 dX2_refresh_35 ?_
        refine pw_top C _ (congrFun (hF30 9 (by decide)) _) ?_
        refine pw_icmp_ge (tgt := 92) C dX2_refresh_38 (by decide) (by omega) (by omega) (fun h38 => ?_) (fun h38 => ?_)
        · refine pw_iconst C dX2_refresh_92 ?_
          refine pw_istore2 C (by decide) dX2_refresh_93 ?_
          refine pw_aload0 C dX2_refresh_94 ?_
          refine g_33_2 C fl_X2_21 dX2_refresh_95 ?_
          refine pw_iload1 C dX2_refresh_98 ?_
          have nz99_1 : M1 1 = M 1 := (hF30 1 (by decide))
          refine pw_cVi1 C (c_X3_rowsOf _ K _ _ (by first | omega | (simp only [nz99_1]; omega)) (by first | omega | (simp only [nz99_1]; omega))) cb_X3_rowsOf lay_1 kc_3 rfl ml_X2_67 dX2_refresh_99 (by decide) (Nat.le_of_ble_eq_true rfl) (fun r99 M99 hQ => ?_)
          obtain ⟨rfl, hMe⟩ := hQ
          replace hMe := hMe.symm
          subst hMe
          refine pw_istore3 C (by decide) dX2_refresh_102 ?_
          have cut_103 : ∀ (fu : Nat) (pl lf : Int) (M3 : Mem), Sm [34, 35, 37, 38, 39, 40, 41, 42] M M3 → (0 ≤ lf ∧ lf ≤ 65536) → (MoA (cf M) M3 m) → (Z0b M3) → (∀ j, j ≠ m → M3 34 j = M 34 j ∧ M3 35 j = M 35 j) → ((pl = -1 ∧ MoI (cf M) m (M3 34 m) (M3 35 m) (M 1 0 ^ m.toNat)) ∨ ((0 ≤ pl ∧ pl < m) ∧ ∃ k, (0 ≤ k ∧ k < M 1 0 ^ m.toNat) ∧ (∀ i, 0 ≤ i → i < m → M3 38 i = dg (M 1 0) m k i) ∧ MoI (cf M) m (M3 34 m) (M3 35 m) k ∧ WSb M3 pl ∧ M 1 0 ^ m.toNat ≤ lf + k)) → (lf).toNat < fu → PW X K LAY 4 (0, 0) (Zv X K LAY (fun M' => (MoS (cf M) m (M' 34 m) (M' 35 m)) ∧ (MoC (cf M) M') ∧ (M' 37 4 = 120) ∧ (Z0b M') ∧ Sm [34, 35, 37, 38, 39, 40, 41, 42] M M')) 103 [some (rV K 33), some (iV m), some (iV pl), some (iV lf)] [] M3 := by
            intro fu
            induction fu with
            | zero => intro _ _ _ _ _ _ _ _ _ hm; exact absurd hm (Nat.not_lt_zero _)
            | succ fu ih =>
              intro pl lf M3 hF103 hlf gA gz go hq hm
              have ih_103 := ih
              have hm_103 := hm
              have ecM3 : cf M3 = cf M := by unfold cf; rw [hF103 1 (by decide), hF103 2 (by decide), hF103 6 (by decide), hF103 7 (by decide), hF103 8 (by decide), hF103 9 (by decide), hF103 10 (by decide), hF103 11 (by decide)]
              have hplr : -1 ≤ pl ∧ pl < m := by rcases hq with q | q; omega; omega
              have e31 : M3 1 = M 1 := hF103 1 (by decide)
              have e370 : M3 37 0 = m := gA.2.1
              refine pw_iload3 C dX2_refresh_103 ?_
              refine pw_if_le (tgt := 131) C dX2_refresh_104 (by decide) (by omega) (fun h104 => ?_) (fun h104 => ?_)
              · exact pw_vretV C dX2_refresh_131 (⟨by
                      have hq2 : MoI (cf M) m (M3 34 m) (M3 35 m) (M 1 0 ^ m.toNat) := by
                        rcases hq with q | ⟨q, k, hk, q2, q3, q4, q5⟩
                        · exact q.2
                        · omega
                      exact MoI_end hW hq2, by
                      have hq2 : MoI (cf M) m (M3 34 m) (M3 35 m) (M 1 0 ^ m.toNat) := by
                        rcases hq with q | ⟨q, k, hk, q2, q3, q4, q5⟩
                        · exact q.2
                        · omega
                      intro j j1 j2
                      by_cases e : j = m
                      · rw [e]; exact Or.inr ⟨hm0, MoI_end hW hq2⟩
                      · rw [(go j e).1, (go j e).2]; exact hC j j1 j2, by exact gA.1, by exact gz, (Sm_trans Sm_refl hF103 (by decide))⟩)
              · refine pw_iload2 C dX2_refresh_107 ?_
                refine pw_if_lt (tgt := 131) C dX2_refresh_108 (by decide) (by omega) (fun h108 => ?_) (fun h108 => ?_)
                · exact pw_vretV C dX2_refresh_131 (⟨by
                        have hq2 : MoI (cf M) m (M3 34 m) (M3 35 m) (M 1 0 ^ m.toNat) := by
                          rcases hq with q | ⟨q, k, hk, q2, q3, q4, q5⟩
                          · exact q.2
                          · omega
                        exact MoI_end hW hq2, by
                        have hq2 : MoI (cf M) m (M3 34 m) (M3 35 m) (M 1 0 ^ m.toNat) := by
                          rcases hq with q | ⟨q, k, hk, q2, q3, q4, q5⟩
                          · exact q.2
                          · omega
                        intro j j1 j2
                        by_cases e : j = m
                        · rw [e]; exact Or.inr ⟨hm0, MoI_end hW hq2⟩
                        · rw [(go j e).1, (go j e).2]; exact hC j j1 j2, by exact gA.1, by exact gz, (Sm_trans Sm_refl hF103 (by decide))⟩)
                · obtain ⟨hpl, k, hk, hxk, hik, hsk, hlk2⟩ := hq.elim (fun h => absurd h.1 (by omega)) id
                  refine pw_aload0 C dX2_refresh_111 ?_
                  refine g_33_4 C fl_X2_34 dX2_refresh_112 ?_
                  refine pw_aload0 C dX2_refresh_115 ?_
                  refine pw_iload2 C dX2_refresh_116 ?_
                  refine pw_iload1 C dX2_refresh_117 ?_
                  have nz118_1 : M3 1 = M 1 := (hF103 1 (by decide))
                  refine pw_cVi2 C (c_X2_descend _ K _ _ _ (k) (by rw [ecM3]; exact hW) (by rw [ecM3]; exact hm0) (by rw [ecM3]; exact gA) (by omega) (by rw [e31]; exact hk) (by rw [e31]; exact hxk) (hsk) (by rw [ecM3]; exact hik) (gz)) cb_X2_descend lay_33 kc_2 rfl ml_X2_72 dX2_refresh_118 (by decide) (Nat.le_of_ble_eq_true rfl) (fun r118 M118 hQ => ?_)
                  obtain ⟨hr_118, hs_118, hi_118, ho_118, hz_118, hF118⟩ := hQ
                  rw [ecM3, e31] at hi_118
                  have nz121_1 : M118 1 = M 1 := ((hF118 1 (by decide)).trans (hF103 1 (by decide)))
                  have nz121_37 : M118 37 = M3 37 := (hF118 37 (by decide))
                  have nz121_38 : M118 38 = M3 38 := (hF118 38 (by decide))
                  refine pw_cVi1 C (c_X8_advance_B _ K _ _ (by rw [hF118 1 (by decide), e31]; exact w_let) (by rw [hF118 37 (by decide), e370]; omega) (by rw [hF118 1 (by decide), hF118 38 (by decide), e31]; intro i q1 q2; rw [hxk i q1 (by omega)]; exact dg_rng (by omega))) cb_X8_advance lay_37 kc_8 rfl ml_X2_75 dX2_refresh_121 (by decide) (Nat.le_of_ble_eq_true rfl) (fun r121 M121 hQ => ?_)
                  obtain ⟨hp_121, hF121⟩ := hQ
                  rw [hF118 1 (by decide), hF118 38 (by decide), hF118 37 (by decide), e31, e370] at hp_121
                  have hav := adv_skip (N := M 1 0) (n := m) (k := k) (la := r118) (r := r121) (x := M3 38) (y := M121 38) (by omega) hr_118 hk hxk (hp_121.elim (fun h => Or.inl ⟨h.1, h.2.1⟩) Or.inr)
                  have hgt := (nxk_gt (N := M 1 0) (n := m) (k := k) (la := r118) (x := M3 38) (by omega) hr_118 (fun i q1 q2 => by rw [hxk i q1 q2]; exact dg_rng (by omega)) (by rw [vl_congr (n := m) hxk m (by omega) (Int.le_refl _)]; exact dg_vl (by omega) m (by omega) k hk.1 hk.2)).1
                  refine pw_istore2 C (by decide) dX2_refresh_124 ?_
                  refine pw_iinc3 C (by decide) dX2_refresh_125 ?_
                  refine pw_goto (tgt := 103) C dX2_refresh_128 (by decide) ?_
                  exact ih_103 _ _ _ (Sm_trans (Sm_trans (Sm_trans Sm_refl hF103 (by decide)) hF118 (by decide)) hF121 (by decide)) (by omega) (by exact MoA_c ((hF121 37 (by decide)).trans (hF118 37 (by decide))) ((hF121 40 (by decide)).trans (hF118 40 (by decide))) gA) (by exact Z0b_c (hF121 _ (by decide)) (hF121 _ (by decide)) (hF121 _ (by decide)) hz_118) (by intro j q; rw [hF121 34 (by decide), hF121 35 (by decide), (ho_118 j q).1, (ho_118 j q).2]; exact go j q) (by
                        rw [hF121 34 (by decide), hF121 35 (by decide)]
                        rcases hav with q | q
                        · exact Or.inl ⟨q.1, by rw [← q.2]; exact hi_118⟩
                        · refine Or.inr ⟨by omega, nxk (M 1 0) (M3 38) m r118, ⟨by omega, q.2.1⟩, q.2.2.1, hi_118, ?_, by omega⟩
                          exact WSb_adv hs_118 hF121 (by omega) (fun i z1 z2 => by rw [hF118 38 (by decide)]; exact q.2.2.2 i z1 z2)) (by omega)
          exact cut_103 _ _ _ _ (Sm_trans Sm_refl hF30 (by decide)) (by rw [hF30 1 (by decide)]; omega) (by rw [show t = M 9 0 by omega] at gP; exact MoP_end gP) (by exact Z0b_c (hF30 _ (by decide)) (hF30 _ (by decide)) (hF30 _ (by decide)) hZ) (by intro j q; rw [g34 j, if_neg q, hF30 35 (by decide)]; exact ⟨rfl, rfl⟩) (by
                refine Or.inr ⟨by omega, 0, ⟨by omega, hpn.1⟩, fun i q1 q2 => ?_, ?_, ?_, ?_⟩
                · rw [gr i q1 q2]; exact dg_zero.symm
                · exact Or.inl ⟨rfl, by rw [g34 m, if_pos rfl]⟩
                · refine WSb_0 ?_ (Z0b_c (hF30 _ (by decide)) (hF30 _ (by decide)) (hF30 _ (by decide)) hZ)
                  have hpr := pfx_rng hW hm0 (M 9 0) (by omega) (Int.le_refl _)
                  rw [gP.2.2.1, show t = M 9 0 by omega]; omega
                · rw [hF30 1 (by decide)]; omega) (Nat.lt_succ_self _)
        · have hot : m ≤ M 11 t := hm0.2.2.2 t (by omega) (by show t < M 9 0; omega)
          have hxs := wf_xs hW t (by omega) (by omega)
          have hn : nPc (cf M) m t = M 11 t - m + 1 := rfl
          refine pw_iconst C dX2_refresh_41 ?_
          refine pw_istore3 C (by decide) dX2_refresh_42 ?_
          have cut_43 : ∀ (fu : Nat) (i : Int) (M2 : Mem), Sm [34, 37, 38, 40] M M2 → (0 ≤ i ∧ i ≤ nPc (cf M) m t) → (MoP (cf M) M2 m t i) → (∀ i, 0 ≤ i → i < m → M2 38 i = 0) → ((∀ j, M2 34 j = if j = m then 2147483647 else M 34 j)) → (nPc (cf M) m t - i).toNat < fu → PW X K LAY 4 (0, 0) (Zv X K LAY (fun M' => (MoS (cf M) m (M' 34 m) (M' 35 m)) ∧ (MoC (cf M) M') ∧ (M' 37 4 = 120) ∧ (Z0b M') ∧ Sm [34, 35, 37, 38, 39, 40, 41, 42] M M')) 43 [some (rV K 33), some (iV m), some (iV t), some (iV i)] [] M2 := by
            intro fu
            induction fu with
            | zero => intro _ _ _ _ _ _ _ hm; exact absurd hm (Nat.not_lt_zero _)
            | succ fu ih =>
              intro i M2 hF43 hi gP2 gr2 g342 hm
              have ih_43 := ih
              have hm_43 := hm
              have hn : nPc (cf M) m t = M 11 t - m + 1 := rfl
              refine pw_iload3 C dX2_refresh_43 ?_
              refine pw_aload0 C dX2_refresh_44 ?_
              refine g_33_3 C fl_X2_25 dX2_refresh_45 ?_
              refine pw_iload2 C dX2_refresh_48 ?_
              refine pw_iload1 C dX2_refresh_49 ?_
              refine pw_cVi2 C (c_X7_piecesOf _ K _ _ _ (by omega)) cb_X7_piecesOf lay_9 kc_7 rfl ml_X2_52 dX2_refresh_50 (by decide) (Nat.le_of_ble_eq_true rfl) (fun r50 M50 hQ => ?_)
              obtain ⟨rfl, hMe⟩ := hQ
              replace hMe := hMe.symm
              subst hMe
              rw [hF43 11 (by decide)]
              refine pw_icmp_ge (tgt := 86) C dX2_refresh_53 (by decide) (by omega) (by omega) (fun h53 => ?_) (fun h53 => ?_)
              · have hie : i = nPc (cf M) m t := by omega
                refine pw_iinc2 C (by decide) dX2_refresh_86 ?_
                refine pw_goto (tgt := 30) C dX2_refresh_89 (by decide) ?_
                refine pw_fgt (fgt_k (fgt_k (fgt_k (fgt_no fgt_nil)))) ?_
                exact ih_30 _ _ (Sm_trans Sm_refl hF43 (by decide)) (by omega) (by rw [hie] at gP2; exact MoP_next (by omega) gP2) (by exact gr2) (by exact g342) (by omega)
              · have hpi := pfx_in hm0 (t := t) (i := i) ⟨by omega, by show t < M 9 0; omega⟩ (by omega)
                have hpr := pfx_rng hW hm0 (M 9 0) (by omega) (Int.le_refl _)
                have hpt := pfx_rng hW hm0 t (by omega) (by show t ≤ M 9 0; omega)
                have e9 : kT (cf M) = M 9 0 := rfl
                rw [e9] at hpi
                have d1 := gP2.2.2.1
                have d0 := gP2.2.1
                refine pw_aload0 C dX2_refresh_56 ?_
                refine g_33_4 C fl_X2_34 dX2_refresh_57 ?_
                refine pw_aload0 C dX2_refresh_60 ?_
                refine g_33_3 C fl_X2_25 dX2_refresh_61 ?_
                refine g_9_1 C fl_X2_56 dX2_refresh_64 ?_
                refine pw_aload0 C dX2_refresh_67 ?_
                refine g_33_3 C fl_X2_25 dX2_refresh_68 ?_
                refine pw_iload2 C dX2_refresh_71 ?_
                refine pw_cVi1 C (c_X7_start _ K _ _) cb_X7_start lay_9 kc_7 rfl ml_X2_59 dX2_refresh_72 (by decide) (Nat.le_of_ble_eq_true rfl) (fun r72 M72 hQ => ?_)
                obtain ⟨rfl, hMe⟩ := hQ
                replace hMe := hMe.symm
                subst hMe
                refine pw_iload3 C dX2_refresh_75 ?_
                refine pw_iadd C dX2_refresh_76 ?_
                refine pw_cVv2 C (c_X8_aimAt_B _ K _ _ (gP2.1) (by omega) (by omega) (by omega)) cb_X8_aimAt lay_37 kc_8 rfl ml_X2_63 dX2_refresh_77 (by decide) (Nat.le_of_ble_eq_true rfl) (fun M77 hQ => ?_)
                obtain ⟨h1_77, h2_77, h3_77, h4_77, h5_77, hF77⟩ := hQ
                refine pw_iinc3 C (by decide) dX2_refresh_80 ?_
                refine pw_goto (tgt := 43) C dX2_refresh_83 (by decide) ?_
                exact ih_43 _ _ (Sm_trans (Sm_trans Sm_refl hF43 (by decide)) hF77 (by decide)) (by omega) (by exact MoP_step hW hm0 (show M2 10 = M 10 from hF43 10 (by decide)) ⟨by omega, by show t < M 9 0; omega⟩ (by omega) gP2 h1_77 h2_77 h3_77 h4_77 h5_77) (by rw [hF77 38 (by decide)]; exact gr2) (by rw [hF77 34 (by decide)]; exact g342) (by omega)
          exact cut_43 _ _ _ (Sm_trans Sm_refl hF30 (by decide)) (by omega) (by exact gP) (by exact gr) (by exact g34) (Nat.lt_succ_self _)
    exact cut_30 _ _ _ (Sm_trans (Sm_up Sm_refl (by decide)) hF25 (by decide)) (by omega) (by refine ⟨by rw [h3_25, up2_ne (by decide)]; exact hwd, h1_25, by rw [h2_25]; rfl, fun u i p u0 hu i0 p0 p1 => by omega, fun i t i0 i1 t0 t1 => by rw [h2_25] at t1; omega⟩) (by exact h4_25) (by intro j; rw [hF25 34 (by decide), rd_if]) (Nat.lt_succ_self _)
  · exact pw_vretV C dX2_refresh_11 (⟨by exact hCm.elim (fun h => absurd h h8) (fun h => h.2), by exact hC, by exact hwd, by exact hZ, Sm_refl⟩)
set_option maxHeartbeats 4000000 in
set_option maxRecDepth 100000 in
theorem c_X2_nearestPiece (l : Launch) (K : KX) (M : Mem) (m t : Int) (b : Int) (hW : WfK (cf M)) (hm0 : okM (cf M) m) (ht : 0 ≤ t ∧ t < M 9 0) (hfd : M 35 m = vl 4 (dg (M 1 0) m b) m) : MCi l K LAY yX2_nearestPiece cX2_nearestPiece 7 (some .int) 2 [rV K 33, iV m, iV t] M (fun r M' => (FM (fun _ => true) (pcD (cf M) (dg (M 1 0) m b) t m) (nPc (cf M) m t) r) ∧ Sm [36] M M') := by
  refine mci_intro RX2 rfl [some (rV K 33), some (iV m), some (iV t), none, none, none, none] rfl (by decide +kernel) (cat_r (cat_i (cat_i cat_nil))) (Nat.le_of_ble_eq_true rfl) (fun X hX C => ?_)
  subst hX
  have w_let := wf_let hW
  have w_sw := wf_sw hW
  have w_t := wf_t hW
  have hm6 : 1 ≤ m ∧ m ≤ 6 := ⟨hm0.1, hm0.2.1⟩
  have hot : m ≤ M 11 t := hm0.2.2.2 t ht.1 ht.2
  have hxs := wf_xs hW t ht.1 ht.2
  have hn : nPc (cf M) m t = M 11 t - m + 1 := rfl
  have hvr := vl4_m hW (m := m) (b := b) (by omega)
  rw [show kN (cf M) = M 1 0 from rfl] at hvr
  refine pw_iconst C dX2_nearestPiece_0 ?_
  refine pw_istore3 C (by decide) dX2_nearestPiece_1 ?_
  have cut_2 : ∀ (fu : Nat) (i : Int) (M1 : Mem), Sm [36] M M1 → (0 ≤ i ∧ i ≤ m) → (∀ j, 0 ≤ j → j < i → M1 36 j = dg (M 1 0) m b j) → (m - i).toNat < fu → PW X K LAY 7 (0, 0) (Zi X K LAY (fun r M' => (FM (fun _ => true) (pcD (cf M) (dg (M 1 0) m b) t m) (nPc (cf M) m t) r) ∧ Sm [36] M M')) 2 [some (rV K 33), some (iV m), some (iV t), some (iV i), none, none, none] [] M1 := by
    intro fu
    induction fu with
    | zero => intro _ _ _ _ _ hm; exact absurd hm (Nat.not_lt_zero _)
    | succ fu ih =>
      intro i M1 hF2 hi g hm
      have ih_2 := ih
      have hm_2 := hm
      refine pw_iload3 C dX2_nearestPiece_2 ?_
      refine pw_iload1 C dX2_nearestPiece_3 ?_
      refine pw_icmp_ge (tgt := 30) C dX2_nearestPiece_4 (by decide) (by omega) (by omega) (fun h4 => ?_) (fun h4 => ?_)
      · refine pw_iconst C dX2_nearestPiece_30 ?_
        refine pw_istore3 C (by decide) dX2_nearestPiece_31 ?_
        refine pw_ldc C (z := 2147483647) (by decide) ct_X2_41 dX2_nearestPiece_32 ?_
        refine pw_istore4 C (by decide) dX2_nearestPiece_34 ?_
        refine pw_iconst C dX2_nearestPiece_36 ?_
        refine pw_istore5 C (by decide) dX2_nearestPiece_37 ?_
        have cut_39 : ∀ (fu : Nat) (ne le i : Int), (0 ≤ i ∧ i ≤ nPc (cf M) m t) → ((i = 0 ∧ le = 2147483647) ∨ (FM (fun _ => true) (pcD (cf M) (dg (M 1 0) m b) t m) i ne ∧ le = (pcD (cf M) (dg (M 1 0) m b) t m) ne)) → (0 ≤ le ∧ le ≤ 2147483647) → (nPc (cf M) m t - i).toNat < fu → PW X K LAY 7 (0, 0) (Zi X K LAY (fun r M' => (FM (fun _ => true) (pcD (cf M) (dg (M 1 0) m b) t m) (nPc (cf M) m t) r) ∧ Sm [36] M M')) 39 [some (rV K 33), some (iV m), some (iV t), some (iV ne), some (iV le), some (iV i), none] [] M1 := by
          intro fu
          induction fu with
          | zero => intro _ _ _ _ _ _ hm; exact absurd hm (Nat.not_lt_zero _)
          | succ fu ih =>
            intro ne le i hi2 hb2 hler hm
            have ih_39 := ih
            have hm_39 := hm
            refine pw_iload5 C dX2_nearestPiece_39 ?_
            refine pw_aload0 C dX2_nearestPiece_41 ?_
            refine g_33_3 C fl_X2_25 dX2_nearestPiece_42 ?_
            refine pw_iload2 C dX2_nearestPiece_45 ?_
            refine pw_iload1 C dX2_nearestPiece_46 ?_
            refine pw_cVi2 C (c_X7_piecesOf _ K _ _ _ (by omega)) cb_X7_piecesOf lay_9 kc_7 rfl ml_X2_52 dX2_nearestPiece_47 (by decide) (Nat.le_of_ble_eq_true rfl) (fun r47 M47 hQ => ?_)
            obtain ⟨rfl, hMe⟩ := hQ
            replace hMe := hMe.symm
            subst hMe
            rw [hF2 11 (by decide)]
            refine pw_icmp_ge (tgt := 106) C dX2_nearestPiece_50 (by decide) (by omega) (by omega) (fun h50 => ?_) (fun h50 => ?_)
            · refine pw_iload3 C dX2_nearestPiece_106 ?_
              exact pw_iretI C dX2_nearestPiece_107 (⟨by
                    rw [show i = nPc (cf M) m t by omega] at hb2
                    rcases hb2 with q | q
                    · omega
                    · exact q.1, (Sm_trans Sm_refl hF2 (by decide))⟩)
            · refine pw_aload0 C dX2_nearestPiece_53 ?_
              refine g_33_2 C fl_X2_21 dX2_nearestPiece_54 ?_
              refine pw_aload0 C dX2_nearestPiece_57 ?_
              refine g_33_5 C fl_X2_18 dX2_nearestPiece_58 ?_
              refine pw_iconst C dX2_nearestPiece_61 ?_
              refine pw_aload0 C dX2_nearestPiece_62 ?_
              refine g_33_3 C fl_X2_25 dX2_nearestPiece_63 ?_
              refine g_9_1 C fl_X2_56 dX2_nearestPiece_66 ?_
              refine pw_aload0 C dX2_nearestPiece_69 ?_
              refine g_33_3 C fl_X2_25 dX2_nearestPiece_70 ?_
              refine pw_iload2 C dX2_nearestPiece_73 ?_
              refine pw_cVi1 C (c_X7_start _ K _ _) cb_X7_start lay_9 kc_7 rfl ml_X2_59 dX2_nearestPiece_74 (by decide) (Nat.le_of_ble_eq_true rfl) (fun r74 M74 hQ => ?_)
              obtain ⟨rfl, hMe⟩ := hQ
              replace hMe := hMe.symm
              subst hMe
              refine pw_iload5 C dX2_nearestPiece_77 ?_
              refine pw_iadd C dX2_nearestPiece_79 ?_
              refine pw_iload1 C dX2_nearestPiece_80 ?_
              have nz81_1 : M1 1 = M 1 := (hF2 1 (by decide))
              have nz81_2 : M1 2 = M 2 := (hF2 2 (by decide))
              refine pw_cVi5 C (c_X3_distance _ K _ 36 10 _ _ _ _ _ (lay_36) (lay_10) (by decide) (by decide) (by omega) (by omega) (by omega) (by intro p q1 q2; rw [Int.zero_add, g p q1 (by omega)]; exact dgc_rng hW) (by rw [hF2 10 (by decide)]; intro p q1 q2; have := wf_x hW t (i + p) (by omega) (by omega) (by omega) (by omega); rw [← Int.add_assoc] at this; omega) (by rw [hF2 2 (by decide)]; exact wf_pr hW) (by rw [hF2 1 (by decide)]; exact w_sw)) cb_X3_distance lay_1 kc_3 rfl ml_X2_112 dX2_nearestPiece_81 (by decide) (Nat.le_of_ble_eq_true rfl) (fun r81 M81 hQ => ?_)
              obtain ⟨rfl, hMe⟩ := hQ
              replace hMe := hMe.symm
              subst hMe
              refine pw_top C ((pcD (cf M) (dg (M 1 0) m b) t m) i) (by rw [hF2 2 (by decide), hF2 1 (by decide), hF2 10 (by decide)]; exact dst_congr (n := m) (fun p q1 q2 => by rw [Int.zero_add]; exact g p q1 (by omega)) (fun _ _ _ => rfl) (fun _ _ _ => rfl) m (by omega) (Int.le_refl _)) ?_
              have hdr := pcD_rng hW (x := dg (M 1 0) m b) (m := m) (t := t) (i := i) ht (by omega) (fun _ _ _ => dgc_rng hW) m (by omega) (Int.le_refl _)
              refine pw_istore6 C (by decide) dX2_nearestPiece_84 ?_
              refine pw_iload6 C dX2_nearestPiece_86 ?_
              refine pw_iload4 C dX2_nearestPiece_88 ?_
              refine pw_icmp_ge (tgt := 100) C dX2_nearestPiece_90 (by decide) (by omega) (by omega) (fun h90 => ?_) (fun h90 => ?_)
              · refine pw_iinc5 C (by decide) dX2_nearestPiece_100 ?_
                refine pw_goto (tgt := 39) C dX2_nearestPiece_103 (by decide) ?_
                refine pw_fgt (fgt_k (fgt_k (fgt_k (fgt_k (fgt_k (fgt_k (fgt_no fgt_nil))))))) ?_
                exact ih_39 _ _ _ (by omega) (by
                      first
                        | (rcases hb2 with q | q
                           · omega
                           · exact Or.inr ⟨FM_keep q.1 (Or.inr (by rw [← q.2]; omega)), q.2⟩)
                        | (right
                           refine ⟨?_, rfl⟩
                           rcases hb2 with q | q
                           · exact FM_first (fun j q1 q2 => by omega) rfl (by omega)
                           · exact FM_new q.1 rfl (by rw [← q.2]; omega) (by omega))) (by omega) (by omega)
              · refine pw_iload6 C dX2_nearestPiece_93 ?_
                refine pw_istore4 C (by decide) dX2_nearestPiece_95 ?_
                refine pw_iload5 C dX2_nearestPiece_97 ?_
                refine pw_istore3 C (by decide) dX2_nearestPiece_99 ?_
                refine pw_iinc5 C (by decide) dX2_nearestPiece_100 ?_
                refine pw_goto (tgt := 39) C dX2_nearestPiece_103 (by decide) ?_
                refine pw_fgt (fgt_k (fgt_k (fgt_k (fgt_k (fgt_k (fgt_k (fgt_no fgt_nil))))))) ?_
                exact ih_39 _ _ _ (by omega) (by
                      first
                        | (rcases hb2 with q | q
                           · omega
                           · exact Or.inr ⟨FM_keep q.1 (Or.inr (by rw [← q.2]; omega)), q.2⟩)
                        | (right
                           refine ⟨?_, rfl⟩
                           rcases hb2 with q | q
                           · exact FM_first (fun j q1 q2 => by omega) rfl (by omega)
                           · exact FM_new q.1 rfl (by rw [← q.2]; omega) (by omega))) (by omega) (by omega)
        exact cut_39 _ _ _ _ (by omega) (by exact Or.inl ⟨rfl, rfl⟩) (by omega) (Nat.lt_succ_self _)
      · refine pw_aload0 C dX2_nearestPiece_7 ?_
        refine g_33_5 C fl_X2_18 dX2_nearestPiece_8 ?_
        refine pw_iload3 C dX2_nearestPiece_11 ?_
        refine pw_aload0 C dX2_nearestPiece_12 ?_
        refine g_33_1 C fl_X2_15 dX2_nearestPiece_13 ?_
        refine pw_iload1 C dX2_nearestPiece_16 ?_
        refine pw_iaload C lay_35 (by omega) (by decide) dX2_nearestPiece_17 ?_
        refine pw_top C _ (congrFun (hF2 35 (by decide)) _) ?_
        refine pw_iload1 C dX2_nearestPiece_18 ?_
        refine pw_iload3 C dX2_nearestPiece_19 ?_
        refine pw_cSi3 C (c_X8_letterAt _ K _ _ _ _ (by omega) (by omega)) cb_X8_letterAt ml_X2_109 dX2_nearestPiece_20 (by decide) (Nat.le_of_ble_eq_true rfl) (fun r20 M20 hQ => ?_)
        obtain ⟨rfl, hMe⟩ := hQ
        replace hMe := hMe.symm
        subst hMe
        refine pw_top C (dg (M 1 0) m b i) (by rw [hfd]; exact dg4_m hW (by omega) (by omega)) ?_
        refine pw_iastore C lay_36 (by omega) (by decide) dX2_nearestPiece_23 ?_
        refine pw_iinc3 C (by decide) dX2_nearestPiece_24 ?_
        refine pw_goto (tgt := 2) C dX2_nearestPiece_27 (by decide) ?_
        exact ih_2 _ _ (Sm_up (Sm_trans Sm_refl hF2 (by decide)) (by decide)) (by omega) (by
              intro j q1 q2
              rw [rd_if]
              by_cases e : j = i
              · rw [if_pos e, e]
              · rw [if_neg e]; exact g j q1 (by omega)) (by omega)
  exact cut_2 _ _ _ Sm_refl (by omega) (by intro j q1 q2; omega) (Nat.lt_succ_self _)
