set_option maxHeartbeats 4000000 in
set_option maxRecDepth 100000 in
theorem c_X11_median (l : Launch) (K : KX) (M : Mem) (hW : WfK (cfM M)) (hKn : M 43 13 = 0 ∨ (M 43 13 = 1 ∧ KnOK (cfM M) M)) : MCi l K LAY yX11_median cX11_median 2 (some .int) 6 [rV K 43] M (fun r M' => (PB (cfM M) (suK (cfM M)) (suK (cfM M)) r) ∧ (M' 43 0 = 0) ∧ (M' 43 13 = 0 ∨ (M' 43 13 = 1 ∧ KnOK (cfM M) M')) ∧ Sm [43, 51, 52, 53] M M' ∧ Fm [0, 13, 25] M M') := by
  refine mci_intro RX11 rfl [some (rV K 43), none] rfl (by decide +kernel) (cat_r cat_nil) (Nat.le_of_ble_eq_true rfl) (fun X hX C => ?_)
  subst hX
  have w_let := wm_let hW
  have w_sw := wm_sw hW
  have w_dr := wm_dr hW
  have w_gp := wm_gp hW
  have w_w := wm_w hW
  have w_l := wm_l hW
  have w_l1 := wm_l1 hW
  have w_t := wm_t hW
  have hK0 := nK_pos hW
  have hK1 := nK_le hW
  have ec0 : cfM (up2 M 43 0 0) = cfM M := cfM_e (rd_ne (by decide)) (rd_ne (by decide)) (rd_ne (by decide)) (rd_ne (by decide)) (rd_ne (by decide)) (rd_ne (by decide)) (rd_ne (by decide)) (up2_ne (by decide)) (up2_ne (by decide)) (up2_ne (by decide)) (up2_ne (by decide)) (up2_ne (by decide))
  refine pw_aload0 C dX11_median_0 ?_
  refine pw_iconst C dX11_median_1 ?_
  refine p_43_0 C fl_X11_1 dX11_median_2 ?_
  refine pw_aload0 C dX11_median_5 ?_
  refine pw_cVi0 C (c_X11_leastSum _ K _ (by rw [ec0]; exact hW) (by rw [ec0, rd_ne (by decide)]; exact hKn.elim Or.inl (fun h => Or.inr ⟨h.1, KnOK_c (up2_ne (by decide)) h.2⟩))) cb_X11_leastSum lay_43 kc_11 rfl ml_X11_188 dX11_median_6 (by decide) (Nat.le_of_ble_eq_true rfl) (fun r6 M6 hQ => ?_)
  obtain ⟨hK_6, hp_6, hc_6, hF6, hJ6⟩ := hQ
  rw [ec0] at hp_6 hK_6 hc_6
  have ec6 : cfM M6 = cfM M := cfM_e ((hJ6 1 (by decide)).trans (rd_ne (by decide))) ((hJ6 3 (by decide)).trans (rd_ne (by decide))) ((hJ6 4 (by decide)).trans (rd_ne (by decide))) ((hJ6 5 (by decide)).trans (rd_ne (by decide))) ((hJ6 6 (by decide)).trans (rd_ne (by decide))) ((hJ6 7 (by decide)).trans (rd_ne (by decide))) ((hJ6 10 (by decide)).trans (rd_ne (by decide))) ((hF6 44 (by decide)).trans (up2_ne (by decide))) ((hF6 45 (by decide)).trans (up2_ne (by decide))) ((hF6 46 (by decide)).trans (up2_ne (by decide))) ((hF6 47 (by decide)).trans (up2_ne (by decide))) ((hF6 48 (by decide)).trans (up2_ne (by decide)))
  have hca := ne_cases hp_6
  have hcr : -1 ≤ r6 ∧ r6 < nK (cfM M) := by rcases hca with q | q; omega; omega
  refine pw_istore1 C (by decide) dX11_median_9 ?_
  refine pw_iload1 C dX11_median_10 ?_
  refine pw_iconst C dX11_median_11 ?_
  refine pw_icmp_ne (tgt := 19) C dX11_median_12 (by decide) (by omega) (by omega) (fun h12 => ?_) (fun h12 => ?_)
  · have hcb := hca.elim (fun h => absurd h.1 h12) id
    refine pw_aload0 C dX11_median_19 ?_
    refine pw_iload1 C dX11_median_20 ?_
    refine pw_cVi1 C (c_X11_sumOf _ K _ _ (by rw [ec6]; exact hW) (by rw [ec6]; exact hcb.2.2.1) (by rw [ec6]; omega)) cb_X11_sumOf lay_43 kc_11 rfl ml_X11_185 dX11_median_21 (by decide) (Nat.le_of_ble_eq_true rfl) (fun r21 M21 hQ => ?_)
    obtain ⟨rfl, hMe⟩ := hQ
    replace hMe := hMe.symm
    subst hMe
    rw [ec6]
    exact pw_iretI C dX11_median_24 (⟨by
          rcases hca with q | q
          · first | exact q.2 _ | exact absurd q.1 h12
          · first | exact absurd h12 (by omega) | exact q.2.2.2 _, by rw [hJ6 0 (by decide)]; exact rd_eq, by exact hK_6, (Sm_trans (Sm_up Sm_refl (by decide)) hF6 (by decide)), (Fm_tr (Fm_up Fm_refl (by decide)) hJ6 (by decide))⟩)
  · refine pw_iconst C dX11_median_15 ?_
    refine pw_goto (tgt := 24) C dX11_median_16 (by decide) ?_
    exact pw_iretI C dX11_median_24 (⟨by
          rcases hca with q | q
          · first | exact q.2 _ | exact absurd q.1 h12
          · first | exact absurd h12 (by omega) | exact q.2.2.2 _, by rw [hJ6 0 (by decide)]; exact rd_eq, by exact hK_6, (Sm_trans (Sm_up Sm_refl (by decide)) hF6 (by decide)), (Fm_tr (Fm_up Fm_refl (by decide)) hJ6 (by decide))⟩)
set_option maxHeartbeats 4000000 in
set_option maxRecDepth 100000 in
theorem c_X11_medianAt (l : Launch) (K : KX) (M : Mem) (i : Int) (hW : WfK (cfM M)) (hKn : M 43 13 = 0 ∨ (M 43 13 = 1 ∧ KnOK (cfM M) M)) (hi : -2147483648 ≤ i ∧ i ≤ 2147483647) : MCi l K LAY yX11_medianAt cX11_medianAt 2 (some .int) 6 [rV K 43, iV i] M (fun r M' => (PB (cfM M) (suK (cfM M)) (fun b => if 0 ≤ i ∧ i < kL (cfM M) then rwX (cfM M) b i else -1) r) ∧ (M' 43 0 = 0) ∧ (M' 43 13 = 0 ∨ (M' 43 13 = 1 ∧ KnOK (cfM M) M')) ∧ Sm [43, 51, 52, 53] M M' ∧ Fm [0, 13, 25] M M') := by
  refine mci_intro RX11 rfl [some (rV K 43), some (iV i)] rfl (by decide +kernel) (cat_r (cat_i cat_nil)) (Nat.le_of_ble_eq_true rfl) (fun X hX C => ?_)
  subst hX
  have w_let := wm_let hW
  have w_sw := wm_sw hW
  have w_dr := wm_dr hW
  have w_gp := wm_gp hW
  have w_w := wm_w hW
  have w_l := wm_l hW
  have w_l1 := wm_l1 hW
  have w_t := wm_t hW
  have hK0 := nK_pos hW
  have hK1 := nK_le hW
  have ec0 : cfM (up2 M 43 0 0) = cfM M := cfM_e (rd_ne (by decide)) (rd_ne (by decide)) (rd_ne (by decide)) (rd_ne (by decide)) (rd_ne (by decide)) (rd_ne (by decide)) (rd_ne (by decide)) (up2_ne (by decide)) (up2_ne (by decide)) (up2_ne (by decide)) (up2_ne (by decide)) (up2_ne (by decide))
  refine pw_aload0 C dX11_medianAt_0 ?_
  refine pw_iconst C dX11_medianAt_1 ?_
  refine p_43_0 C fl_X11_1 dX11_medianAt_2 ?_
  refine pw_aload0 C dX11_medianAt_5 ?_
  refine pw_aload0 C dX11_medianAt_6 ?_
  refine pw_cVi0 C (c_X11_leastSum _ K _ (by rw [ec0]; exact hW) (by rw [ec0, rd_ne (by decide)]; exact hKn.elim Or.inl (fun h => Or.inr ⟨h.1, KnOK_c (up2_ne (by decide)) h.2⟩))) cb_X11_leastSum lay_43 kc_11 rfl ml_X11_188 dX11_medianAt_7 (by decide) (Nat.le_of_ble_eq_true rfl) (fun r7 M7 hQ => ?_)
  obtain ⟨hK_7, hp_7, hc_7, hF7, hJ7⟩ := hQ
  rw [ec0] at hp_7 hK_7 hc_7
  have ec7 : cfM M7 = cfM M := cfM_e ((hJ7 1 (by decide)).trans (rd_ne (by decide))) ((hJ7 3 (by decide)).trans (rd_ne (by decide))) ((hJ7 4 (by decide)).trans (rd_ne (by decide))) ((hJ7 5 (by decide)).trans (rd_ne (by decide))) ((hJ7 6 (by decide)).trans (rd_ne (by decide))) ((hJ7 7 (by decide)).trans (rd_ne (by decide))) ((hJ7 10 (by decide)).trans (rd_ne (by decide))) ((hF7 44 (by decide)).trans (up2_ne (by decide))) ((hF7 45 (by decide)).trans (up2_ne (by decide))) ((hF7 46 (by decide)).trans (up2_ne (by decide))) ((hF7 47 (by decide)).trans (up2_ne (by decide))) ((hF7 48 (by decide)).trans (up2_ne (by decide)))
  have hca := ne_cases hp_7
  have hcr : -1 ≤ r7 ∧ r7 < nK (cfM M) := by rcases hca with q | q; omega; omega
  refine pw_iload1 C dX11_medianAt_10 ?_
  refine pw_cVi2 C (c_X11_letterOf _ K _ _ _ (by rw [ec7]; exact hW) (by rw [ec7]; rcases hca with q | q; exact Or.inl q.1; exact Or.inr ⟨q.1, q.2.1⟩) (by omega)) cb_X11_letterOf lay_43 kc_11 rfl ml_X11_160 dX11_medianAt_11 (by decide) (Nat.le_of_ble_eq_true rfl) (fun r11 M11 hQ => ?_)
  obtain ⟨hp_11, hF11⟩ := hQ
  rw [ec7, hJ7 7 (by decide), rd_ne (by decide)] at hp_11
  exact pw_iretI C dX11_medianAt_14 (⟨by
        rw [hp_11]
        rcases hca with q | q
        · rw [if_neg (fun h => h.1 q.1)]; exact q.2 _
        · have hq := q.2.2.2 (fun b => if 0 ≤ i ∧ i < kL (cfM M) then rwX (cfM M) b i else -1)
          have h9 : kL (cfM M) = M 43 7 := rfl
          by_cases e : 0 ≤ i ∧ i < M 43 7
          · rw [if_pos ⟨by omega, e⟩]
            simp only [h9, e, and_self, if_true] at hq ⊢
            exact hq
          · rw [if_neg (fun h => e h.2)]
            simp only [h9, e, if_false] at hq ⊢
            exact hq, by rw [hF11 43 (by decide)]; rw [hJ7 0 (by decide)]; exact rd_eq, by rw [hF11 43 (by decide)]; exact hK_7.elim Or.inl (fun h => Or.inr ⟨h.1, KnOK_c (hF11 52 (by decide)) h.2⟩), (Sm_trans (Sm_trans (Sm_up Sm_refl (by decide)) hF7 (by decide)) hF11 (by decide)), (Fm_fr (Fm_tr (Fm_up Fm_refl (by decide)) hJ7 (by decide)) hF11 (by decide))⟩)
set_option maxHeartbeats 4000000 in
set_option maxRecDepth 100000 in
theorem c_X11_medians (l : Launch) (K : KX) (M : Mem) (hW : WfK (cfM M)) (hKn : M 43 13 = 0 ∨ (M 43 13 = 1 ∧ KnOK (cfM M) M)) : MCi l K LAY yX11_medians cX11_medians 1 (some .int) 6 [rV K 43] M (fun r M' => (PB (cfM M) (suK (cfM M)) (fun b => cnI (fun j => cdK (cfM M) j && decide (suK (cfM M) j = suK (cfM M) b)) (nK (cfM M))) r) ∧ (M' 43 0 = 0) ∧ (M' 43 13 = 0 ∨ (M' 43 13 = 1 ∧ KnOK (cfM M) M')) ∧ Sm [43, 51, 52, 53] M M' ∧ Fm [0, 13, 25] M M') := by
  refine mci_intro RX11 rfl [some (rV K 43)] rfl (by decide +kernel) (cat_r cat_nil) (Nat.le_of_ble_eq_true rfl) (fun X hX C => ?_)
  subst hX
  have w_let := wm_let hW
  have w_sw := wm_sw hW
  have w_dr := wm_dr hW
  have w_gp := wm_gp hW
  have w_w := wm_w hW
  have w_l := wm_l hW
  have w_l1 := wm_l1 hW
  have w_t := wm_t hW
  have hK0 := nK_pos hW
  have hK1 := nK_le hW
  have ec0 : cfM (up2 M 43 0 0) = cfM M := cfM_e (rd_ne (by decide)) (rd_ne (by decide)) (rd_ne (by decide)) (rd_ne (by decide)) (rd_ne (by decide)) (rd_ne (by decide)) (rd_ne (by decide)) (up2_ne (by decide)) (up2_ne (by decide)) (up2_ne (by decide)) (up2_ne (by decide)) (up2_ne (by decide))
  refine pw_aload0 C dX11_medians_0 ?_
  refine pw_iconst C dX11_medians_1 ?_
  refine p_43_0 C fl_X11_1 dX11_medians_2 ?_
  refine pw_aload0 C dX11_medians_5 ?_
  refine pw_cVi0 C (c_X11_leastSum _ K _ (by rw [ec0]; exact hW) (by rw [ec0, rd_ne (by decide)]; exact hKn.elim Or.inl (fun h => Or.inr ⟨h.1, KnOK_c (up2_ne (by decide)) h.2⟩))) cb_X11_leastSum lay_43 kc_11 rfl ml_X11_188 dX11_medians_6 (by decide) (Nat.le_of_ble_eq_true rfl) (fun r6 M6 hQ => ?_)
  obtain ⟨hK_6, hp_6, hc_6, hF6, hJ6⟩ := hQ
  rw [ec0] at hp_6 hK_6 hc_6
  have ec6 : cfM M6 = cfM M := cfM_e ((hJ6 1 (by decide)).trans (rd_ne (by decide))) ((hJ6 3 (by decide)).trans (rd_ne (by decide))) ((hJ6 4 (by decide)).trans (rd_ne (by decide))) ((hJ6 5 (by decide)).trans (rd_ne (by decide))) ((hJ6 6 (by decide)).trans (rd_ne (by decide))) ((hJ6 7 (by decide)).trans (rd_ne (by decide))) ((hJ6 10 (by decide)).trans (rd_ne (by decide))) ((hF6 44 (by decide)).trans (up2_ne (by decide))) ((hF6 45 (by decide)).trans (up2_ne (by decide))) ((hF6 46 (by decide)).trans (up2_ne (by decide))) ((hF6 47 (by decide)).trans (up2_ne (by decide))) ((hF6 48 (by decide)).trans (up2_ne (by decide)))
  have hca := ne_cases hp_6
  have hcr : -1 ≤ r6 ∧ r6 < nK (cfM M) := by rcases hca with q | q; omega; omega
  refine pw_iconst C dX11_medians_9 ?_
  refine pw_icmp_ne (tgt := 17) C dX11_medians_10 (by decide) (by omega) (by omega) (fun h10 => ?_) (fun h10 => ?_)
  · refine pw_aload0 C dX11_medians_17 ?_
    refine g_43_25 C fl_X11_182 dX11_medians_18 ?_
    exact pw_iretI C dX11_medians_21 (⟨by
          rcases hca with q | q
          · first | exact q.2 _ | exact absurd q.1 h10
          · first | exact absurd h10 (by omega) | (have hq := q.2.2.2 (fun b => cnI (fun j => cdK (cfM M) j && decide (suK (cfM M) j = suK (cfM M) b)) (nK (cfM M))); rw [hc_6 (by omega)]; exact hq), by rw [hJ6 0 (by decide)]; exact rd_eq, by exact hK_6, (Sm_trans (Sm_up Sm_refl (by decide)) hF6 (by decide)), (Fm_tr (Fm_up Fm_refl (by decide)) hJ6 (by decide))⟩)
  · refine pw_iconst C dX11_medians_13 ?_
    refine pw_goto (tgt := 21) C dX11_medians_14 (by decide) ?_
    exact pw_iretI C dX11_medians_21 (⟨by
          rcases hca with q | q
          · first | exact q.2 _ | exact absurd q.1 h10
          · first | exact absurd h10 (by omega) | (have hq := q.2.2.2 (fun b => cnI (fun j => cdK (cfM M) j && decide (suK (cfM M) j = suK (cfM M) b)) (nK (cfM M))); rw [hc_6 (by omega)]; exact hq), by rw [hJ6 0 (by decide)]; exact rd_eq, by exact hK_6, (Sm_trans (Sm_up Sm_refl (by decide)) hF6 (by decide)), (Fm_tr (Fm_up Fm_refl (by decide)) hJ6 (by decide))⟩)
set_option maxHeartbeats 4000000 in
set_option maxRecDepth 100000 in
theorem c_X11_without (l : Launch) (K : KX) (M : Mem) (k : Int) (hW : WfK (cfM M)) (hKn : M 43 13 = 0 ∨ (M 43 13 = 1 ∧ KnOK (cfM M) M)) (hk0 : -2147483648 ≤ k ∧ k ≤ 2147483647) : MCi l K LAY yX11_without cX11_without 3 (some .int) 6 [rV K 43, iV k] M (fun r M' => (PWo (cfM M) k (rbK (cfM M) k) r) ∧ (M' 43 0 = 0) ∧ (M' 43 13 = 0 ∨ (M' 43 13 = 1 ∧ KnOK (cfM M) M')) ∧ Sm [43, 51, 52, 53] M M' ∧ Fm [0, 13] M M') := by
  refine mci_intro RX11 rfl [some (rV K 43), some (iV k), none] rfl (by decide +kernel) (cat_r (cat_i cat_nil)) (Nat.le_of_ble_eq_true rfl) (fun X hX C => ?_)
  subst hX
  have w_let := wm_let hW
  have w_sw := wm_sw hW
  have w_dr := wm_dr hW
  have w_gp := wm_gp hW
  have w_w := wm_w hW
  have w_l := wm_l hW
  have w_l1 := wm_l1 hW
  have w_t := wm_t hW
  have hK0 := nK_pos hW
  have hK1 := nK_le hW
  have ec0 : cfM (up2 M 43 0 0) = cfM M := cfM_e (rd_ne (by decide)) (rd_ne (by decide)) (rd_ne (by decide)) (rd_ne (by decide)) (rd_ne (by decide)) (rd_ne (by decide)) (rd_ne (by decide)) (up2_ne (by decide)) (up2_ne (by decide)) (up2_ne (by decide)) (up2_ne (by decide)) (up2_ne (by decide))
  refine pw_aload0 C dX11_without_0 ?_
  refine pw_iconst C dX11_without_1 ?_
  refine p_43_0 C fl_X11_1 dX11_without_2 ?_
  have cut_24 : ∀  (q : Int) (M2 : Mem), Sm [43, 51, 52, 53] M M2 → Fm [0, 13] M M2 → (M2 43 0 = 0) → (M2 43 13 = 0 ∨ (M2 43 13 = 1 ∧ KnOK (cfM M) M2)) → (((0 ≤ k ∧ k ≤ 7) ∧ ((q = -1 ∧ ∀ g, PB (cfM M) (nfK (cfM M) k) g (-1)) ∨ (0 ≤ q ∧ q < nK (cfM M) ∧ KnOK (cfM M) M2 ∧ ∀ g, PB (cfM M) (nfK (cfM M) k) g (g q)))) ∨ (¬ (0 ≤ k ∧ k ≤ 7) ∧ q = -1)) → PW X K LAY 3 (0, 0) (Zi X K LAY (fun r M' => (PWo (cfM M) k (rbK (cfM M) k) r) ∧ (M' 43 0 = 0) ∧ (M' 43 13 = 0 ∨ (M' 43 13 = 1 ∧ KnOK (cfM M) M')) ∧ Sm [43, 51, 52, 53] M M' ∧ Fm [0, 13] M M')) 24 [some (rV K 43), some (iV k), none] [iV q] M2 := by
    intro q M2 hF24 hJ24 y0 yK yc
    have ec2 : cfM M2 = cfM M := cfM_e (hJ24 1 (by decide)) (hJ24 3 (by decide)) (hJ24 4 (by decide)) (hJ24 5 (by decide)) (hJ24 6 (by decide)) (hJ24 7 (by decide)) (hJ24 10 (by decide)) (hF24 44 (by decide)) (hF24 45 (by decide)) (hF24 46 (by decide)) (hF24 47 (by decide)) (hF24 48 (by decide))
    have hqr : -1 ≤ q ∧ q < nK (cfM M) := by rcases yc with z | z; rcases z.2 with y | y; omega; omega; omega
    refine pw_istore2 C (by decide) dX11_without_24 ?_
    refine pw_iload2 C dX11_without_25 ?_
    refine pw_iconst C dX11_without_26 ?_
    refine pw_icmp_ne (tgt := 34) C dX11_without_27 (by decide) (by omega) (by omega) (fun h27 => ?_) (fun h27 => ?_)
    · have hy1 := yc.elim (fun h => h) (fun h => absurd h.2 h27)
      have hy2 := hy1.2.elim (fun h => absurd h.1 h27) id
      have hy0 := hy1.1
      refine pw_aload0 C dX11_without_34 ?_
      refine pw_iload2 C dX11_without_35 ?_
      refine pw_iload1 C dX11_without_36 ?_
      refine pw_cVi2 C (c_X11_radiusBut _ K _ _ _ (by rw [ec2]; exact hW) (by rw [ec2]; exact hy2.2.2.1) (by rw [ec2]; omega) (by omega)) cb_X11_radiusBut lay_43 kc_11 rfl ml_X11_154 dX11_without_37 (by decide) (Nat.le_of_ble_eq_true rfl) (fun r37 M37 hQ => ?_)
      obtain ⟨rfl, hMe⟩ := hQ
      replace hMe := hMe.symm
      subst hMe
      rw [ec2]
      exact pw_iretI C dX11_without_40 (⟨by
            first
              | exact Or.inl ⟨hy0, hy2.2.2.2 _⟩
              | (rcases yc with z | z
                 · rcases z.2 with y | y
                   · exact Or.inl ⟨z.1, y.2 _⟩
                   · exact absurd h27 (by omega)
                 · exact Or.inr ⟨z.1, rfl⟩), by exact y0, by exact yK, (Sm_trans Sm_refl hF24 (by decide)), (Fm_tr Fm_refl hJ24 (by decide))⟩)
    · refine pw_iconst C dX11_without_30 ?_
      refine pw_goto (tgt := 40) C dX11_without_31 (by decide) ?_
      exact pw_iretI C dX11_without_40 (⟨by
            first
              | exact Or.inl ⟨hy0, hy2.2.2.2 _⟩
              | (rcases yc with z | z
                 · rcases z.2 with y | y
                   · exact Or.inl ⟨z.1, y.2 _⟩
                   · exact absurd h27 (by omega)
                 · exact Or.inr ⟨z.1, rfl⟩), by exact y0, by exact yK, (Sm_trans Sm_refl hF24 (by decide)), (Fm_tr Fm_refl hJ24 (by decide))⟩)
  refine pw_iload1 C dX11_without_5 ?_
  refine pw_iconst C dX11_without_6 ?_
  refine pw_bipush C dX11_without_7 (by decide) ?_
  refine pw_cSi3 C (c_X11_within _ K _ _ _ _ (by omega) (by omega) (by omega)) cb_X11_within ml_X11_81 dX11_without_9 (by decide) (Nat.le_of_ble_eq_true rfl) (fun r9 M9 hQ => ?_)
  obtain ⟨rfl, hMe⟩ := hQ
  replace hMe := hMe.symm
  subst hMe
  refine pw_if_eq (tgt := 23) C dX11_without_12 (by decide) (by split <;> omega) (fun h12 => ?_) (fun h12 => ?_)
  · have e12 : ¬ (0 ≤ k ∧ k ≤ 7) := fun h => by rw [if_pos h] at h12; omega
    refine pw_iconst C dX11_without_23 ?_
    exact cut_24 _ _ (Sm_up Sm_refl (by decide)) (Fm_up Fm_refl (by decide)) (by exact rd_eq) (by rw [rd_ne (by decide)]; exact hKn.elim Or.inl (fun h => Or.inr ⟨h.1, KnOK_c (up2_ne (by decide)) h.2⟩)) (by exact Or.inr ⟨e12, rfl⟩)
  · have e12 : (0 ≤ k ∧ k ≤ 7) := Decidable.byContradiction fun h => by rw [if_neg h] at h12; omega
    refine pw_aload0 C dX11_without_15 ?_
    refine pw_iload1 C dX11_without_16 ?_
    refine pw_cVi1 C (c_X11_nearest _ K _ _ (by rw [ec0]; exact hW) (by rw [ec0, rd_ne (by decide)]; exact hKn.elim Or.inl (fun h => Or.inr ⟨h.1, KnOK_c (up2_ne (by decide)) h.2⟩)) (by omega)) cb_X11_nearest lay_43 kc_11 rfl ml_X11_157 dX11_without_17 (by decide) (Nat.le_of_ble_eq_true rfl) (fun r17 M17 hQ => ?_)
    obtain ⟨hK_17, hp_17, hF17, hJ17⟩ := hQ
    rw [ec0] at hp_17 hK_17
    have ec17 : cfM M17 = cfM M := cfM_e ((hJ17 1 (by decide)).trans (rd_ne (by decide))) ((hJ17 3 (by decide)).trans (rd_ne (by decide))) ((hJ17 4 (by decide)).trans (rd_ne (by decide))) ((hJ17 5 (by decide)).trans (rd_ne (by decide))) ((hJ17 6 (by decide)).trans (rd_ne (by decide))) ((hJ17 7 (by decide)).trans (rd_ne (by decide))) ((hJ17 10 (by decide)).trans (rd_ne (by decide))) ((hF17 44 (by decide)).trans (up2_ne (by decide))) ((hF17 45 (by decide)).trans (up2_ne (by decide))) ((hF17 46 (by decide)).trans (up2_ne (by decide))) ((hF17 47 (by decide)).trans (up2_ne (by decide))) ((hF17 48 (by decide)).trans (up2_ne (by decide)))
    have hca := ne_cases hp_17
    have hcr : -1 ≤ r17 ∧ r17 < nK (cfM M) := by rcases hca with q | q; omega; omega
    refine pw_goto (tgt := 24) C dX11_without_20 (by decide) ?_
    exact cut_24 _ _ (Sm_trans (Sm_up Sm_refl (by decide)) hF17 (by decide)) (Fm_tr (Fm_up Fm_refl (by decide)) hJ17 (by decide)) (by rw [hJ17 0 (by decide)]; exact rd_eq) (by exact hK_17) (by exact Or.inl ⟨e12, hca⟩)
def loK (c : Cfg) (k b : Int) : Int := bqI (fun w => decide (kP c w = 1) && decide (rbK c k b < Dw c (rwX c b) w)) (kW c)
set_option maxHeartbeats 4000000 in
set_option maxRecDepth 100000 in
theorem c_X11_leftOut (l : Launch) (K : KX) (M : Mem) (k : Int) (hW : WfK (cfM M)) (hKn : M 43 13 = 0 ∨ (M 43 13 = 1 ∧ KnOK (cfM M) M)) (hk0 : -2147483648 ≤ k ∧ k ≤ 2147483647) : MCi l K LAY yX11_leftOut cX11_leftOut 6 (some .int) 6 [rV K 43, iV k] M (fun r M' => (PWo (cfM M) k (loK (cfM M) k) r) ∧ (M' 43 0 = 0) ∧ (M' 43 13 = 0 ∨ (M' 43 13 = 1 ∧ KnOK (cfM M) M')) ∧ Sm [43, 51, 52, 53] M M' ∧ Fm [0, 13] M M') := by
  refine mci_intro RX11 rfl [some (rV K 43), some (iV k), none, none, none, none] rfl (by decide +kernel) (cat_r (cat_i cat_nil)) (Nat.le_of_ble_eq_true rfl) (fun X hX C => ?_)
  subst hX
  have w_let := wm_let hW
  have w_sw := wm_sw hW
  have w_dr := wm_dr hW
  have w_gp := wm_gp hW
  have w_w := wm_w hW
  have w_l := wm_l hW
  have w_l1 := wm_l1 hW
  have w_t := wm_t hW
  have hK0 := nK_pos hW
  have hK1 := nK_le hW
  have ec0 : cfM (up2 M 43 0 0) = cfM M := cfM_e (rd_ne (by decide)) (rd_ne (by decide)) (rd_ne (by decide)) (rd_ne (by decide)) (rd_ne (by decide)) (rd_ne (by decide)) (rd_ne (by decide)) (up2_ne (by decide)) (up2_ne (by decide)) (up2_ne (by decide)) (up2_ne (by decide)) (up2_ne (by decide))
  refine pw_aload0 C dX11_leftOut_0 ?_
  refine pw_iconst C dX11_leftOut_1 ?_
  refine p_43_0 C fl_X11_1 dX11_leftOut_2 ?_
  have cut_24 : ∀  (q : Int) (M2 : Mem), Sm [43, 51, 52, 53] M M2 → Fm [0, 13] M M2 → (M2 43 0 = 0) → (M2 43 13 = 0 ∨ (M2 43 13 = 1 ∧ KnOK (cfM M) M2)) → (((0 ≤ k ∧ k ≤ 7) ∧ ((q = -1 ∧ ∀ g, PB (cfM M) (nfK (cfM M) k) g (-1)) ∨ (0 ≤ q ∧ q < nK (cfM M) ∧ KnOK (cfM M) M2 ∧ ∀ g, PB (cfM M) (nfK (cfM M) k) g (g q)))) ∨ (¬ (0 ≤ k ∧ k ≤ 7) ∧ q = -1)) → PW X K LAY 6 (0, 0) (Zi X K LAY (fun r M' => (PWo (cfM M) k (loK (cfM M) k) r) ∧ (M' 43 0 = 0) ∧ (M' 43 13 = 0 ∨ (M' 43 13 = 1 ∧ KnOK (cfM M) M')) ∧ Sm [43, 51, 52, 53] M M' ∧ Fm [0, 13] M M')) 24 [some (rV K 43), some (iV k), none, none, none, none] [iV q] M2 := by
    intro q M2 hF24 hJ24 y0 yK yc
    have ec2 : cfM M2 = cfM M := cfM_e (hJ24 1 (by decide)) (hJ24 3 (by decide)) (hJ24 4 (by decide)) (hJ24 5 (by decide)) (hJ24 6 (by decide)) (hJ24 7 (by decide)) (hJ24 10 (by decide)) (hF24 44 (by decide)) (hF24 45 (by decide)) (hF24 46 (by decide)) (hF24 47 (by decide)) (hF24 48 (by decide))
    have hqr : -1 ≤ q ∧ q < nK (cfM M) := by rcases yc with z | z; rcases z.2 with y | y; omega; omega; omega
    refine pw_istore2 C (by decide) dX11_leftOut_24 ?_
    refine pw_iload2 C dX11_leftOut_25 ?_
    refine pw_iconst C dX11_leftOut_26 ?_
    refine pw_icmp_ne (tgt := 32) C dX11_leftOut_27 (by decide) (by omega) (by omega) (fun h27 => ?_) (fun h27 => ?_)
    · have hy1 := yc.elim (fun h => h) (fun h => absurd h.2 h27)
      have hy2 := hy1.2.elim (fun h => absurd h.1 h27) id
      have hy0 := hy1.1
      refine pw_aload0 C dX11_leftOut_32 ?_
      refine pw_iload2 C dX11_leftOut_33 ?_
      refine pw_iload1 C dX11_leftOut_34 ?_
      refine pw_cVi2 C (c_X11_radiusBut _ K _ _ _ (by rw [ec2]; exact hW) (by rw [ec2]; exact hy2.2.2.1) (by rw [ec2]; omega) (by omega)) cb_X11_radiusBut lay_43 kc_11 rfl ml_X11_154 dX11_leftOut_35 (by decide) (Nat.le_of_ble_eq_true rfl) (fun r35 M35 hQ => ?_)
      obtain ⟨rfl, hMe⟩ := hQ
      replace hMe := hMe.symm
      subst hMe
      rw [ec2]
      have hrb := rbK_rng hW k q
      refine pw_istore3 C (by decide) dX11_leftOut_38 ?_
      refine pw_iconst C dX11_leftOut_39 ?_
      refine pw_istore4 C (by decide) dX11_leftOut_40 ?_
      refine pw_iconst C dX11_leftOut_42 ?_
      refine pw_istore5 C (by decide) dX11_leftOut_43 ?_
      have cut_45 : ∀ (fu : Nat) (b w : Int), (0 ≤ w ∧ w ≤ M 43 6) → (b = bqI (fun w => decide (M 46 w = 1) && decide (rbK (cfM M) k q < Dw (cfM M) (rwX (cfM M) q) w)) w) → (M 43 6 - w).toNat < fu → PW X K LAY 6 (0, 0) (Zi X K LAY (fun r M' => (PWo (cfM M) k (loK (cfM M) k) r) ∧ (M' 43 0 = 0) ∧ (M' 43 13 = 0 ∨ (M' 43 13 = 1 ∧ KnOK (cfM M) M')) ∧ Sm [43, 51, 52, 53] M M' ∧ Fm [0, 13] M M')) 45 [some (rV K 43), some (iV k), some (iV q), some (iV (rbK (cfM M) k q)), some (iV b), some (iV w)] [] M2 := by
        intro fu
        induction fu with
        | zero => intro _ _ _ _ hm; exact absurd hm (Nat.not_lt_zero _)
        | succ fu ih =>
          intro b w hw hb hm
          have ih_45 := ih
          have hm_45 := hm
          refine pw_iload5 C dX11_leftOut_45 ?_
          refine pw_aload0 C dX11_leftOut_47 ?_
          refine g_43_6 C fl_X11_85 dX11_leftOut_48 ?_
          refine pw_top C _ (hJ24 6 (by decide)) ?_
          refine pw_icmp_ge (tgt := 96) C dX11_leftOut_51 (by decide) (by omega) (by omega) (fun h51 => ?_) (fun h51 => ?_)
          · refine pw_iload4 C dX11_leftOut_96 ?_
            exact pw_iretI C dX11_leftOut_98 (⟨by refine Or.inl ⟨hy0, ?_⟩; rw [hb, show w = kW (cfM M) by show w = M 43 6; omega]; exact hy2.2.2.2 _, by exact y0, by exact yK, (Sm_trans Sm_refl hF24 (by decide)), (Fm_tr Fm_refl hJ24 (by decide))⟩)
          · have hpw := wm_p hW w (by omega) (by omega)
            have hrb2 := bqI_rng (q := (fun w => decide (M 46 w = 1) && decide (rbK (cfM M) k q < Dw (cfM M) (rwX (cfM M) q) w))) (n := w) (by omega)
            have h2 := p2_lt (n := w) (by omega)
            have cut_90 : ∀  (b : Int), (b = bqI (fun w => decide (M 46 w = 1) && decide (rbK (cfM M) k q < Dw (cfM M) (rwX (cfM M) q) w)) (w + 1)) → PW X K LAY 6 (0, 0) (Zi X K LAY (fun r M' => (PWo (cfM M) k (loK (cfM M) k) r) ∧ (M' 43 0 = 0) ∧ (M' 43 13 = 0 ∨ (M' 43 13 = 1 ∧ KnOK (cfM M) M')) ∧ Sm [43, 51, 52, 53] M M' ∧ Fm [0, 13] M M')) 90 [some (rV K 43), some (iV k), some (iV q), some (iV (rbK (cfM M) k q)), some (iV b), some (iV w)] [] M2 := by
              intro b hb2
              refine pw_iinc5 C (by decide) dX11_leftOut_90 ?_
              refine pw_goto (tgt := 45) C dX11_leftOut_93 (by decide) ?_
              exact ih_45 _ _ (by omega) (by exact hb2) (by omega)
            refine pw_aload0 C dX11_leftOut_54 ?_
            refine g_43_9 C fl_X11_27 dX11_leftOut_55 ?_
            refine pw_iload5 C dX11_leftOut_58 ?_
            refine pw_iaload C lay_46 (by omega) (by decide) dX11_leftOut_60 ?_
            refine pw_top C _ (congrFun (hF24 46 (by decide)) _) ?_
            refine pw_iconst C dX11_leftOut_61 ?_
            refine pw_icmp_ne (tgt := 90) C dX11_leftOut_62 (by decide) (by omega) (by omega) (fun h62 => ?_) (fun h62 => ?_)
            · exact cut_90 _ (by rw [hb]; exact (bqI_no (by omega) (by simp [h62])).symm)
            · refine pw_aload0 C dX11_leftOut_65 ?_
              refine g_43_21 C fl_X11_46 dX11_leftOut_66 ?_
              refine pw_bipush C dX11_leftOut_69 (by decide) ?_
              refine pw_iload2 C dX11_leftOut_71 ?_
              refine pw_imul C dX11_leftOut_72 ?_
              refine pw_iload5 C dX11_leftOut_73 ?_
              refine pw_iadd C dX11_leftOut_75 ?_
              refine pw_baload C lay_52 (by omega) (by decide) dX11_leftOut_76 ?_
              have hkn := hy2.2.2.1 q hy2.1 hy2.2.1 w (by omega) (by show w < M 43 6; omega)
              refine pw_top C (Dw (cfM M) (rwX (cfM M) q) w) hkn ?_
              have hDr := Dw_rng hW (x := rwX (cfM M) q) (w := w) ⟨by omega, by show w < M 43 6; omega⟩ (fun i _ _ => rwX_rng hW q i)
              refine pw_iload3 C dX11_leftOut_77 ?_
              refine pw_icmp_le (tgt := 90) C dX11_leftOut_78 (by decide) (by omega) (by omega) (fun h78 => ?_) (fun h78 => ?_)
              · exact cut_90 _ (by rw [hb]; exact (bqI_no (by omega) (by simp; intro _; omega)).symm)
              · refine pw_iload4 C dX11_leftOut_81 ?_
                refine pw_iconst C dX11_leftOut_83 ?_
                refine pw_iload5 C dX11_leftOut_84 ?_
                refine pw_ishl C (1 * 2 ^ w.toNat) (b_shl (by omega) (by omega) (by omega)) dX11_leftOut_86 ?_
                refine pw_ior C (((b.toNat ||| (1 * 2 ^ w.toNat : Int).toNat : Nat) : Int)) (b_or (by omega) (by omega)) dX11_leftOut_87 ?_
                refine pw_istore4 C (by decide) dX11_leftOut_88 ?_
                exact cut_90 _ (by rw [hb]; exact (bqI_yes (by omega) (by simp [h62]; omega)).symm)
      exact cut_45 _ _ _ (by omega) (by exact bqI_0.symm) (Nat.lt_succ_self _)
    · refine pw_iconst C dX11_leftOut_30 ?_
      exact pw_iretI C dX11_leftOut_31 (⟨by
            rcases yc with z | z
            · rcases z.2 with y | y
              · exact Or.inl ⟨z.1, y.2 _⟩
              · exact absurd h27 (by omega)
            · exact Or.inr ⟨z.1, rfl⟩, by exact y0, by exact yK, (Sm_trans Sm_refl hF24 (by decide)), (Fm_tr Fm_refl hJ24 (by decide))⟩)
  refine pw_iload1 C dX11_leftOut_5 ?_
  refine pw_iconst C dX11_leftOut_6 ?_
  refine pw_bipush C dX11_leftOut_7 (by decide) ?_
  refine pw_cSi3 C (c_X11_within _ K _ _ _ _ (by omega) (by omega) (by omega)) cb_X11_within ml_X11_81 dX11_leftOut_9 (by decide) (Nat.le_of_ble_eq_true rfl) (fun r9 M9 hQ => ?_)
  obtain ⟨rfl, hMe⟩ := hQ
  replace hMe := hMe.symm
  subst hMe
  refine pw_if_eq (tgt := 23) C dX11_leftOut_12 (by decide) (by split <;> omega) (fun h12 => ?_) (fun h12 => ?_)
  · have e12 : ¬ (0 ≤ k ∧ k ≤ 7) := fun h => by rw [if_pos h] at h12; omega
    refine pw_iconst C dX11_leftOut_23 ?_
    exact cut_24 _ _ (Sm_up Sm_refl (by decide)) (Fm_up Fm_refl (by decide)) (by exact rd_eq) (by rw [rd_ne (by decide)]; exact hKn.elim Or.inl (fun h => Or.inr ⟨h.1, KnOK_c (up2_ne (by decide)) h.2⟩)) (by exact Or.inr ⟨e12, rfl⟩)
  · have e12 : (0 ≤ k ∧ k ≤ 7) := Decidable.byContradiction fun h => by rw [if_neg h] at h12; omega
    refine pw_aload0 C dX11_leftOut_15 ?_
    refine pw_iload1 C dX11_leftOut_16 ?_
    refine pw_cVi1 C (c_X11_nearest _ K _ _ (by rw [ec0]; exact hW) (by rw [ec0, rd_ne (by decide)]; exact hKn.elim Or.inl (fun h => Or.inr ⟨h.1, KnOK_c (up2_ne (by decide)) h.2⟩)) (by omega)) cb_X11_nearest lay_43 kc_11 rfl ml_X11_157 dX11_leftOut_17 (by decide) (Nat.le_of_ble_eq_true rfl) (fun r17 M17 hQ => ?_)
    obtain ⟨hK_17, hp_17, hF17, hJ17⟩ := hQ
    rw [ec0] at hp_17 hK_17
    have ec17 : cfM M17 = cfM M := cfM_e ((hJ17 1 (by decide)).trans (rd_ne (by decide))) ((hJ17 3 (by decide)).trans (rd_ne (by decide))) ((hJ17 4 (by decide)).trans (rd_ne (by decide))) ((hJ17 5 (by decide)).trans (rd_ne (by decide))) ((hJ17 6 (by decide)).trans (rd_ne (by decide))) ((hJ17 7 (by decide)).trans (rd_ne (by decide))) ((hJ17 10 (by decide)).trans (rd_ne (by decide))) ((hF17 44 (by decide)).trans (up2_ne (by decide))) ((hF17 45 (by decide)).trans (up2_ne (by decide))) ((hF17 46 (by decide)).trans (up2_ne (by decide))) ((hF17 47 (by decide)).trans (up2_ne (by decide))) ((hF17 48 (by decide)).trans (up2_ne (by decide)))
    have hca := ne_cases hp_17
    have hcr : -1 ≤ r17 ∧ r17 < nK (cfM M) := by rcases hca with q | q; omega; omega
    refine pw_goto (tgt := 24) C dX11_leftOut_20 (by decide) ?_
    exact cut_24 _ _ (Sm_trans (Sm_up Sm_refl (by decide)) hF17 (by decide)) (Fm_tr (Fm_up Fm_refl (by decide)) hJ17 (by decide)) (by rw [hJ17 0 (by decide)]; exact rd_eq) (by exact hK_17) (by exact Or.inl ⟨e12, hca⟩)
