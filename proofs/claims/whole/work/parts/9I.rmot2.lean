set_option maxHeartbeats 4000000 in
set_option maxRecDepth 100000 in
theorem c_X11_motif (l : Launch) (K : KX) (M : Mem) (m : Int) (hW : WfK (cfM M)) (hm9 : -2147483648 ≤ m ∧ m ≤ 2147483647) (hKo : M 43 15 = 0 ∨ ((1 ≤ M 43 15 ∧ M 43 15 ≤ 6) ∧ FM (fun _ => true) (moK (cfM M) (M 43 15)) (M 43 1 ^ ((M 43 15)).toNat) (M 43 32) ∧ M 43 33 = moK (cfM M) (M 43 15) (M 43 32))) : MCi l K LAY yX11_motif cX11_motif 2 (some .int) 5 [rV K 43, iV m] M (fun r M' => (PMo (cfM M) m r) ∧ (M' 43 0 = 0) ∧ (M' 43 15 = 0 ∨ ((1 ≤ M' 43 15 ∧ M' 43 15 ≤ 6) ∧ FM (fun _ => true) (moK (cfM M) (M' 43 15)) (M 43 1 ^ ((M' 43 15)).toNat) (M' 43 32) ∧ M' 43 33 = moK (cfM M) (M' 43 15) (M' 43 32))) ∧ Sm [43, 51, 53] M M' ∧ Fm [0, 15, 32, 33] M M') := by
  refine mci_intro RX11 rfl [some (rV K 43), some (iV m)] rfl (by decide +kernel) (cat_r (cat_i cat_nil)) (Nat.le_of_ble_eq_true rfl) (fun X hX C => ?_)
  subst hX
  have w_let := wm_let hW
  have w_sw := wm_sw hW
  have w_t := wm_t hW
  have ec0 : cfM (up2 M 43 0 0) = cfM M := cfM_e (rd_ne (by decide)) (rd_ne (by decide)) (rd_ne (by decide)) (rd_ne (by decide)) (rd_ne (by decide)) (rd_ne (by decide)) (rd_ne (by decide)) (up2_ne (by decide)) (up2_ne (by decide)) (up2_ne (by decide)) (up2_ne (by decide)) (up2_ne (by decide))
  refine pw_aload0 C dX11_motif_0 ?_
  refine pw_iconst C dX11_motif_1 ?_
  refine p_43_0 C fl_X11_1 dX11_motif_2 ?_
  refine pw_aload0 C dX11_motif_5 ?_
  refine pw_iload1 C dX11_motif_6 ?_
  refine pw_cVi1 C (c_X11_hasMotif _ K _ _ (by rw [ec0]; exact hW) (hm9) (by rw [ec0, rd_ne (by decide), rd_ne (by decide), rd_ne (by decide), rd_ne (by decide)]; exact hKo)) cb_X11_hasMotif lay_43 kc_11 rfl ml_X11_220 dX11_motif_7 (by decide) (Nat.le_of_ble_eq_true rfl) (fun r7 M7 hQ => ?_)
  obtain ⟨hK_7, hp_7, hF7, hJ7⟩ := hQ
  rw [ec0] at hp_7 hK_7
  rw [rd_ne (by decide)] at hp_7 hK_7
  have ec7 : cfM M7 = cfM M := cfM_e ((hJ7 1 (by decide)).trans (rd_ne (by decide))) ((hJ7 3 (by decide)).trans (rd_ne (by decide))) ((hJ7 4 (by decide)).trans (rd_ne (by decide))) ((hJ7 5 (by decide)).trans (rd_ne (by decide))) ((hJ7 6 (by decide)).trans (rd_ne (by decide))) ((hJ7 7 (by decide)).trans (rd_ne (by decide))) ((hJ7 10 (by decide)).trans (rd_ne (by decide))) ((hF7 44 (by decide)).trans (up2_ne (by decide))) ((hF7 45 (by decide)).trans (up2_ne (by decide))) ((hF7 46 (by decide)).trans (up2_ne (by decide))) ((hF7 47 (by decide)).trans (up2_ne (by decide))) ((hF7 48 (by decide)).trans (up2_ne (by decide)))
  have h01 : r7 = 0 ∨ r7 = 1 := by rcases hp_7 with q | q; omega; omega
  refine pw_if_eq (tgt := 20) C dX11_motif_10 (by decide) (by omega) (fun h10 => ?_) (fun h10 => ?_)
  · have hno : ¬ okM (cfM M) m := hp_7.elim (fun h => absurd h.2.1 (by omega)) (fun h => h.1)
    refine pw_iconst C dX11_motif_20 ?_
    exact pw_iretI C dX11_motif_21 (⟨by first | exact Or.inr ⟨hno, rfl⟩ | exact Or.inl ⟨hok, _, hfm, hfar⟩, by first | (rw [hJ7 0 (by decide)]; exact rd_eq) | (rw [hF30 43 (by decide), hJ7 0 (by decide)]; exact rd_eq), by first | exact hK_7 | (rw [hF30 43 (by decide)]; exact hK_7), (Sm_trans (Sm_up Sm_refl (by decide)) hF7 (by decide)), (Fm_tr (Fm_up Fm_refl (by decide)) hJ7 (by decide))⟩)
  · obtain ⟨hok, -, hfm, hfar⟩ := hp_7.elim id (fun h => absurd h.2 h10)
    have hm6 : 1 ≤ m ∧ m ≤ 6 := ⟨hok.1, hok.2.1⟩
    have hpn := pw_n (n := m) w_let (by omega)
    have hkr : 0 ≤ M7 43 32 ∧ M7 43 32 < M 43 1 ^ m.toNat := ⟨hfm.1, hfm.2.1⟩
    have hfr := moK_rng hW (k := M7 43 32) hok
    refine pw_aload0 C dX11_motif_13 ?_
    refine g_43_33 C fl_X11_217 dX11_motif_14 ?_
    refine pw_goto (tgt := 21) C dX11_motif_17 (by decide) ?_
    exact pw_iretI C dX11_motif_21 (⟨by first | exact Or.inr ⟨hno, rfl⟩ | exact Or.inl ⟨hok, _, hfm, hfar⟩, by first | (rw [hJ7 0 (by decide)]; exact rd_eq) | (rw [hF30 43 (by decide), hJ7 0 (by decide)]; exact rd_eq), by first | exact hK_7 | (rw [hF30 43 (by decide)]; exact hK_7), (Sm_trans (Sm_up Sm_refl (by decide)) hF7 (by decide)), (Fm_tr (Fm_up Fm_refl (by decide)) hJ7 (by decide))⟩)
set_option maxHeartbeats 4000000 in
set_option maxRecDepth 100000 in
theorem c_X11_motifAt (l : Launch) (K : KX) (M : Mem) (m i : Int) (hW : WfK (cfM M)) (hm9 : -2147483648 ≤ m ∧ m ≤ 2147483647) (hi9 : -2147483648 ≤ i ∧ i ≤ 2147483647) (hKo : M 43 15 = 0 ∨ ((1 ≤ M 43 15 ∧ M 43 15 ≤ 6) ∧ FM (fun _ => true) (moK (cfM M) (M 43 15)) (M 43 1 ^ ((M 43 15)).toNat) (M 43 32) ∧ M 43 33 = moK (cfM M) (M 43 15) (M 43 32))) : MCi l K LAY yX11_motifAt cX11_motifAt 3 (some .int) 5 [rV K 43, iV m, iV i] M (fun r M' => (PMoA (cfM M) m i r) ∧ (M' 43 0 = 0) ∧ (M' 43 15 = 0 ∨ ((1 ≤ M' 43 15 ∧ M' 43 15 ≤ 6) ∧ FM (fun _ => true) (moK (cfM M) (M' 43 15)) (M 43 1 ^ ((M' 43 15)).toNat) (M' 43 32) ∧ M' 43 33 = moK (cfM M) (M' 43 15) (M' 43 32))) ∧ Sm [43, 51, 53] M M' ∧ Fm [0, 15, 32, 33] M M') := by
  refine mci_intro RX11 rfl [some (rV K 43), some (iV m), some (iV i)] rfl (by decide +kernel) (cat_r (cat_i (cat_i cat_nil))) (Nat.le_of_ble_eq_true rfl) (fun X hX C => ?_)
  subst hX
  have w_let := wm_let hW
  have w_sw := wm_sw hW
  have w_t := wm_t hW
  have ec0 : cfM (up2 M 43 0 0) = cfM M := cfM_e (rd_ne (by decide)) (rd_ne (by decide)) (rd_ne (by decide)) (rd_ne (by decide)) (rd_ne (by decide)) (rd_ne (by decide)) (rd_ne (by decide)) (up2_ne (by decide)) (up2_ne (by decide)) (up2_ne (by decide)) (up2_ne (by decide)) (up2_ne (by decide))
  refine pw_aload0 C dX11_motifAt_0 ?_
  refine pw_iconst C dX11_motifAt_1 ?_
  refine p_43_0 C fl_X11_1 dX11_motifAt_2 ?_
  refine pw_aload0 C dX11_motifAt_5 ?_
  refine pw_iload1 C dX11_motifAt_6 ?_
  refine pw_cVi1 C (c_X11_hasMotif _ K _ _ (by rw [ec0]; exact hW) (hm9) (by rw [ec0, rd_ne (by decide), rd_ne (by decide), rd_ne (by decide), rd_ne (by decide)]; exact hKo)) cb_X11_hasMotif lay_43 kc_11 rfl ml_X11_220 dX11_motifAt_7 (by decide) (Nat.le_of_ble_eq_true rfl) (fun r7 M7 hQ => ?_)
  obtain ⟨hK_7, hp_7, hF7, hJ7⟩ := hQ
  rw [ec0] at hp_7 hK_7
  rw [rd_ne (by decide)] at hp_7 hK_7
  have ec7 : cfM M7 = cfM M := cfM_e ((hJ7 1 (by decide)).trans (rd_ne (by decide))) ((hJ7 3 (by decide)).trans (rd_ne (by decide))) ((hJ7 4 (by decide)).trans (rd_ne (by decide))) ((hJ7 5 (by decide)).trans (rd_ne (by decide))) ((hJ7 6 (by decide)).trans (rd_ne (by decide))) ((hJ7 7 (by decide)).trans (rd_ne (by decide))) ((hJ7 10 (by decide)).trans (rd_ne (by decide))) ((hF7 44 (by decide)).trans (up2_ne (by decide))) ((hF7 45 (by decide)).trans (up2_ne (by decide))) ((hF7 46 (by decide)).trans (up2_ne (by decide))) ((hF7 47 (by decide)).trans (up2_ne (by decide))) ((hF7 48 (by decide)).trans (up2_ne (by decide)))
  have h01 : r7 = 0 ∨ r7 = 1 := by rcases hp_7 with q | q; omega; omega
  refine pw_if_eq (tgt := 22) C dX11_motifAt_10 (by decide) (by omega) (fun h10 => ?_) (fun h10 => ?_)
  · have hno : ¬ okM (cfM M) m := hp_7.elim (fun h => absurd h.2.1 (by omega)) (fun h => h.1)
    refine pw_iconst C dX11_motifAt_22 ?_
    exact pw_iretI C dX11_motifAt_23 (⟨by
          first
            | exact Or.inr ⟨fun h => hno h.1, rfl⟩
            | exact Or.inr ⟨fun h => by have := h.2; omega, rfl⟩
            | exact Or.inl ⟨⟨hok, by omega, by omega⟩, _, hfm, h1_30 i (by omega) (by omega)⟩, by first | (rw [hJ7 0 (by decide)]; exact rd_eq) | (rw [hF30 43 (by decide), hJ7 0 (by decide)]; exact rd_eq), by first | exact hK_7 | (rw [hF30 43 (by decide)]; exact hK_7), (Sm_trans (Sm_up Sm_refl (by decide)) hF7 (by decide)), (Fm_tr (Fm_up Fm_refl (by decide)) hJ7 (by decide))⟩)
  · obtain ⟨hok, -, hfm, hfar⟩ := hp_7.elim id (fun h => absurd h.2 h10)
    have hm6 : 1 ≤ m ∧ m ≤ 6 := ⟨hok.1, hok.2.1⟩
    have hpn := pw_n (n := m) w_let (by omega)
    have hkr : 0 ≤ M7 43 32 ∧ M7 43 32 < M 43 1 ^ m.toNat := ⟨hfm.1, hfm.2.1⟩
    have hfr := moK_rng hW (k := M7 43 32) hok
    refine pw_iload2 C dX11_motifAt_13 ?_
    refine pw_if_lt (tgt := 22) C dX11_motifAt_14 (by decide) (by omega) (fun h14 => ?_) (fun h14 => ?_)
    · refine pw_iconst C dX11_motifAt_22 ?_
      exact pw_iretI C dX11_motifAt_23 (⟨by
            first
              | exact Or.inr ⟨fun h => hno h.1, rfl⟩
              | exact Or.inr ⟨fun h => by have := h.2; omega, rfl⟩
              | exact Or.inl ⟨⟨hok, by omega, by omega⟩, _, hfm, h1_30 i (by omega) (by omega)⟩, by first | (rw [hJ7 0 (by decide)]; exact rd_eq) | (rw [hF30 43 (by decide), hJ7 0 (by decide)]; exact rd_eq), by first | exact hK_7 | (rw [hF30 43 (by decide)]; exact hK_7), (Sm_trans (Sm_up Sm_refl (by decide)) hF7 (by decide)), (Fm_tr (Fm_up Fm_refl (by decide)) hJ7 (by decide))⟩)
    · refine pw_iload2 C dX11_motifAt_17 ?_
      refine pw_iload1 C dX11_motifAt_18 ?_
      refine pw_icmp_lt (tgt := 24) C dX11_motifAt_19 (by decide) (by omega) (by omega) (fun h19 => ?_) (fun h19 => ?_)
      · refine pw_aload0 C dX11_motifAt_24 ?_
        refine pw_aload0 C dX11_motifAt_25 ?_
        refine g_43_32 C fl_X11_211 dX11_motifAt_26 ?_
        refine pw_iload1 C dX11_motifAt_29 ?_
        refine pw_cVv2 C (c_X11_lays _ K _ _ _ (by rw [hJ7 1 (by decide), rd_ne (by decide)]; exact w_let) (by omega) (by omega)) cb_X11_lays lay_43 kc_11 rfl ml_X11_134 dX11_motifAt_30 (by decide) (Nat.le_of_ble_eq_true rfl) (fun M30 hQ => ?_)
        obtain ⟨h1_30, hF30⟩ := hQ
        rw [hJ7 1 (by decide), rd_ne (by decide)] at h1_30
        refine pw_aload0 C dX11_motifAt_33 ?_
        refine g_43_22 C fl_X11_49 dX11_motifAt_34 ?_
        refine pw_iload2 C dX11_motifAt_37 ?_
        refine pw_baload C lay_53 (by omega) (by decide) dX11_motifAt_38 ?_
        exact pw_iretI C dX11_motifAt_39 (⟨by
              first
                | exact Or.inr ⟨fun h => hno h.1, rfl⟩
                | exact Or.inr ⟨fun h => by have := h.2; omega, rfl⟩
                | exact Or.inl ⟨⟨hok, by omega, by omega⟩, _, hfm, h1_30 i (by omega) (by omega)⟩, by first | (rw [hJ7 0 (by decide)]; exact rd_eq) | (rw [hF30 43 (by decide), hJ7 0 (by decide)]; exact rd_eq), by first | exact hK_7 | (rw [hF30 43 (by decide)]; exact hK_7), (Sm_trans (Sm_trans (Sm_up Sm_refl (by decide)) hF7 (by decide)) hF30 (by decide)), (Fm_fr (Fm_tr (Fm_up Fm_refl (by decide)) hJ7 (by decide)) hF30 (by decide))⟩)
      · refine pw_iconst C dX11_motifAt_22 ?_
        exact pw_iretI C dX11_motifAt_23 (⟨by
              first
                | exact Or.inr ⟨fun h => hno h.1, rfl⟩
                | exact Or.inr ⟨fun h => by have := h.2; omega, rfl⟩
                | exact Or.inl ⟨⟨hok, by omega, by omega⟩, _, hfm, h1_30 i (by omega) (by omega)⟩, by first | (rw [hJ7 0 (by decide)]; exact rd_eq) | (rw [hF30 43 (by decide), hJ7 0 (by decide)]; exact rd_eq), by first | exact hK_7 | (rw [hF30 43 (by decide)]; exact hK_7), (Sm_trans (Sm_up Sm_refl (by decide)) hF7 (by decide)), (Fm_tr (Fm_up Fm_refl (by decide)) hJ7 (by decide))⟩)
set_option maxHeartbeats 4000000 in
set_option maxRecDepth 100000 in
theorem c_X11_motifIn (l : Launch) (K : KX) (M : Mem) (m t : Int) (hW : WfK (cfM M)) (hm9 : -2147483648 ≤ m ∧ m ≤ 2147483647) (ht9 : -2147483648 ≤ t ∧ t ≤ 2147483647) (hKo : M 43 15 = 0 ∨ ((1 ≤ M 43 15 ∧ M 43 15 ≤ 6) ∧ FM (fun _ => true) (moK (cfM M) (M 43 15)) (M 43 1 ^ ((M 43 15)).toNat) (M 43 32) ∧ M 43 33 = moK (cfM M) (M 43 15) (M 43 32))) : MCi l K LAY yX11_motifIn cX11_motifIn 3 (some .int) 5 [rV K 43, iV m, iV t] M (fun r M' => (((okM (cfM M) m ∧ 0 ≤ t ∧ t < M 43 10) ∧ M' 43 0 = 0 ∧ PMoI (cfM M) m t r) ∨ (¬ (okM (cfM M) m ∧ 0 ≤ t ∧ t < M 43 10) ∧ M' 43 0 = 1 ∧ r = 0)) ∧ (M' 43 15 = 0 ∨ ((1 ≤ M' 43 15 ∧ M' 43 15 ≤ 6) ∧ FM (fun _ => true) (moK (cfM M) (M' 43 15)) (M 43 1 ^ ((M' 43 15)).toNat) (M' 43 32) ∧ M' 43 33 = moK (cfM M) (M' 43 15) (M' 43 32))) ∧ Sm [43, 51, 53] M M' ∧ Fm [0, 15, 32, 33] M M') := by
  refine mci_intro RX11 rfl [some (rV K 43), some (iV m), some (iV t)] rfl (by decide +kernel) (cat_r (cat_i (cat_i cat_nil))) (Nat.le_of_ble_eq_true rfl) (fun X hX C => ?_)
  subst hX
  have w_let := wm_let hW
  have w_sw := wm_sw hW
  have w_t := wm_t hW
  have ec0 : cfM (up2 M 43 0 0) = cfM M := cfM_e (rd_ne (by decide)) (rd_ne (by decide)) (rd_ne (by decide)) (rd_ne (by decide)) (rd_ne (by decide)) (rd_ne (by decide)) (rd_ne (by decide)) (up2_ne (by decide)) (up2_ne (by decide)) (up2_ne (by decide)) (up2_ne (by decide)) (up2_ne (by decide))
  refine pw_aload0 C dX11_motifIn_0 ?_
  refine pw_iconst C dX11_motifIn_1 ?_
  refine p_43_0 C fl_X11_1 dX11_motifIn_2 ?_
  refine pw_aload0 C dX11_motifIn_5 ?_
  refine pw_iload1 C dX11_motifIn_6 ?_
  refine pw_cVi1 C (c_X11_hasMotif _ K _ _ (by rw [ec0]; exact hW) (hm9) (by rw [ec0, rd_ne (by decide), rd_ne (by decide), rd_ne (by decide), rd_ne (by decide)]; exact hKo)) cb_X11_hasMotif lay_43 kc_11 rfl ml_X11_220 dX11_motifIn_7 (by decide) (Nat.le_of_ble_eq_true rfl) (fun r7 M7 hQ => ?_)
  obtain ⟨hK_7, hp_7, hF7, hJ7⟩ := hQ
  rw [ec0] at hp_7 hK_7
  rw [rd_ne (by decide)] at hp_7 hK_7
  have ec7 : cfM M7 = cfM M := cfM_e ((hJ7 1 (by decide)).trans (rd_ne (by decide))) ((hJ7 3 (by decide)).trans (rd_ne (by decide))) ((hJ7 4 (by decide)).trans (rd_ne (by decide))) ((hJ7 5 (by decide)).trans (rd_ne (by decide))) ((hJ7 6 (by decide)).trans (rd_ne (by decide))) ((hJ7 7 (by decide)).trans (rd_ne (by decide))) ((hJ7 10 (by decide)).trans (rd_ne (by decide))) ((hF7 44 (by decide)).trans (up2_ne (by decide))) ((hF7 45 (by decide)).trans (up2_ne (by decide))) ((hF7 46 (by decide)).trans (up2_ne (by decide))) ((hF7 47 (by decide)).trans (up2_ne (by decide))) ((hF7 48 (by decide)).trans (up2_ne (by decide)))
  have h01 : r7 = 0 ∨ r7 = 1 := by rcases hp_7 with q | q; omega; omega
  refine pw_if_eq (tgt := 25) C dX11_motifIn_10 (by decide) (by omega) (fun h10 => ?_) (fun h10 => ?_)
  · have hno : ¬ okM (cfM M) m := hp_7.elim (fun h => absurd h.2.1 (by omega)) (fun h => h.1)
    refine pw_aload0 C dX11_motifIn_25 ?_
    refine pw_iconst C dX11_motifIn_26 ?_
    refine p_43_0 C fl_X11_1 dX11_motifIn_27 ?_
    refine pw_iconst C dX11_motifIn_30 ?_
    exact pw_iretI C dX11_motifIn_31 (⟨by
          first
            | exact Or.inr ⟨fun h => hno h.1, rd_eq, rfl⟩
            | exact Or.inr ⟨fun h => by have := h.2; omega, rd_eq, rfl⟩, by rw [rd_ne (by decide), rd_ne (by decide), rd_ne (by decide)]; exact hK_7, (Sm_up (Sm_trans (Sm_up Sm_refl (by decide)) hF7 (by decide)) (by decide)), (Fm_up (Fm_tr (Fm_up Fm_refl (by decide)) hJ7 (by decide)) (by decide))⟩)
  · obtain ⟨hok, -, hfm, hfar⟩ := hp_7.elim id (fun h => absurd h.2 h10)
    have hm6 : 1 ≤ m ∧ m ≤ 6 := ⟨hok.1, hok.2.1⟩
    have hpn := pw_n (n := m) w_let (by omega)
    have hkr : 0 ≤ M7 43 32 ∧ M7 43 32 < M 43 1 ^ m.toNat := ⟨hfm.1, hfm.2.1⟩
    have hfr := moK_rng hW (k := M7 43 32) hok
    refine pw_iload2 C dX11_motifIn_13 ?_
    refine pw_if_lt (tgt := 25) C dX11_motifIn_14 (by decide) (by omega) (fun h14 => ?_) (fun h14 => ?_)
    · refine pw_aload0 C dX11_motifIn_25 ?_
      refine pw_iconst C dX11_motifIn_26 ?_
      refine p_43_0 C fl_X11_1 dX11_motifIn_27 ?_
      refine pw_iconst C dX11_motifIn_30 ?_
      exact pw_iretI C dX11_motifIn_31 (⟨by
            first
              | exact Or.inr ⟨fun h => hno h.1, rd_eq, rfl⟩
              | exact Or.inr ⟨fun h => by have := h.2; omega, rd_eq, rfl⟩, by rw [rd_ne (by decide), rd_ne (by decide), rd_ne (by decide)]; exact hK_7, (Sm_up (Sm_trans (Sm_up Sm_refl (by decide)) hF7 (by decide)) (by decide)), (Fm_up (Fm_tr (Fm_up Fm_refl (by decide)) hJ7 (by decide)) (by decide))⟩)
    · refine pw_iload2 C dX11_motifIn_17 ?_
      refine pw_aload0 C dX11_motifIn_18 ?_
      refine g_43_10 C fl_X11_88 dX11_motifIn_19 ?_
      refine pw_top C _ (hJ7 10 (by decide)) ?_
      refine pw_top C _ (rd_ne (by decide)) ?_
      refine pw_icmp_lt (tgt := 32) C dX11_motifIn_22 (by decide) (by omega) (by omega) (fun h22 => ?_) (fun h22 => ?_)
      · refine pw_aload0 C dX11_motifIn_32 ?_
        refine pw_aload0 C dX11_motifIn_33 ?_
        refine g_43_32 C fl_X11_211 dX11_motifIn_34 ?_
        refine pw_iload1 C dX11_motifIn_37 ?_
        refine pw_cVv2 C (c_X11_lays _ K _ _ _ (by rw [hJ7 1 (by decide), rd_ne (by decide)]; exact w_let) (by omega) (by omega)) cb_X11_lays lay_43 kc_11 rfl ml_X11_134 dX11_motifIn_38 (by decide) (Nat.le_of_ble_eq_true rfl) (fun M38 hQ => ?_)
        obtain ⟨h1_38, hF38⟩ := hQ
        rw [hJ7 1 (by decide), rd_ne (by decide)] at h1_38
        have ec38 : cfM M38 = cfM M := by rw [← ec7]; exact cfM_e (congrFun (hF38 43 (by decide)) 1) (congrFun (hF38 43 (by decide)) 3) (congrFun (hF38 43 (by decide)) 4) (congrFun (hF38 43 (by decide)) 5) (congrFun (hF38 43 (by decide)) 6) (congrFun (hF38 43 (by decide)) 7) (congrFun (hF38 43 (by decide)) 10) (hF38 44 (by decide)) (hF38 45 (by decide)) (hF38 46 (by decide)) (hF38 47 (by decide)) (hF38 48 (by decide))
        refine pw_aload0 C dX11_motifIn_41 ?_
        refine pw_iload2 C dX11_motifIn_42 ?_
        refine pw_iload1 C dX11_motifIn_43 ?_
        have nz44_43 : M38 43 = M7 43 := (hF38 43 (by decide))
        refine pw_cVi2 C (c_X11_nearestPiece _ K _ _ _ (by rw [ec38]; exact hW) (by rw [ec38]; exact hok) (by rw [hF38 43 (by decide), hJ7 10 (by decide), rd_ne (by decide)]; omega) (by intro i q1 q2; rw [h1_38 i q1 q2]; exact dgc_rng hW)) cb_X11_nearestPiece lay_43 kc_11 rfl ml_X11_223 dX11_motifIn_44 (by decide) (Nat.le_of_ble_eq_true rfl) (fun r44 M44 hQ => ?_)
        obtain ⟨h1_44, hF44⟩ := hQ
        rw [ec38] at h1_44
        have hpc : pcD (cfM M) (M38 53) t m = pcD (cfM M) (dg (M 43 1) m (M7 43 32)) t m := funext fun i => pcD_congr (by omega) h1_38
        rw [hpc] at h1_44
        exact pw_iretI C dX11_motifIn_47 (⟨by
              refine Or.inl ⟨⟨hok, by omega, by omega⟩, ?_, _, hfm, h1_44⟩
              rw [hF44 43 (by decide), hF38 43 (by decide), hJ7 0 (by decide)]; exact rd_eq, by rw [hF44 43 (by decide), hF38 43 (by decide)]; exact hK_7, (Sm_trans (Sm_trans (Sm_trans (Sm_up Sm_refl (by decide)) hF7 (by decide)) hF38 (by decide)) hF44 (by decide)), (Fm_fr (Fm_fr (Fm_tr (Fm_up Fm_refl (by decide)) hJ7 (by decide)) hF38 (by decide)) hF44 (by decide))⟩)
      · refine pw_aload0 C dX11_motifIn_25 ?_
        refine pw_iconst C dX11_motifIn_26 ?_
        refine p_43_0 C fl_X11_1 dX11_motifIn_27 ?_
        refine pw_iconst C dX11_motifIn_30 ?_
        exact pw_iretI C dX11_motifIn_31 (⟨by
              first
                | exact Or.inr ⟨fun h => hno h.1, rd_eq, rfl⟩
                | exact Or.inr ⟨fun h => by have := h.2; omega, rd_eq, rfl⟩, by rw [rd_ne (by decide), rd_ne (by decide), rd_ne (by decide)]; exact hK_7, (Sm_up (Sm_trans (Sm_up Sm_refl (by decide)) hF7 (by decide)) (by decide)), (Fm_up (Fm_tr (Fm_up Fm_refl (by decide)) hJ7 (by decide)) (by decide))⟩)
