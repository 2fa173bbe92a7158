set_option maxHeartbeats 4000000 in
set_option maxRecDepth 100000 in
theorem c_X11_core (l : Launch) (K : KX) (M : Mem) (r0 : Int) (hW : WfK (cfM M)) (hKn : M 43 13 = 0 ∨ (M 43 13 = 1 ∧ KnOK (cfM M) M)) (hr : -2147483648 ≤ r0 ∧ r0 ≤ 2147483647) : MCi l K LAY yX11_core cX11_core 2 (some .int) 6 [rV K 43, iV r0] M (fun r M' => (PCo (cfM M) r0 r) ∧ (M' 43 0 = 0) ∧ (M' 43 13 = 0 ∨ (M' 43 13 = 1 ∧ KnOK (cfM M) M')) ∧ Sm [43, 51, 52, 53, 54] M M' ∧ Fm [0, 13] M M') := by
  refine mci_intro RX11 rfl [some (rV K 43), some (iV r0)] rfl (by decide +kernel) (cat_r (cat_i cat_nil)) (Nat.le_of_ble_eq_true rfl) (fun X hX C => ?_)
  subst hX
  have w_let := wm_let hW
  have w_sw := wm_sw hW
  have w_dr := wm_dr hW
  have w_gp := wm_gp hW
  have w_w := wm_w hW
  have w_l := wm_l hW
  have w_l1 := wm_l1 hW
  have w_t := wm_t hW
  have hK0 := nK_pos hW
  have hK1 := nK_le hW
  have ec0 : cfM (up2 M 43 0 0) = cfM M := cfM_e (rd_ne (by decide)) (rd_ne (by decide)) (rd_ne (by decide)) (rd_ne (by decide)) (rd_ne (by decide)) (rd_ne (by decide)) (rd_ne (by decide)) (up2_ne (by decide)) (up2_ne (by decide)) (up2_ne (by decide)) (up2_ne (by decide)) (up2_ne (by decide))
  refine pw_aload0 C dX11_core_0 ?_
  refine pw_iconst C dX11_core_1 ?_
  refine p_43_0 C fl_X11_1 dX11_core_2 ?_
  refine pw_aload0 C dX11_core_5 ?_
  refine pw_iload1 C dX11_core_6 ?_
  refine pw_cVi1 C (c_X11_isAsked _ K _ _ (by rw [ec0]; exact hW) (hr)) cb_X11_isAsked lay_43 kc_11 rfl ml_X11_163 dX11_core_7 (by decide) (Nat.le_of_ble_eq_true rfl) (fun r7 M7 hQ => ?_)
  obtain ⟨rfl, hMe⟩ := hQ
  replace hMe := hMe.symm
  subst hMe
  rw [ec0]
  refine pw_if_eq (tgt := 24) C dX11_core_10 (by decide) (by split <;> omega) (fun h10 => ?_) (fun h10 => ?_)
  · have e10 : ¬ ((0 ≤ r0 ∧ r0 ≤ 63) ∧ nrB (cfM M) ≠ 0) := fun h => by rw [if_pos h] at h10; omega
    refine pw_iconst C dX11_core_24 ?_
    exact pw_iretI C dX11_core_25 (⟨by first | exact Or.inr ⟨e10, rfl⟩ | exact Or.inl ⟨e10.1, e10.2, _, hp_15, rfl⟩, by first | exact rd_eq | (rw [hJ15 0 (by decide)]; exact rd_eq), by first | exact Or.inr ⟨h2_15, h3_15⟩ | (rw [rd_ne (by decide)]; exact hKn.elim Or.inl (fun h => Or.inr ⟨h.1, KnOK_c (up2_ne (by decide)) h.2⟩)), (Sm_up Sm_refl (by decide)), (Fm_up Fm_refl (by decide))⟩)
  · have e10 : ((0 ≤ r0 ∧ r0 ≤ 63) ∧ nrB (cfM M) ≠ 0) := Decidable.byContradiction fun h => by rw [if_neg h] at h10; omega
    refine pw_aload0 C dX11_core_13 ?_
    refine pw_iload1 C dX11_core_14 ?_
    refine pw_cVi1 C (c_X11_coreOf _ K _ _ (by rw [ec0]; exact hW) (by rw [ec0, rd_ne (by decide)]; exact hKn.elim Or.inl (fun h => Or.inr ⟨h.1, KnOK_c (up2_ne (by decide)) h.2⟩)) (e10.1)) cb_X11_coreOf lay_43 kc_11 rfl ml_X11_176 dX11_core_15 (by decide) (Nat.le_of_ble_eq_true rfl) (fun r15 M15 hQ => ?_)
    obtain ⟨hp_15, h2_15, h3_15, hF15, hJ15⟩ := hQ
    rw [ec0] at hp_15 h3_15
    have hcs := CoS_rng hp_15
    refine pw_cSi1 C (c_X11_size _ K _ _ (hcs)) cb_X11_size ml_X11_173 dX11_core_18 (by decide) (Nat.le_of_ble_eq_true rfl) (fun r18 M18 hQ => ?_)
    obtain ⟨rfl, hMe⟩ := hQ
    replace hMe := hMe.symm
    subst hMe
    refine pw_goto (tgt := 25) C dX11_core_21 (by decide) ?_
    exact pw_iretI C dX11_core_25 (⟨by first | exact Or.inr ⟨e10, rfl⟩ | exact Or.inl ⟨e10.1, e10.2, _, hp_15, rfl⟩, by first | exact rd_eq | (rw [hJ15 0 (by decide)]; exact rd_eq), by first | exact Or.inr ⟨h2_15, h3_15⟩ | (rw [rd_ne (by decide)]; exact hKn.elim Or.inl (fun h => Or.inr ⟨h.1, KnOK_c (up2_ne (by decide)) h.2⟩)), (Sm_trans (Sm_up Sm_refl (by decide)) hF15 (by decide)), (Fm_tr (Fm_up Fm_refl (by decide)) hJ15 (by decide))⟩)
set_option maxHeartbeats 4000000 in
set_option maxRecDepth 100000 in
theorem c_X11_coreSet (l : Launch) (K : KX) (M : Mem) (r0 : Int) (hW : WfK (cfM M)) (hKn : M 43 13 = 0 ∨ (M 43 13 = 1 ∧ KnOK (cfM M) M)) (hr : -2147483648 ≤ r0 ∧ r0 ≤ 2147483647) : MCi l K LAY yX11_coreSet cX11_coreSet 2 (some .int) 6 [rV K 43, iV r0] M (fun r M' => (PCs (cfM M) r0 r) ∧ (M' 43 0 = 0) ∧ (M' 43 13 = 0 ∨ (M' 43 13 = 1 ∧ KnOK (cfM M) M')) ∧ Sm [43, 51, 52, 53, 54] M M' ∧ Fm [0, 13] M M') := by
  refine mci_intro RX11 rfl [some (rV K 43), some (iV r0)] rfl (by decide +kernel) (cat_r (cat_i cat_nil)) (Nat.le_of_ble_eq_true rfl) (fun X hX C => ?_)
  subst hX
  have w_let := wm_let hW
  have w_sw := wm_sw hW
  have w_dr := wm_dr hW
  have w_gp := wm_gp hW
  have w_w := wm_w hW
  have w_l := wm_l hW
  have w_l1 := wm_l1 hW
  have w_t := wm_t hW
  have hK0 := nK_pos hW
  have hK1 := nK_le hW
  have ec0 : cfM (up2 M 43 0 0) = cfM M := cfM_e (rd_ne (by decide)) (rd_ne (by decide)) (rd_ne (by decide)) (rd_ne (by decide)) (rd_ne (by decide)) (rd_ne (by decide)) (rd_ne (by decide)) (up2_ne (by decide)) (up2_ne (by decide)) (up2_ne (by decide)) (up2_ne (by decide)) (up2_ne (by decide))
  refine pw_aload0 C dX11_coreSet_0 ?_
  refine pw_iconst C dX11_coreSet_1 ?_
  refine p_43_0 C fl_X11_1 dX11_coreSet_2 ?_
  refine pw_aload0 C dX11_coreSet_5 ?_
  refine pw_iload1 C dX11_coreSet_6 ?_
  refine pw_cVi1 C (c_X11_isAsked _ K _ _ (by rw [ec0]; exact hW) (hr)) cb_X11_isAsked lay_43 kc_11 rfl ml_X11_163 dX11_coreSet_7 (by decide) (Nat.le_of_ble_eq_true rfl) (fun r7 M7 hQ => ?_)
  obtain ⟨rfl, hMe⟩ := hQ
  replace hMe := hMe.symm
  subst hMe
  rw [ec0]
  refine pw_if_eq (tgt := 21) C dX11_coreSet_10 (by decide) (by split <;> omega) (fun h10 => ?_) (fun h10 => ?_)
  · have e10 : ¬ ((0 ≤ r0 ∧ r0 ≤ 63) ∧ nrB (cfM M) ≠ 0) := fun h => by rw [if_pos h] at h10; omega
    refine pw_iconst C dX11_coreSet_21 ?_
    exact pw_iretI C dX11_coreSet_22 (⟨by first | exact Or.inr ⟨e10, rfl⟩ | exact Or.inl ⟨e10.1, e10.2, hp_15⟩, by first | exact rd_eq | (rw [hJ15 0 (by decide)]; exact rd_eq), by first | exact Or.inr ⟨h2_15, h3_15⟩ | (rw [rd_ne (by decide)]; exact hKn.elim Or.inl (fun h => Or.inr ⟨h.1, KnOK_c (up2_ne (by decide)) h.2⟩)), (Sm_up Sm_refl (by decide)), (Fm_up Fm_refl (by decide))⟩)
  · have e10 : ((0 ≤ r0 ∧ r0 ≤ 63) ∧ nrB (cfM M) ≠ 0) := Decidable.byContradiction fun h => by rw [if_neg h] at h10; omega
    refine pw_aload0 C dX11_coreSet_13 ?_
    refine pw_iload1 C dX11_coreSet_14 ?_
    refine pw_cVi1 C (c_X11_coreOf _ K _ _ (by rw [ec0]; exact hW) (by rw [ec0, rd_ne (by decide)]; exact hKn.elim Or.inl (fun h => Or.inr ⟨h.1, KnOK_c (up2_ne (by decide)) h.2⟩)) (e10.1)) cb_X11_coreOf lay_43 kc_11 rfl ml_X11_176 dX11_coreSet_15 (by decide) (Nat.le_of_ble_eq_true rfl) (fun r15 M15 hQ => ?_)
    obtain ⟨hp_15, h2_15, h3_15, hF15, hJ15⟩ := hQ
    rw [ec0] at hp_15 h3_15
    have hcs := CoS_rng hp_15
    refine pw_goto (tgt := 22) C dX11_coreSet_18 (by decide) ?_
    exact pw_iretI C dX11_coreSet_22 (⟨by first | exact Or.inr ⟨e10, rfl⟩ | exact Or.inl ⟨e10.1, e10.2, hp_15⟩, by first | exact rd_eq | (rw [hJ15 0 (by decide)]; exact rd_eq), by first | exact Or.inr ⟨h2_15, h3_15⟩ | (rw [rd_ne (by decide)]; exact hKn.elim Or.inl (fun h => Or.inr ⟨h.1, KnOK_c (up2_ne (by decide)) h.2⟩)), (Sm_trans (Sm_up Sm_refl (by decide)) hF15 (by decide)), (Fm_tr (Fm_up Fm_refl (by decide)) hJ15 (by decide))⟩)
