theorem HC_cv {c : Cfg} {r x : Int} (hn : nrB c ≠ 0) (h : (0 ≤ x ∧ x ≤ 9) ∧ ∀ j, 0 ≤ j → j ≤ 8 → (x ≤ j ↔ HCj c r j (nrB c))) : CvS c r (if x = 9 then -2 else x) := by
  have key : ∀ j, 1 ≤ j → j < 9 → (x ≤ j ↔ HCv c r (j - 1).toNat (nrB c)) := fun j q1 q2 => by
    rw [h.2 j (by omega) (by omega)]
    constructor
    · rintro (q | q)
      · exact absurd q hn
      · exact q.2
    · intro q; exact Or.inr ⟨q1, q⟩
  have h0 : x ≠ 0 := fun q => by
    rcases (h.2 0 (by omega) (by omega)).mp (by omega) with z | z
    · exact hn z
    · omega
  by_cases e : x = 9
  · rw [if_pos e]
    exact Or.inr ⟨rfl, fun y q1 q2 q3 => by have := (key y q1 q2).mpr q3; omega⟩
  · rw [if_neg e]
    exact Or.inl ⟨by omega, (key x (by omega) (by omega)).mp (Int.le_refl _), fun y q1 q2 q3 => by have := (key y q1 (by omega)).mpr q3; omega⟩
theorem HC_k {c : Cfg} {r x k : Int} (hn : nrB c ≠ 0) (hk : 1 ≤ k ∧ k ≤ 8) (h : (0 ≤ x ∧ x ≤ 9) ∧ ∀ j, 0 ≤ j → j ≤ 8 → (x ≤ j ↔ HCj c r j (nrB c))) : x ≤ k ↔ HCv c r (k - 1).toNat (nrB c) := by
  rw [h.2 k (by omega) (by omega)]
  constructor
  · rintro (q | q)
    · exact absurd q hn
    · exact q.2
  · intro q; exact Or.inr ⟨hk.1, q⟩
set_option maxHeartbeats 4000000 in
set_option maxRecDepth 100000 in
theorem c_X11_cover (l : Launch) (K : KX) (M : Mem) (r0 : Int) (hW : WfK (cfM M)) (hKn : M 43 13 = 0 ∨ (M 43 13 = 1 ∧ KnOK (cfM M) M)) (hr : -2147483648 ≤ r0 ∧ r0 ≤ 2147483647) : MCi l K LAY yX11_cover cX11_cover 3 (some .int) 6 [rV K 43, iV r0] M (fun r M' => (PCv (cfM M) r0 r) ∧ (M' 43 0 = 0) ∧ (M' 43 13 = 0 ∨ (M' 43 13 = 1 ∧ KnOK (cfM M) M')) ∧ Sm [43, 51, 52, 53, 54, 55] M M' ∧ Fm [0, 13] M M') := by
  refine mci_intro RX11 rfl [some (rV K 43), some (iV r0), none] rfl (by decide +kernel) (cat_r (cat_i cat_nil)) (Nat.le_of_ble_eq_true rfl) (fun X hX C => ?_)
  subst hX
  have w_let := wm_let hW
  have w_sw := wm_sw hW
  have w_dr := wm_dr hW
  have w_gp := wm_gp hW
  have w_w := wm_w hW
  have w_l := wm_l hW
  have w_l1 := wm_l1 hW
  have w_t := wm_t hW
  have hK0 := nK_pos hW
  have hK1 := nK_le hW
  have ec0 : cfM (up2 M 43 0 0) = cfM M := cfM_e (rd_ne (by decide)) (rd_ne (by decide)) (rd_ne (by decide)) (rd_ne (by decide)) (rd_ne (by decide)) (rd_ne (by decide)) (rd_ne (by decide)) (up2_ne (by decide)) (up2_ne (by decide)) (up2_ne (by decide)) (up2_ne (by decide)) (up2_ne (by decide))
  refine pw_aload0 C dX11_cover_0 ?_
  refine pw_iconst C dX11_cover_1 ?_
  refine p_43_0 C fl_X11_1 dX11_cover_2 ?_
  refine pw_aload0 C dX11_cover_5 ?_
  refine pw_iload1 C dX11_cover_6 ?_
  refine pw_cVi1 C (c_X11_isAsked _ K _ _ (by rw [ec0]; exact hW) (hr)) cb_X11_isAsked lay_43 kc_11 rfl ml_X11_163 dX11_cover_7 (by decide) (Nat.le_of_ble_eq_true rfl) (fun r7 M7 hQ => ?_)
  obtain ⟨rfl, hMe⟩ := hQ
  replace hMe := hMe.symm
  subst hMe
  rw [ec0]
  refine pw_if_ne (tgt := 15) C dX11_cover_10 (by decide) (by split <;> omega) (fun h10 => ?_) (fun h10 => ?_)
  · have e10 : ((0 ≤ r0 ∧ r0 ≤ 63) ∧ nrB (cfM M) ≠ 0) := Decidable.byContradiction fun h => by rw [if_neg h] at h10; omega
    refine pw_aload0 C dX11_cover_15 ?_
    refine pw_iload1 C dX11_cover_16 ?_
    refine pw_cVi1 C (c_X11_coverOf _ K _ _ (by rw [ec0]; exact hW) (by rw [ec0, rd_ne (by decide)]; exact hKn.elim Or.inl (fun h => Or.inr ⟨h.1, KnOK_c (up2_ne (by decide)) h.2⟩)) (e10.1)) cb_X11_coverOf lay_43 kc_11 rfl ml_X11_179 dX11_cover_17 (by decide) (Nat.le_of_ble_eq_true rfl) (fun r17 M17 hQ => ?_)
    obtain ⟨hp_17, h2_17, h3_17, hF17, hJ17⟩ := hQ
    rw [ec0] at hp_17 h3_17
    have hq := HC_cv e10.2 hp_17
    have hp9 := hp_17.1
    refine pw_istore2 C (by decide) dX11_cover_20 ?_
    refine pw_iload2 C dX11_cover_21 ?_
    refine pw_bipush C dX11_cover_22 (by decide) ?_
    refine pw_icmp_ne (tgt := 32) C dX11_cover_24 (by decide) (by omega) (by omega) (fun h24 => ?_) (fun h24 => ?_)
    · refine pw_iload2 C dX11_cover_32 ?_
      exact pw_iretI C dX11_cover_33 (⟨by
            refine Or.inl ⟨e10.1, e10.2, ?_⟩
            first | (rw [if_neg h24] at hq; exact hq) | (rw [if_pos (by omega)] at hq; exact hq), by rw [hJ17 0 (by decide)]; exact rd_eq, by exact Or.inr ⟨h2_17, h3_17⟩, (Sm_trans (Sm_up Sm_refl (by decide)) hF17 (by decide)), (Fm_tr (Fm_up Fm_refl (by decide)) hJ17 (by decide))⟩)
    · refine pw_bipush C dX11_cover_27 (by decide) ?_
      refine pw_goto (tgt := 33) C dX11_cover_29 (by decide) ?_
      exact pw_iretI C dX11_cover_33 (⟨by
            refine Or.inl ⟨e10.1, e10.2, ?_⟩
            first | (rw [if_neg h24] at hq; exact hq) | (rw [if_pos (by omega)] at hq; exact hq), by rw [hJ17 0 (by decide)]; exact rd_eq, by exact Or.inr ⟨h2_17, h3_17⟩, (Sm_trans (Sm_up Sm_refl (by decide)) hF17 (by decide)), (Fm_tr (Fm_up Fm_refl (by decide)) hJ17 (by decide))⟩)
  · have e10 : ¬ ((0 ≤ r0 ∧ r0 ≤ 63) ∧ nrB (cfM M) ≠ 0) := fun h => by rw [if_pos h] at h10; omega
    refine pw_iconst C dX11_cover_13 ?_
    exact pw_iretI C dX11_cover_14 (⟨by exact Or.inr ⟨e10, rfl⟩, by exact rd_eq, by rw [rd_ne (by decide)]; exact hKn.elim Or.inl (fun h => Or.inr ⟨h.1, KnOK_c (up2_ne (by decide)) h.2⟩), (Sm_up Sm_refl (by decide)), (Fm_up Fm_refl (by decide))⟩)
set_option maxHeartbeats 4000000 in
set_option maxRecDepth 100000 in
theorem c_X11_centres (l : Launch) (K : KX) (M : Mem) (k : Int) (hW : WfK (cfM M)) (hKn : M 43 13 = 0 ∨ (M 43 13 = 1 ∧ KnOK (cfM M) M)) (hk : -2147483648 ≤ k ∧ k ≤ 2147483647) : MCi l K LAY yX11_centres cX11_centres 3 (some .int) 6 [rV K 43, iV k] M (fun r M' => (PCt (cfM M) k r) ∧ (M' 43 0 = 0) ∧ (M' 43 13 = 0 ∨ (M' 43 13 = 1 ∧ KnOK (cfM M) M')) ∧ Sm [43, 51, 52, 53, 54, 55] M M' ∧ Fm [0, 13] M M') := by
  refine mci_intro RX11 rfl [some (rV K 43), some (iV k), none] rfl (by decide +kernel) (cat_r (cat_i cat_nil)) (Nat.le_of_ble_eq_true rfl) (fun X hX C => ?_)
  subst hX
  have w_let := wm_let hW
  have w_sw := wm_sw hW
  have w_dr := wm_dr hW
  have w_gp := wm_gp hW
  have w_w := wm_w hW
  have w_l := wm_l hW
  have w_l1 := wm_l1 hW
  have w_t := wm_t hW
  have hK0 := nK_pos hW
  have hK1 := nK_le hW
  have ec0 : cfM (up2 M 43 0 0) = cfM M := cfM_e (rd_ne (by decide)) (rd_ne (by decide)) (rd_ne (by decide)) (rd_ne (by decide)) (rd_ne (by decide)) (rd_ne (by decide)) (rd_ne (by decide)) (up2_ne (by decide)) (up2_ne (by decide)) (up2_ne (by decide)) (up2_ne (by decide)) (up2_ne (by decide))
  have hmr := mny_rng (p := M 46) (v := 1) (M 43 6) w_w.1
  have hmz : mny (M 46) 1 (M 43 6) = 0 ↔ nrB (cfM M) = 0 := many_nz hW
  refine pw_aload0 C dX11_centres_0 ?_
  refine pw_iconst C dX11_centres_1 ?_
  refine p_43_0 C fl_X11_1 dX11_centres_2 ?_
  refine pw_iload1 C dX11_centres_5 ?_
  refine pw_iconst C dX11_centres_6 ?_
  refine pw_bipush C dX11_centres_7 (by decide) ?_
  refine pw_cSi3 C (c_X11_within _ K _ _ _ _ (hk) (by omega) (by omega)) cb_X11_within ml_X11_81 dX11_centres_9 (by decide) (Nat.le_of_ble_eq_true rfl) (fun r9 M9 hQ => ?_)
  obtain ⟨rfl, hMe⟩ := hQ
  replace hMe := hMe.symm
  subst hMe
  refine pw_if_eq (tgt := 23) C dX11_centres_12 (by decide) (by split <;> omega) (fun h12 => ?_) (fun h12 => ?_)
  · have e12 : ¬ (1 ≤ k ∧ k ≤ 8) := fun h => by rw [if_pos h] at h12; omega
    refine pw_iconst C dX11_centres_23 ?_
    exact pw_iretI C dX11_centres_24 (⟨by
          refine Or.inr ⟨fun h => ?_, rfl⟩
          first | exact e12 h.1 | exact h.2 e20, by exact rd_eq, by rw [rd_ne (by decide)]; exact hKn.elim Or.inl (fun h => Or.inr ⟨h.1, KnOK_c (up2_ne (by decide)) h.2⟩), (Sm_up Sm_refl (by decide)), (Fm_up Fm_refl (by decide))⟩)
  · have e12 : (1 ≤ k ∧ k ≤ 8) := Decidable.byContradiction fun h => by rw [if_neg h] at h12; omega
    refine pw_aload0 C dX11_centres_15 ?_
    refine pw_iconst C dX11_centres_16 ?_
    refine pw_cVi1 C (c_X11_many _ K _ _ (by rw [ec0]; exact hW) (by omega)) cb_X11_many lay_43 kc_11 rfl ml_X11_141 dX11_centres_17 (by decide) (Nat.le_of_ble_eq_true rfl) (fun r17 M17 hQ => ?_)
    obtain ⟨rfl, hMe⟩ := hQ
    replace hMe := hMe.symm
    subst hMe
    refine pw_top C (mny (M 46) 1 (M 43 6)) (by rw [rd_ne (by decide), up2_ne (by decide)]) ?_
    refine pw_if_ne (tgt := 25) C dX11_centres_20 (by decide) (by omega) (fun h20 => ?_) (fun h20 => ?_)
    · have e20 : nrB (cfM M) ≠ 0 := fun h => by have := hmz.mpr h; omega
      refine pw_iconst C dX11_centres_25 ?_
      refine pw_istore2 C (by decide) dX11_centres_26 ?_
      have cut_27 : ∀ (fu : Nat) (y : Int) (M3 : Mem), Sm [43, 51, 52, 53, 54, 55] M M3 → Fm [0, 13] M M3 → (0 ≤ y ∧ y ≤ 64) → (M3 43 0 = 0) → (M3 43 13 = 0 ∨ (M3 43 13 = 1 ∧ KnOK (cfM M) M3)) → (∀ z, 0 ≤ z → z < y → ¬ HCv (cfM M) z (k - 1).toNat (nrB (cfM M))) → (64 - y).toNat < fu → PW X K LAY 3 (0, 0) (Zi X K LAY (fun r M' => (PCt (cfM M) k r) ∧ (M' 43 0 = 0) ∧ (M' 43 13 = 0 ∨ (M' 43 13 = 1 ∧ KnOK (cfM M) M')) ∧ Sm [43, 51, 52, 53, 54, 55] M M' ∧ Fm [0, 13] M M')) 27 [some (rV K 43), some (iV k), some (iV y)] [] M3 := by
        intro fu
        induction fu with
        | zero => intro _ _ _ _ _ _ _ _ hm; exact absurd hm (Nat.not_lt_zero _)
        | succ fu ih =>
          intro y M3 hF27 hJ27 hy ht hK g hm
          have ih_27 := ih
          have hm_27 := hm
          have ec3 : cfM M3 = cfM M := cfM_e (hJ27 1 (by decide)) (hJ27 3 (by decide)) (hJ27 4 (by decide)) (hJ27 5 (by decide)) (hJ27 6 (by decide)) (hJ27 7 (by decide)) (hJ27 10 (by decide)) (hF27 44 (by decide)) (hF27 45 (by decide)) (hF27 46 (by decide)) (hF27 47 (by decide)) (hF27 48 (by decide))
          refine pw_iload2 C dX11_centres_27 ?_
          refine pw_bipush C dX11_centres_28 (by decide) ?_
          refine pw_icmp_ge (tgt := 50) C dX11_centres_30 (by decide) (by omega) (by omega) (fun h30 => ?_) (fun h30 => ?_)
          · refine pw_iconst C dX11_centres_50 ?_
            exact pw_iretI C dX11_centres_51 (⟨by exact Or.inl ⟨e12, e20, Or.inr ⟨rfl, fun z q1 q2 => g z q1 (by omega)⟩⟩, by exact ht, by exact hK, (Sm_trans Sm_refl hF27 (by decide)), (Fm_tr Fm_refl hJ27 (by decide))⟩)
          · refine pw_aload0 C dX11_centres_33 ?_
            refine pw_iload2 C dX11_centres_34 ?_
            refine pw_cVi1 C (c_X11_coverOf _ K _ _ (by rw [ec3]; exact hW) (by rw [ec3]; exact hK) (by omega)) cb_X11_coverOf lay_43 kc_11 rfl ml_X11_179 dX11_centres_35 (by decide) (Nat.le_of_ble_eq_true rfl) (fun r35 M35 hQ => ?_)
            obtain ⟨hp_35, h2_35, h3_35, hF35, hJ35⟩ := hQ
            rw [ec3] at hp_35 h3_35
            have hp9 := hp_35.1
            have hq := HC_k e20 e12 hp_35
            refine pw_iload1 C dX11_centres_38 ?_
            refine pw_icmp_gt (tgt := 44) C dX11_centres_39 (by decide) (by omega) (by omega) (fun h39 => ?_) (fun h39 => ?_)
            · refine pw_iinc2 C (by decide) dX11_centres_44 ?_
              refine pw_goto (tgt := 27) C dX11_centres_47 (by decide) ?_
              exact ih_27 _ _ (Sm_trans (Sm_trans Sm_refl hF27 (by decide)) hF35 (by decide)) (Fm_tr (Fm_tr Fm_refl hJ27 (by decide)) hJ35 (by decide)) (by omega) (by rw [hJ35 0 (by decide)]; exact ht) (by exact Or.inr ⟨h2_35, h3_35⟩) (by
                    intro z q1 q2
                    by_cases e : z = y
                    · rw [e, ← hq]; omega
                    · exact g z q1 (by omega)) (by omega)
            · refine pw_iload2 C dX11_centres_42 ?_
              exact pw_iretI C dX11_centres_43 (⟨by exact Or.inl ⟨e12, e20, Or.inl ⟨by omega, hq.mp (by omega), g⟩⟩, by rw [hJ35 0 (by decide)]; exact ht, by exact Or.inr ⟨h2_35, h3_35⟩, (Sm_trans (Sm_trans Sm_refl hF27 (by decide)) hF35 (by decide)), (Fm_tr (Fm_tr Fm_refl hJ27 (by decide)) hJ35 (by decide))⟩)
      exact cut_27 _ _ _ (Sm_up Sm_refl (by decide)) (Fm_up Fm_refl (by decide)) (by omega) (by exact rd_eq) (by rw [rd_ne (by decide)]; exact hKn.elim Or.inl (fun h => Or.inr ⟨h.1, KnOK_c (up2_ne (by decide)) h.2⟩)) (by intro z q1 q2; omega) (Nat.lt_succ_self _)
    · have e20 : nrB (cfM M) = 0 := hmz.mp (by omega)
      refine pw_iconst C dX11_centres_23 ?_
      exact pw_iretI C dX11_centres_24 (⟨by
            refine Or.inr ⟨fun h => ?_, rfl⟩
            first | exact e12 h.1 | exact h.2 e20, by exact rd_eq, by rw [rd_ne (by decide)]; exact hKn.elim Or.inl (fun h => Or.inr ⟨h.1, KnOK_c (up2_ne (by decide)) h.2⟩), (Sm_up Sm_refl (by decide)), (Fm_up Fm_refl (by decide))⟩)
