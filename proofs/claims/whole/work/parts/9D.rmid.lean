set_option maxHeartbeats 4000000 in
set_option maxRecDepth 100000 in
theorem c_X11_hasMiddle (l : Launch) (K : KX) (M : Mem) (hW : WfK (cfM M)) (hKm : M 43 14 = 0 ∨ (M 43 14 = 1 ∧ MdS (cfM M) (M 43 30) (M 43 29) (M 58))) : MCi l K LAY yX11_hasMiddle cX11_hasMiddle 3 (some .boolean) 11 [rV K 43] M (fun r M' => (M' 43 14 = 0 ∨ (M' 43 14 = 1 ∧ MdS (cfM M) (M' 43 30) (M' 43 29) (M' 58))) ∧ ((nrB (cfM M) = 0 ∧ r = 0) ∨ (nrB (cfM M) ≠ 0 ∧ r = 1 ∧ MdS (cfM M) (M' 43 30) (M' 43 29) (M' 58))) ∧ Sm [43, 57, 58, 59] M M' ∧ Fm [14, 29, 30] M M') := by
  refine mci_intro RX11 rfl [some (rV K 43), none, none] rfl (by decide +kernel) (cat_r cat_nil) (Nat.le_of_ble_eq_true rfl) (fun X hX C => ?_)
  subst hX
  have w_let := wm_let hW
  have w_sw := wm_sw hW
  have w_dr := wm_dr hW
  have w_w := wm_w hW
  have w_l := wm_l hW
  have w_l1 := wm_l1 hW
  have hmr := mny_rng (p := M 46) (v := 1) (M 43 6) w_w.1
  have hmz : mny (M 46) 1 (M 43 6) = 0 ↔ nrB (cfM M) = 0 := many_nz hW
  refine pw_aload0 C dX11_hasMiddle_0 ?_
  refine pw_iconst C dX11_hasMiddle_1 ?_
  refine pw_cVi1 C (c_X11_many _ K _ _ (hW) (by omega)) cb_X11_many lay_43 kc_11 rfl ml_X11_141 dX11_hasMiddle_2 (by decide) (Nat.le_of_ble_eq_true rfl) (fun r2 M2 hQ => ?_)
  obtain ⟨rfl, hMe⟩ := hQ
  replace hMe := hMe.symm
  subst hMe
  refine pw_if_ne (tgt := 10) C dX11_hasMiddle_5 (by decide) (by omega) (fun h5 => ?_) (fun h5 => ?_)
  · refine pw_aload0 C dX11_hasMiddle_10 ?_
    refine g_43_14 C fl_X11_75 dX11_hasMiddle_11 ?_
    refine pw_if_eq (tgt := 19) C dX11_hasMiddle_14 (by decide) (by rcases hKm with q | q; omega; omega) (fun h14 => ?_) (fun h14 => ?_)
    · refine pw_aload0 C dX11_hasMiddle_19 ?_
      refine pw_iconst C dX11_hasMiddle_20 ?_
      refine p_43_29 C fl_X11_195 dX11_hasMiddle_21 ?_
      refine pw_iconst C dX11_hasMiddle_24 ?_
      refine pw_istore1 C (by decide) dX11_hasMiddle_25 ?_
      have cut_26 : ∀ (fu : Nat) (w : Int) (M1 : Mem), Sm [43, 57] M M1 → Fm [29] M M1 → (0 ≤ w ∧ w ≤ M 43 6) → (M1 43 29 = 0) → (∀ u, 0 ≤ u → u < w → ∀ k, 0 ≤ k → k ≤ M 43 7 → M1 57 (81 * u + 9 * 0 + k) = edW (cfM M) (M 59) u 0 k) → (M 43 6 - w).toNat < fu → PW X K LAY 3 (0, 0) (Zi X K LAY (fun r M' => (M' 43 14 = 0 ∨ (M' 43 14 = 1 ∧ MdS (cfM M) (M' 43 30) (M' 43 29) (M' 58))) ∧ ((nrB (cfM M) = 0 ∧ r = 0) ∨ (nrB (cfM M) ≠ 0 ∧ r = 1 ∧ MdS (cfM M) (M' 43 30) (M' 43 29) (M' 58))) ∧ Sm [43, 57, 58, 59] M M' ∧ Fm [14, 29, 30] M M')) 26 [some (rV K 43), some (iV w), none] [] M1 := by
        intro fu
        induction fu with
        | zero => intro _ _ _ _ _ _ _ hm; exact absurd hm (Nat.not_lt_zero _)
        | succ fu ih =>
          intro w M1 hF26 hJ26 hw z29 g hm
          have ih_26 := ih
          have hm_26 := hm
          refine pw_iload1 C dX11_hasMiddle_26 ?_
          refine pw_aload0 C dX11_hasMiddle_27 ?_
          refine g_43_6 C fl_X11_85 dX11_hasMiddle_28 ?_
          refine pw_top C _ (hJ26 6 (by decide)) ?_
          refine pw_icmp_ge (tgt := 73) C dX11_hasMiddle_31 (by decide) (by omega) (by omega) (fun h31 => ?_) (fun h31 => ?_)
          · refine pw_iconst C dX11_hasMiddle_73 ?_
            refine pw_istore1 C (by decide) dX11_hasMiddle_74 ?_
            have cut_75 : ∀ (fu : Nat) (sz : Int) (M3 : Mem), Sm [43, 57, 58, 59] M M3 → Fm [29, 30] M M3 → (1 ≤ sz ∧ sz ≤ 9) → (LnM (cfM M) (M3 59) (M3 57) 0) → (MiR (cfM M) (M3 43 30) (M3 43 29) (M3 58) sz 0) → (9 - sz).toNat < fu → PW X K LAY 3 (0, 0) (Zi X K LAY (fun r M' => (M' 43 14 = 0 ∨ (M' 43 14 = 1 ∧ MdS (cfM M) (M' 43 30) (M' 43 29) (M' 58))) ∧ ((nrB (cfM M) = 0 ∧ r = 0) ∨ (nrB (cfM M) ≠ 0 ∧ r = 1 ∧ MdS (cfM M) (M' 43 30) (M' 43 29) (M' 58))) ∧ Sm [43, 57, 58, 59] M M' ∧ Fm [14, 29, 30] M M')) 75 [some (rV K 43), some (iV sz), none] [] M3 := by
              intro fu
              induction fu with
              | zero => intro _ _ _ _ _ _ _ hm; exact absurd hm (Nat.not_lt_zero _)
              | succ fu ih =>
                intro sz M3 hF75 hJ75 hsz l3 q3 hm
                have ih_75 := ih
                have hm_75 := hm
                have ec3 : cfM M3 = cfM M := cfM_e (hJ75 1 (by decide)) (hJ75 3 (by decide)) (hJ75 4 (by decide)) (hJ75 5 (by decide)) (hJ75 6 (by decide)) (hJ75 7 (by decide)) (hJ75 10 (by decide)) (hF75 44 (by decide)) (hF75 45 (by decide)) (hF75 46 (by decide)) (hF75 47 (by decide)) (hF75 48 (by decide))
                refine pw_iload1 C dX11_hasMiddle_75 ?_
                refine pw_bipush C dX11_hasMiddle_76 (by decide) ?_
                refine pw_icmp_gt (tgt := 93) C dX11_hasMiddle_78 (by decide) (by omega) (by omega) (fun h78 => ?_) (fun h78 => ?_)
                · refine pw_aload0 C dX11_hasMiddle_93 ?_
                  refine pw_iconst C dX11_hasMiddle_94 ?_
                  refine p_43_14 C (by decide) fl_X11_75 dX11_hasMiddle_95 ?_
                  refine pw_iconst C dX11_hasMiddle_98 ?_
                  exact pw_zretI C dX11_hasMiddle_99 (by decide) (⟨by
                        refine Or.inr ⟨rd_eq, ?_⟩
                        rw [rd_ne (by decide), rd_ne (by decide), up2_ne (by decide)]
                        rw [show sz = 9 by omega] at q3
                        exact MiR_end hW q3, by
                        refine Or.inr ⟨fun h => absurd (hmz.mpr h) (by omega), rfl, ?_⟩
                        rw [rd_ne (by decide), rd_ne (by decide), up2_ne (by decide)]
                        rw [show sz = 9 by omega] at q3
                        exact MiR_end hW q3, (Sm_up (Sm_trans Sm_refl hF75 (by decide)) (by decide)), (Fm_up (Fm_tr Fm_refl hJ75 (by decide)) (by decide))⟩)
                · refine pw_aload0 C dX11_hasMiddle_81 ?_
                  refine pw_iconst C dX11_hasMiddle_82 ?_
                  refine pw_iload1 C dX11_hasMiddle_83 ?_
                  refine pw_cVv2 C (c_X11_tries_any _ K _ _ _ (by rw [ec3]; exact hW) (by omega) (by omega) (by intro i q1 q2; omega) (by rw [ec3]; exact l3) (by rw [ec3, vl_0, Int.zero_mul]; exact q3)) cb_X11_tries lay_43 kc_11 rfl ml_X11_204 dX11_hasMiddle_84 (by decide) (Nat.le_of_ble_eq_true rfl) (fun M84 hQ => ?_)
                  obtain ⟨hx1_84, hl1_84, hm1_84, hF84, hJ84⟩ := hQ
                  rw [ec3, vl_0, Int.zero_add, Int.one_mul, Int.sub_zero, hJ75 1 (by decide)] at hm1_84
                  rw [ec3] at hl1_84
                  refine pw_iinc1 C (by decide) dX11_hasMiddle_87 ?_
                  refine pw_goto (tgt := 75) C dX11_hasMiddle_90 (by decide) ?_
                  exact ih_75 _ _ (Sm_trans (Sm_trans Sm_refl hF75 (by decide)) hF84 (by decide)) (Fm_tr (Fm_tr Fm_refl hJ75 (by decide)) hJ84 (by decide)) (by omega) (by exact hl1_84) (by exact MiR_next hm1_84) (by omega)
            exact cut_75 _ _ _ (Sm_trans Sm_refl hF26 (by decide)) (Fm_tr Fm_refl hJ26 (by decide)) (by omega) (by
                  rw [hF26 59 (by decide)]
                  intro u u1 u2 u3 i q1 q2 k k1 k2
                  have h9 : kW (cfM M) = M 43 6 := rfl
                  rw [show i = 0 by omega]
                  exact g u u1 (by omega) k k1 k2) (by rw [z29]; exact MiR_0) (Nat.lt_succ_self _)
          · refine pw_iconst C dX11_hasMiddle_34 ?_
            refine pw_istore2 C (by decide) dX11_hasMiddle_35 ?_
            have cut_36 : ∀ (fu : Nat) (k : Int) (M2 : Mem), Sm [43, 57] M M2 → Fm [29] M M2 → (0 ≤ k ∧ k ≤ M 43 7 + 1) → (M2 43 29 = 0) → (∀ u, 0 ≤ u → u < w → ∀ k, 0 ≤ k → k ≤ M 43 7 → M2 57 (81 * u + 9 * 0 + k) = edW (cfM M) (M 59) u 0 k) → (∀ t, 0 ≤ t → t < k → M2 57 (81 * w + 9 * 0 + t) = edW (cfM M) (M 59) w 0 t) → (M 43 7 + 1 - k).toNat < fu → PW X K LAY 3 (0, 0) (Zi X K LAY (fun r M' => (M' 43 14 = 0 ∨ (M' 43 14 = 1 ∧ MdS (cfM M) (M' 43 30) (M' 43 29) (M' 58))) ∧ ((nrB (cfM M) = 0 ∧ r = 0) ∨ (nrB (cfM M) ≠ 0 ∧ r = 1 ∧ MdS (cfM M) (M' 43 30) (M' 43 29) (M' 58))) ∧ Sm [43, 57, 58, 59] M M' ∧ Fm [14, 29, 30] M M')) 36 [some (rV K 43), some (iV w), some (iV k)] [] M2 := by
              intro fu
              induction fu with
              | zero => intro _ _ _ _ _ _ _ _ hm; exact absurd hm (Nat.not_lt_zero _)
              | succ fu ih =>
                intro k M2 hF36 hJ36 hk y29 g2 g3 hm
                have ih_36 := ih
                have hm_36 := hm
                refine pw_iload2 C dX11_hasMiddle_36 ?_
                refine pw_aload0 C dX11_hasMiddle_37 ?_
                refine g_43_7 C fl_X11_110 dX11_hasMiddle_38 ?_
                refine pw_top C _ (hJ36 7 (by decide)) ?_
                refine pw_icmp_gt (tgt := 67) C dX11_hasMiddle_41 (by decide) (by omega) (by omega) (fun h41 => ?_) (fun h41 => ?_)
                · refine pw_iinc1 C (by decide) dX11_hasMiddle_67 ?_
                  refine pw_goto (tgt := 26) C dX11_hasMiddle_70 (by decide) ?_
                  refine pw_fgt (fgt_k (fgt_k (fgt_no fgt_nil))) ?_
                  exact ih_26 _ _ (Sm_trans Sm_refl hF36 (by decide)) (Fm_tr Fm_refl hJ36 (by decide)) (by omega) (by exact y29) (by
                        intro u q1 q2 t z1 z2
                        by_cases e : u = w
                        · rw [e]; exact g3 t z1 (by omega)
                        · exact g2 u q1 (by omega) t z1 z2) (by omega)
                · refine pw_aload0 C dX11_hasMiddle_44 ?_
                  refine g_43_27 C fl_X11_62 dX11_hasMiddle_45 ?_
                  refine pw_bipush C dX11_hasMiddle_48 (by decide) ?_
                  refine pw_iload1 C dX11_hasMiddle_50 ?_
                  refine pw_imul C dX11_hasMiddle_51 ?_
                  refine pw_iload2 C dX11_hasMiddle_52 ?_
                  refine pw_iadd C dX11_hasMiddle_53 ?_
                  refine pw_aload0 C dX11_hasMiddle_54 ?_
                  refine g_43_4 C fl_X11_20 dX11_hasMiddle_55 ?_
                  refine pw_top C _ (hJ36 4 (by decide)) ?_
                  refine pw_iload2 C dX11_hasMiddle_58 ?_
                  refine pw_imul C dX11_hasMiddle_59 ?_
                  refine pw_iastore C lay_57 (by omega) (by decide) dX11_hasMiddle_60 ?_
                  refine pw_iinc2 C (by decide) dX11_hasMiddle_61 ?_
                  refine pw_goto (tgt := 36) C dX11_hasMiddle_64 (by decide) ?_
                  exact ih_36 _ _ (Sm_up (Sm_trans Sm_refl hF36 (by decide)) (by decide)) (Fm_nc (Fm_tr Fm_refl hJ36 (by decide)) (by decide)) (by omega) (by rw [rd_nc (by decide)]; exact y29) (by intro u q1 q2 t z1 z2; rw [rd_ne (by omega)]; exact g2 u q1 q2 t z1 z2) (by
                        intro t q1 q2
                        rw [rd_if]
                        by_cases e : t = k
                        · rw [if_pos (by omega), e]; exact ed_mul0
                        · rw [if_neg (by omega)]; exact g3 t q1 (by omega)) (by omega)
            exact cut_36 _ _ _ (Sm_trans Sm_refl hF26 (by decide)) (Fm_tr Fm_refl hJ26 (by decide)) (by omega) (by exact z29) (by exact g) (by intro t q1 q2; omega) (Nat.lt_succ_self _)
      exact cut_26 _ _ _ (Sm_up Sm_refl (by decide)) (Fm_up Fm_refl (by decide)) (by omega) (by exact rd_eq) (by intro u q1 q2; omega) (Nat.lt_succ_self _)
    · refine pw_iconst C dX11_hasMiddle_17 ?_
      exact pw_zretI C dX11_hasMiddle_18 (by decide) (⟨by exact hKm, by exact Or.inr ⟨fun h => absurd (hmz.mpr h) (by omega), rfl, hKm.elim (fun h => absurd h (by omega)) (fun h => h.2)⟩, Sm_refl, Fm_refl⟩)
  · refine pw_iconst C dX11_hasMiddle_8 ?_
    exact pw_zretI C dX11_hasMiddle_9 (by decide) (⟨by exact hKm, by exact Or.inl ⟨hmz.mp (by omega), rfl⟩, Sm_refl, Fm_refl⟩)
set_option maxHeartbeats 4000000 in
set_option maxRecDepth 100000 in
theorem c_X11_middle (l : Launch) (K : KX) (M : Mem) (hW : WfK (cfM M)) (hKm : M 43 14 = 0 ∨ (M 43 14 = 1 ∧ MdS (cfM M) (M 43 30) (M 43 29) (M 58))) : MCi l K LAY yX11_middle cX11_middle 1 (some .int) 12 [rV K 43] M (fun r M' => (PMs (cfM M) r) ∧ (M' 43 0 = 0) ∧ (M' 43 14 = 0 ∨ (M' 43 14 = 1 ∧ MdS (cfM M) (M' 43 30) (M' 43 29) (M' 58))) ∧ Sm [43, 57, 58, 59] M M' ∧ Fm [0, 14, 29, 30] M M') := by
  refine mci_intro RX11 rfl [some (rV K 43)] rfl (by decide +kernel) (cat_r cat_nil) (Nat.le_of_ble_eq_true rfl) (fun X hX C => ?_)
  subst hX
  have w_let := wm_let hW
  have w_sw := wm_sw hW
  have w_dr := wm_dr hW
  have w_w := wm_w hW
  have w_l := wm_l hW
  have w_l1 := wm_l1 hW
  have ec0 : cfM (up2 M 43 0 0) = cfM M := cfM_e (rd_ne (by decide)) (rd_ne (by decide)) (rd_ne (by decide)) (rd_ne (by decide)) (rd_ne (by decide)) (rd_ne (by decide)) (rd_ne (by decide)) (up2_ne (by decide)) (up2_ne (by decide)) (up2_ne (by decide)) (up2_ne (by decide)) (up2_ne (by decide))
  refine pw_aload0 C dX11_middle_0 ?_
  refine pw_iconst C dX11_middle_1 ?_
  refine p_43_0 C fl_X11_1 dX11_middle_2 ?_
  refine pw_aload0 C dX11_middle_5 ?_
  have nz6_58 : (up2 M 43 0 0) 58 = M 58 := (up2_ne (by decide))
  refine pw_cVi0 C (c_X11_hasMiddle _ K _ (by rw [ec0]; exact hW) (by rw [ec0, rd_ne (by decide), rd_ne (by decide), rd_ne (by decide), up2_ne (by decide)]; exact hKm)) cb_X11_hasMiddle lay_43 kc_11 rfl ml_X11_207 dX11_middle_6 (by decide) (Nat.le_of_ble_eq_true rfl) (fun r6 M6 hQ => ?_)
  obtain ⟨hK_6, hp_6, hF6, hJ6⟩ := hQ
  rw [ec0] at hp_6 hK_6
  have h01 : r6 = 0 ∨ r6 = 1 := by rcases hp_6 with q | q; omega; omega
  refine pw_if_eq (tgt := 19) C dX11_middle_9 (by decide) (by omega) (fun h9 => ?_) (fun h9 => ?_)
  · have hz9 : nrB (cfM M) = 0 := hp_6.elim (fun h => h.1) (fun h => absurd h.2.1 (by omega))
    refine pw_iconst C dX11_middle_19 ?_
    exact pw_iretI C dX11_middle_20 (⟨by first | exact Or.inl ⟨hz9, rfl⟩ | exact Or.inr ⟨hm9.1, _, _, hm9.2.2⟩, by rw [hJ6 0 (by decide)]; exact rd_eq, by exact hK_6, (Sm_trans (Sm_up Sm_refl (by decide)) hF6 (by decide)), (Fm_tr (Fm_up Fm_refl (by decide)) hJ6 (by decide))⟩)
  · have hm9 := hp_6.elim (fun h => absurd h.2 h9) id
    have hmr := MdS_rng hW hm9.2.2
    refine pw_aload0 C dX11_middle_12 ?_
    refine g_43_30 C fl_X11_198 dX11_middle_13 ?_
    refine pw_goto (tgt := 20) C dX11_middle_16 (by decide) ?_
    exact pw_iretI C dX11_middle_20 (⟨by first | exact Or.inl ⟨hz9, rfl⟩ | exact Or.inr ⟨hm9.1, _, _, hm9.2.2⟩, by rw [hJ6 0 (by decide)]; exact rd_eq, by exact hK_6, (Sm_trans (Sm_up Sm_refl (by decide)) hF6 (by decide)), (Fm_tr (Fm_up Fm_refl (by decide)) hJ6 (by decide))⟩)
set_option maxHeartbeats 4000000 in
set_option maxRecDepth 100000 in
theorem c_X11_middleLength (l : Launch) (K : KX) (M : Mem) (hW : WfK (cfM M)) (hKm : M 43 14 = 0 ∨ (M 43 14 = 1 ∧ MdS (cfM M) (M 43 30) (M 43 29) (M 58))) : MCi l K LAY yX11_middleLength cX11_middleLength 1 (some .int) 12 [rV K 43] M (fun r M' => (PMl (cfM M) r) ∧ (M' 43 0 = 0) ∧ (M' 43 14 = 0 ∨ (M' 43 14 = 1 ∧ MdS (cfM M) (M' 43 30) (M' 43 29) (M' 58))) ∧ Sm [43, 57, 58, 59] M M' ∧ Fm [0, 14, 29, 30] M M') := by
  refine mci_intro RX11 rfl [some (rV K 43)] rfl (by decide +kernel) (cat_r cat_nil) (Nat.le_of_ble_eq_true rfl) (fun X hX C => ?_)
  subst hX
  have w_let := wm_let hW
  have w_sw := wm_sw hW
  have w_dr := wm_dr hW
  have w_w := wm_w hW
  have w_l := wm_l hW
  have w_l1 := wm_l1 hW
  have ec0 : cfM (up2 M 43 0 0) = cfM M := cfM_e (rd_ne (by decide)) (rd_ne (by decide)) (rd_ne (by decide)) (rd_ne (by decide)) (rd_ne (by decide)) (rd_ne (by decide)) (rd_ne (by decide)) (up2_ne (by decide)) (up2_ne (by decide)) (up2_ne (by decide)) (up2_ne (by decide)) (up2_ne (by decide))
  refine pw_aload0 C dX11_middleLength_0 ?_
  refine pw_iconst C dX11_middleLength_1 ?_
  refine p_43_0 C fl_X11_1 dX11_middleLength_2 ?_
  refine pw_aload0 C dX11_middleLength_5 ?_
  have nz6_58 : (up2 M 43 0 0) 58 = M 58 := (up2_ne (by decide))
  refine pw_cVi0 C (c_X11_hasMiddle _ K _ (by rw [ec0]; exact hW) (by rw [ec0, rd_ne (by decide), rd_ne (by decide), rd_ne (by decide), up2_ne (by decide)]; exact hKm)) cb_X11_hasMiddle lay_43 kc_11 rfl ml_X11_207 dX11_middleLength_6 (by decide) (Nat.le_of_ble_eq_true rfl) (fun r6 M6 hQ => ?_)
  obtain ⟨hK_6, hp_6, hF6, hJ6⟩ := hQ
  rw [ec0] at hp_6 hK_6
  have h01 : r6 = 0 ∨ r6 = 1 := by rcases hp_6 with q | q; omega; omega
  refine pw_if_eq (tgt := 19) C dX11_middleLength_9 (by decide) (by omega) (fun h9 => ?_) (fun h9 => ?_)
  · have hz9 : nrB (cfM M) = 0 := hp_6.elim (fun h => h.1) (fun h => absurd h.2.1 (by omega))
    refine pw_iconst C dX11_middleLength_19 ?_
    exact pw_iretI C dX11_middleLength_20 (⟨by first | exact Or.inl ⟨hz9, rfl⟩ | exact Or.inr ⟨hm9.1, _, _, hm9.2.2⟩, by rw [hJ6 0 (by decide)]; exact rd_eq, by exact hK_6, (Sm_trans (Sm_up Sm_refl (by decide)) hF6 (by decide)), (Fm_tr (Fm_up Fm_refl (by decide)) hJ6 (by decide))⟩)
  · have hm9 := hp_6.elim (fun h => absurd h.2 h9) id
    have hmr := MdS_rng hW hm9.2.2
    refine pw_aload0 C dX11_middleLength_12 ?_
    refine g_43_29 C fl_X11_195 dX11_middleLength_13 ?_
    refine pw_goto (tgt := 20) C dX11_middleLength_16 (by decide) ?_
    exact pw_iretI C dX11_middleLength_20 (⟨by first | exact Or.inl ⟨hz9, rfl⟩ | exact Or.inr ⟨hm9.1, _, _, hm9.2.2⟩, by rw [hJ6 0 (by decide)]; exact rd_eq, by exact hK_6, (Sm_trans (Sm_up Sm_refl (by decide)) hF6 (by decide)), (Fm_tr (Fm_up Fm_refl (by decide)) hJ6 (by decide))⟩)
set_option maxHeartbeats 4000000 in
set_option maxRecDepth 100000 in
theorem c_X11_middleAt (l : Launch) (K : KX) (M : Mem) (i : Int) (hW : WfK (cfM M)) (hKm : M 43 14 = 0 ∨ (M 43 14 = 1 ∧ MdS (cfM M) (M 43 30) (M 43 29) (M 58))) (hi : -2147483648 ≤ i ∧ i ≤ 2147483647) : MCi l K LAY yX11_middleAt cX11_middleAt 2 (some .int) 12 [rV K 43, iV i] M (fun r M' => (PMa (cfM M) i r) ∧ (M' 43 0 = 0) ∧ (M' 43 14 = 0 ∨ (M' 43 14 = 1 ∧ MdS (cfM M) (M' 43 30) (M' 43 29) (M' 58))) ∧ Sm [43, 57, 58, 59] M M' ∧ Fm [0, 14, 29, 30] M M') := by
  refine mci_intro RX11 rfl [some (rV K 43), some (iV i)] rfl (by decide +kernel) (cat_r (cat_i cat_nil)) (Nat.le_of_ble_eq_true rfl) (fun X hX C => ?_)
  subst hX
  have w_let := wm_let hW
  have w_sw := wm_sw hW
  have w_dr := wm_dr hW
  have w_w := wm_w hW
  have w_l := wm_l hW
  have w_l1 := wm_l1 hW
  have ec0 : cfM (up2 M 43 0 0) = cfM M := cfM_e (rd_ne (by decide)) (rd_ne (by decide)) (rd_ne (by decide)) (rd_ne (by decide)) (rd_ne (by decide)) (rd_ne (by decide)) (rd_ne (by decide)) (up2_ne (by decide)) (up2_ne (by decide)) (up2_ne (by decide)) (up2_ne (by decide)) (up2_ne (by decide))
  refine pw_aload0 C dX11_middleAt_0 ?_
  refine pw_iconst C dX11_middleAt_1 ?_
  refine p_43_0 C fl_X11_1 dX11_middleAt_2 ?_
  refine pw_aload0 C dX11_middleAt_5 ?_
  have nz6_58 : (up2 M 43 0 0) 58 = M 58 := (up2_ne (by decide))
  refine pw_cVi0 C (c_X11_hasMiddle _ K _ (by rw [ec0]; exact hW) (by rw [ec0, rd_ne (by decide), rd_ne (by decide), rd_ne (by decide), up2_ne (by decide)]; exact hKm)) cb_X11_hasMiddle lay_43 kc_11 rfl ml_X11_207 dX11_middleAt_6 (by decide) (Nat.le_of_ble_eq_true rfl) (fun r6 M6 hQ => ?_)
  obtain ⟨hK_6, hp_6, hF6, hJ6⟩ := hQ
  rw [ec0] at hp_6 hK_6
  have h01 : r6 = 0 ∨ r6 = 1 := by rcases hp_6 with q | q; omega; omega
  refine pw_if_eq (tgt := 33) C dX11_middleAt_9 (by decide) (by omega) (fun h9 => ?_) (fun h9 => ?_)
  · have hz9 : nrB (cfM M) = 0 := hp_6.elim (fun h => h.1) (fun h => absurd h.2.1 (by omega))
    refine pw_iconst C dX11_middleAt_33 ?_
    exact pw_iretI C dX11_middleAt_34 (⟨by
          first
            | exact Or.inl ⟨hz9, rfl⟩
            | (refine Or.inr ⟨hm9.1, _, _, _, hm9.2.2, ?_⟩
               first | rw [if_pos (by omega)] | rw [if_neg (by omega)]), by rw [hJ6 0 (by decide)]; exact rd_eq, by exact hK_6, (Sm_trans (Sm_up Sm_refl (by decide)) hF6 (by decide)), (Fm_tr (Fm_up Fm_refl (by decide)) hJ6 (by decide))⟩)
  · have hm9 := hp_6.elim (fun h => absurd h.2 h9) id
    have hmr := MdS_rng hW hm9.2.2
    refine pw_iload1 C dX11_middleAt_12 ?_
    refine pw_if_lt (tgt := 33) C dX11_middleAt_13 (by decide) (by omega) (fun h13 => ?_) (fun h13 => ?_)
    · refine pw_iconst C dX11_middleAt_33 ?_
      exact pw_iretI C dX11_middleAt_34 (⟨by
            first
              | exact Or.inl ⟨hz9, rfl⟩
              | (refine Or.inr ⟨hm9.1, _, _, _, hm9.2.2, ?_⟩
                 first | rw [if_pos (by omega)] | rw [if_neg (by omega)]), by rw [hJ6 0 (by decide)]; exact rd_eq, by exact hK_6, (Sm_trans (Sm_up Sm_refl (by decide)) hF6 (by decide)), (Fm_tr (Fm_up Fm_refl (by decide)) hJ6 (by decide))⟩)
    · refine pw_iload1 C dX11_middleAt_16 ?_
      refine pw_aload0 C dX11_middleAt_17 ?_
      refine g_43_29 C fl_X11_195 dX11_middleAt_18 ?_
      refine pw_icmp_ge (tgt := 33) C dX11_middleAt_21 (by decide) (by omega) (by omega) (fun h21 => ?_) (fun h21 => ?_)
      · refine pw_iconst C dX11_middleAt_33 ?_
        exact pw_iretI C dX11_middleAt_34 (⟨by
              first
                | exact Or.inl ⟨hz9, rfl⟩
                | (refine Or.inr ⟨hm9.1, _, _, _, hm9.2.2, ?_⟩
                   first | rw [if_pos (by omega)] | rw [if_neg (by omega)]), by rw [hJ6 0 (by decide)]; exact rd_eq, by exact hK_6, (Sm_trans (Sm_up Sm_refl (by decide)) hF6 (by decide)), (Fm_tr (Fm_up Fm_refl (by decide)) hJ6 (by decide))⟩)
      · refine pw_aload0 C dX11_middleAt_24 ?_
        refine g_43_28 C fl_X11_65 dX11_middleAt_25 ?_
        refine pw_iload1 C dX11_middleAt_28 ?_
        refine pw_baload C lay_58 (by omega) (by decide) dX11_middleAt_29 ?_
        refine pw_goto (tgt := 34) C dX11_middleAt_30 (by decide) ?_
        exact pw_iretI C dX11_middleAt_34 (⟨by
              first
                | exact Or.inl ⟨hz9, rfl⟩
                | (refine Or.inr ⟨hm9.1, _, _, _, hm9.2.2, ?_⟩
                   first | rw [if_pos (by omega)] | rw [if_neg (by omega)]), by rw [hJ6 0 (by decide)]; exact rd_eq, by exact hK_6, (Sm_trans (Sm_up Sm_refl (by decide)) hF6 (by decide)), (Fm_tr (Fm_up Fm_refl (by decide)) hJ6 (by decide))⟩)
set_option maxHeartbeats 4000000 in
set_option maxRecDepth 100000 in
theorem c_X11_editsFrom (l : Launch) (K : KX) (M : Mem) (w : Int) (hW : WfK (cfM M)) (hw : -2147483648 ≤ w ∧ w ≤ 2147483647) (hts : 0 ≤ M 43 17 ∧ M 43 17 ≤ 40) (htb : ∀ j, 0 ≤ j → j < M 43 17 → -128 ≤ M 49 j ∧ M 49 j ≤ 127) : MCi l K LAY yX11_editsFrom cX11_editsFrom 3 (some .int) 4 [rV K 43, iV w] M (fun r M' => (M' 43 0 = 0) ∧ (M' 43 17 = 0) ∧ (PEf (cfM M) (M 43 17) (M 49) w r) ∧ Sm [43, 50, 56] M M' ∧ Fm [0, 17, 19] M M') := by
  refine mci_intro RX11 rfl [some (rV K 43), some (iV w), none] rfl (by decide +kernel) (cat_r (cat_i cat_nil)) (Nat.le_of_ble_eq_true rfl) (fun X hX C => ?_)
  subst hX
  have w_let := wm_let hW
  have w_sw := wm_sw hW
  have w_dr := wm_dr hW
  have w_w := wm_w hW
  have w_l := wm_l hW
  have w_l1 := wm_l1 hW
  refine pw_aload0 C dX11_editsFrom_0 ?_
  refine pw_iconst C dX11_editsFrom_1 ?_
  refine p_43_0 C fl_X11_1 dX11_editsFrom_2 ?_
  refine pw_aload0 C dX11_editsFrom_5 ?_
  refine pw_iconst C dX11_editsFrom_6 ?_
  refine pw_bipush C dX11_editsFrom_7 (by decide) ?_
  have nz9_49 : (up2 M 43 0 0) 49 = M 49 := (up2_ne (by decide))
  refine pw_cVi2 C (c_X11_takes _ K _ _ _ (by omega) (by omega) (by rw [rd_ne (by decide)]; omega) (by rw [rd_ne (by decide)]; omega) (by rw [nz9_49, rd_ne (by decide)]; exact htb)) cb_X11_takes lay_43 kc_11 rfl ml_X11_106 dX11_editsFrom_9 (by decide) (Nat.le_of_ble_eq_true rfl) (fun r9 M9 hQ => ?_)
  obtain ⟨h1_9, h2_9, h3_9, hp_9, hF9, hJ9⟩ := hQ
  rw [rd_ne (by decide), rd_ne (by decide), up2_ne (by decide)] at hp_9
  have hr01 : r9 = 0 ∨ r9 = 1 := hp_9.elim (fun h => Or.inr h.2) (fun h => Or.inl h.2)
  have h2n : M9 43 19 = M 43 17 := by rw [h2_9, rd_ne (by decide)]
  refine pw_istore2 C (by decide) dX11_editsFrom_12 ?_
  refine pw_iload2 C dX11_editsFrom_13 ?_
  refine pw_if_eq (tgt := 53) C dX11_editsFrom_14 (by decide) (by omega) (fun h14 => ?_) (fun h14 => ?_)
  · have hno : ¬ ((1 ≤ M 43 17 ∧ M 43 17 ≤ 8) ∧ allL (M 49) (M 43 1) (M 43 17)) := hp_9.elim (fun h => absurd h.2 (by omega)) (fun h => h.1)
    refine pw_iconst C dX11_editsFrom_53 ?_
    exact pw_iretI C dX11_editsFrom_54 (⟨by first | (rw [hJ9 0 (by decide)]; exact rd_eq) | (rw [hF47 43 (by decide), hJ9 0 (by decide)]; exact rd_eq), by first | exact h1_9 | (rw [hF47 43 (by decide)]; exact h1_9), by
          first
            | exact Or.inr ⟨fun h => hno ⟨h.2.2, h.1⟩, rfl⟩
            | exact Or.inr ⟨fun h => e22 h.2.1, rfl⟩
            | (refine Or.inl ⟨⟨hal, e22, hok.1⟩, ?_⟩
               rw [h1_47, hF9 44 (by decide), up2_ne (by decide), hF9 45 (by decide), up2_ne (by decide), hJ9 4 (by decide), rd_ne (by decide), Int.mul_comm 7 w]
               refine edI_congr (n := M 43 17) (m := M 43 7) (fun i q1 q2 => ?_) (fun _ _ _ => rfl) (M 43 17) (by omega) (Int.le_refl _) (M 43 7) (by omega) (Int.le_refl _)
               rw [Int.zero_add, h3_9 i q1 (by rw [rd_ne (by decide)]; omega), up2_ne (by decide)]
               have := hal i q1 (by omega)
               exact bmod_id (by omega)), (Sm_trans (Sm_up Sm_refl (by decide)) hF9 (by decide)), (Fm_tr (Fm_up Fm_refl (by decide)) hJ9 (by decide))⟩)
  · have hok := hp_9.elim (fun h => h.1) (fun h => absurd h.2 h14)
    have hal : allL (M 49) (M 43 1) (M 43 17) := hok.2
    refine pw_aload0 C dX11_editsFrom_17 ?_
    refine pw_iload1 C dX11_editsFrom_18 ?_
    refine pw_cVi1 C (c_X11_isWord _ K _ _ (by omega) (by rw [hJ9 6 (by decide), rd_ne (by decide)]; omega)) cb_X11_isWord lay_43 kc_11 rfl ml_X11_113 dX11_editsFrom_19 (by decide) (Nat.le_of_ble_eq_true rfl) (fun r19 M19 hQ => ?_)
    obtain ⟨rfl, hMe⟩ := hQ
    replace hMe := hMe.symm
    subst hMe
    rw [hJ9 6 (by decide), rd_ne (by decide)]
    refine pw_if_eq (tgt := 53) C dX11_editsFrom_22 (by decide) (by split <;> omega) (fun h22 => ?_) (fun h22 => ?_)
    · have e22 : ¬ (0 ≤ w ∧ w < M 43 6) := fun h => by rw [if_pos h] at h22; omega
      refine pw_iconst C dX11_editsFrom_53 ?_
      exact pw_iretI C dX11_editsFrom_54 (⟨by first | (rw [hJ9 0 (by decide)]; exact rd_eq) | (rw [hF47 43 (by decide), hJ9 0 (by decide)]; exact rd_eq), by first | exact h1_9 | (rw [hF47 43 (by decide)]; exact h1_9), by
            first
              | exact Or.inr ⟨fun h => hno ⟨h.2.2, h.1⟩, rfl⟩
              | exact Or.inr ⟨fun h => e22 h.2.1, rfl⟩
              | (refine Or.inl ⟨⟨hal, e22, hok.1⟩, ?_⟩
                 rw [h1_47, hF9 44 (by decide), up2_ne (by decide), hF9 45 (by decide), up2_ne (by decide), hJ9 4 (by decide), rd_ne (by decide), Int.mul_comm 7 w]
                 refine edI_congr (n := M 43 17) (m := M 43 7) (fun i q1 q2 => ?_) (fun _ _ _ => rfl) (M 43 17) (by omega) (Int.le_refl _) (M 43 7) (by omega) (Int.le_refl _)
                 rw [Int.zero_add, h3_9 i q1 (by rw [rd_ne (by decide)]; omega), up2_ne (by decide)]
                 have := hal i q1 (by omega)
                 exact bmod_id (by omega)), (Sm_trans (Sm_up Sm_refl (by decide)) hF9 (by decide)), (Fm_tr (Fm_up Fm_refl (by decide)) hJ9 (by decide))⟩)
    · have e22 : (0 ≤ w ∧ w < M 43 6) := Decidable.byContradiction fun h => by rw [if_neg h] at h22; omega
      refine pw_aload0 C dX11_editsFrom_25 ?_
      refine pw_aload0 C dX11_editsFrom_26 ?_
      refine g_43_18 C fl_X11_39 dX11_editsFrom_27 ?_
      refine pw_iconst C dX11_editsFrom_30 ?_
      refine pw_aload0 C dX11_editsFrom_31 ?_
      refine g_43_19 C fl_X11_103 dX11_editsFrom_32 ?_
      refine pw_top C (M 43 17) h2n ?_
      refine pw_aload0 C dX11_editsFrom_35 ?_
      refine g_43_8 C fl_X11_23 dX11_editsFrom_36 ?_
      refine pw_bipush C dX11_editsFrom_39 (by decide) ?_
      refine pw_iload1 C dX11_editsFrom_41 ?_
      refine pw_imul C dX11_editsFrom_42 ?_
      refine pw_aload0 C dX11_editsFrom_43 ?_
      refine g_43_7 C fl_X11_110 dX11_editsFrom_44 ?_
      refine pw_top C _ (hJ9 7 (by decide)) ?_
      refine pw_top C _ (rd_ne (by decide)) ?_
      have nz47_44 : M9 44 = M 44 := ((hF9 44 (by decide)).trans (up2_ne (by decide)))
      refine pw_cVi6 C (c_X11_edits _ K _ 50 45 _ _ _ _ _ _ (lay_50) (lay_45) (by decide) (by decide) (by decide) (by decide) (by omega) (by omega) (by omega) (by omega) (by intro p h1 h2; rw [Int.zero_add, h3_9 p h1 (by rw [rd_ne (by decide)]; omega), up2_ne (by decide)]; have := hal p h1 (by omega); rw [bmod_id (by omega)]; omega) (by rw [hF9 45 (by decide), up2_ne (by decide)]; intro p h1 h2; have := wm_wl hW w p (by omega) (by omega) h1 (by omega); rw [Int.mul_comm 7]; omega) (by rw [hF9 44 (by decide), up2_ne (by decide)]; exact wm_pr hW) (by rw [hJ9 4 (by decide), rd_ne (by decide)]; omega)) cb_X11_edits lay_43 kc_11 rfl ml_X11_191 dX11_editsFrom_47 (by decide) (Nat.le_of_ble_eq_true rfl) (fun r47 M47 hQ => ?_)
      obtain ⟨h1_47, hF47⟩ := hQ
      refine pw_goto (tgt := 54) C dX11_editsFrom_50 (by decide) ?_
      exact pw_iretI C dX11_editsFrom_54 (⟨by first | (rw [hJ9 0 (by decide)]; exact rd_eq) | (rw [hF47 43 (by decide), hJ9 0 (by decide)]; exact rd_eq), by first | exact h1_9 | (rw [hF47 43 (by decide)]; exact h1_9), by
            first
              | exact Or.inr ⟨fun h => hno ⟨h.2.2, h.1⟩, rfl⟩
              | exact Or.inr ⟨fun h => e22 h.2.1, rfl⟩
              | (refine Or.inl ⟨⟨hal, e22, hok.1⟩, ?_⟩
                 rw [h1_47, hF9 44 (by decide), up2_ne (by decide), hF9 45 (by decide), up2_ne (by decide), hJ9 4 (by decide), rd_ne (by decide), Int.mul_comm 7 w]
                 refine edI_congr (n := M 43 17) (m := M 43 7) (fun i q1 q2 => ?_) (fun _ _ _ => rfl) (M 43 17) (by omega) (Int.le_refl _) (M 43 7) (by omega) (Int.le_refl _)
                 rw [Int.zero_add, h3_9 i q1 (by rw [rd_ne (by decide)]; omega), up2_ne (by decide)]
                 have := hal i q1 (by omega)
                 exact bmod_id (by omega)), (Sm_trans (Sm_trans (Sm_up Sm_refl (by decide)) hF9 (by decide)) hF47 (by decide)), (Fm_fr (Fm_tr (Fm_up Fm_refl (by decide)) hJ9 (by decide)) hF47 (by decide))⟩)
