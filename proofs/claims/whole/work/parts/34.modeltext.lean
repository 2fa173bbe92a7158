set_option maxHeartbeats 4000000 in
set_option maxRecDepth 100000 in
theorem c_X11_text (l : Launch) (K : KX) (M : Mem) (hW : WfK (cfM M)) (hts : 0 ≤ M 43 17 ∧ M 43 17 ≤ 40) (htb : ∀ j, 0 ≤ j → j < M 43 17 → -128 ≤ M 49 j ∧ M 49 j ≤ 127) : MCi l K LAY yX11_text cX11_text 2 (some .int) 3 [rV K 43] M (fun r M' => (M' 43 0 = 0) ∧ (M' 43 17 = 0) ∧ (((allL (M 49) (M 43 1) (M 43 17) ∧ (1 ≤ M 43 17 ∧ M 43 17 ≤ 24) ∧ M 43 10 < 5) ∧ r = M 43 10 ∧ M' 43 10 = M 43 10 + 1 ∧ (∀ j, M' 47 j = if M 43 10 * 24 ≤ j ∧ j < M 43 10 * 24 + M 43 17 then M 49 (j - M 43 10 * 24) - 97 else M 47 j) ∧ (∀ j, M' 48 j = if j = M 43 10 then M 43 17 else M 48 j) ∧ M' 43 13 = 0 ∧ M' 43 14 = 0 ∧ M' 43 15 = 0) ∨ (¬ (allL (M 49) (M 43 1) (M 43 17) ∧ (1 ≤ M 43 17 ∧ M 43 17 ≤ 24) ∧ M 43 10 < 5) ∧ r = -1 ∧ Sm [43, 50] M M' ∧ Fm [0, 17, 19] M M')) ∧ Sm [43, 47, 48, 50] M M' ∧ Fm [0, 10, 13, 14, 15, 17, 19] M M') := by
  refine mci_intro RX11 rfl [some (rV K 43), none] rfl (by decide +kernel) (cat_r cat_nil) (Nat.le_of_ble_eq_true rfl) (fun X hX C => ?_)
  subst hX
  have w_let := wm_let hW
  have w_sw := wm_sw hW
  have w_dr := wm_dr hW
  have w_gp := wm_gp hW
  have w_w := wm_w hW
  have w_l := wm_l hW
  have w_l1 := wm_l1 hW
  have w_t := wm_t hW
  refine pw_aload0 C dX11_text_0 ?_
  refine pw_iconst C dX11_text_1 ?_
  refine p_43_0 C fl_X11_1 dX11_text_2 ?_
  refine pw_aload0 C dX11_text_5 ?_
  refine pw_iconst C dX11_text_6 ?_
  refine pw_bipush C dX11_text_7 (by decide) ?_
  have nz9_49 : (up2 M 43 0 0) 49 = M 49 := (up2_ne (by decide))
  refine pw_cVi2 C (c_X11_takes _ K _ _ _ (by first | omega | (simp only [nz9_49]; omega)) (by first | omega | (simp only [nz9_49]; omega)) (by rw [rd_ne (by decide)]; omega) (by rw [rd_ne (by decide)]; omega) (by rw [nz9_49, rd_ne (by decide)]; exact htb)) cb_X11_takes lay_43 kc_11 rfl ml_X11_106 dX11_text_9 (by decide) (Nat.le_of_ble_eq_true rfl) (fun r9 M9 hQ => ?_)
  obtain ⟨h1_9, h2_9, h3_9, hp_9, hF9, hJ9⟩ := hQ
  rw [rd_ne (by decide), rd_ne (by decide), up2_ne (by decide)] at hp_9
  have hg01 : r9 = 0 ∨ r9 = 1 := hp_9.elim (fun h => Or.inr h.2) (fun h => Or.inl h.2)
  refine pw_if_eq (tgt := 23) C dX11_text_12 (by decide) (by omega) (fun h12 => ?_) (fun h12 => ?_)
  · refine pw_iconst C dX11_text_23 ?_
    exact pw_iretI C dX11_text_24 (⟨by rw [hJ9 0 (by decide)]; exact rd_eq, by exact h1_9, by
          first
            | (refine Or.inr ⟨fun h => ?_, rfl, Sm_trans (Sm_up Sm_refl (by decide)) hF9 (by decide), Fm_tr (Fm_up Fm_refl (by decide)) hJ9 (by decide)⟩; rcases hp_9 with q | q; omega; exact q.1 ⟨by omega, h.1⟩)
            | exact Or.inr ⟨fun h => by omega, rfl, Sm_trans (Sm_up Sm_refl (by decide)) hF9 (by decide), Fm_tr (Fm_up Fm_refl (by decide)) hJ9 (by decide)⟩, (Sm_trans (Sm_up Sm_refl (by decide)) hF9 (by decide)), (Fm_tr (Fm_up Fm_refl (by decide)) hJ9 (by decide))⟩)
  · have hok := hp_9.elim (fun h => h.1) (fun h => absurd h.2 h12)
    have hal : allL (M 49) (M 43 1) (M 43 17) := hok.2
    refine pw_aload0 C dX11_text_15 ?_
    refine g_43_10 C fl_X11_88 dX11_text_16 ?_
    refine pw_top C _ (hJ9 10 (by decide)) ?_
    refine pw_top C _ (rd_ne (by decide)) ?_
    refine pw_iconst C dX11_text_19 ?_
    refine pw_icmp_ne (tgt := 25) C dX11_text_20 (by decide) (by omega) (by omega) (fun h20 => ?_) (fun h20 => ?_)
    · refine pw_iconst C dX11_text_25 ?_
      refine pw_istore1 C (by decide) dX11_text_26 ?_
      have cut_27 : ∀ (fu : Nat) (k : Int) (M2 : Mem), Sm [43, 47, 50] M M2 → Fm [0, 17, 19] M M2 → (0 ≤ k ∧ k ≤ M 43 17) → (M2 43 0 = 0) → (M2 43 17 = 0) → (M2 43 19 = M 43 17) → (∀ j, 0 ≤ j → j < M 43 17 → M2 50 j = M 49 j - 97) → (∀ j, M2 47 j = if M 43 10 * 24 ≤ j ∧ j < M 43 10 * 24 + k then M 49 (j - M 43 10 * 24) - 97 else M 47 j) → (M 43 17 - k).toNat < fu → PW X K LAY 2 (0, 0) (Zi X K LAY (fun r M' => (M' 43 0 = 0) ∧ (M' 43 17 = 0) ∧ (((allL (M 49) (M 43 1) (M 43 17) ∧ (1 ≤ M 43 17 ∧ M 43 17 ≤ 24) ∧ M 43 10 < 5) ∧ r = M 43 10 ∧ M' 43 10 = M 43 10 + 1 ∧ (∀ j, M' 47 j = if M 43 10 * 24 ≤ j ∧ j < M 43 10 * 24 + M 43 17 then M 49 (j - M 43 10 * 24) - 97 else M 47 j) ∧ (∀ j, M' 48 j = if j = M 43 10 then M 43 17 else M 48 j) ∧ M' 43 13 = 0 ∧ M' 43 14 = 0 ∧ M' 43 15 = 0) ∨ (¬ (allL (M 49) (M 43 1) (M 43 17) ∧ (1 ≤ M 43 17 ∧ M 43 17 ≤ 24) ∧ M 43 10 < 5) ∧ r = -1 ∧ Sm [43, 50] M M' ∧ Fm [0, 17, 19] M M')) ∧ Sm [43, 47, 48, 50] M M' ∧ Fm [0, 10, 13, 14, 15, 17, 19] M M')) 27 [some (rV K 43), some (iV k)] [] M2 := by
        intro fu
        induction fu with
        | zero => intro _ _ _ _ _ _ _ _ _ _ hm; exact absurd hm (Nat.not_lt_zero _)
        | succ fu ih =>
          intro k M2 hF27 hJ27 hk u0 u1 u2 u3 u4 hm
          have ih_27 := ih
          have hm_27 := hm
          refine pw_iload1 C dX11_text_27 ?_
          refine pw_aload0 C dX11_text_28 ?_
          refine g_43_19 C fl_X11_103 dX11_text_29 ?_
          refine pw_top C (M 43 17) u2 ?_
          refine pw_icmp_ge (tgt := 61) C dX11_text_32 (by decide) (by omega) (by omega) (fun h32 => ?_) (fun h32 => ?_)
          · refine pw_aload0 C dX11_text_61 ?_
            refine g_43_12 C fl_X11_33 dX11_text_62 ?_
            refine pw_aload0 C dX11_text_65 ?_
            refine g_43_10 C fl_X11_88 dX11_text_66 ?_
            refine pw_top C _ (hJ27 10 (by decide)) ?_
            refine pw_aload0 C dX11_text_69 ?_
            refine g_43_19 C fl_X11_103 dX11_text_70 ?_
            refine pw_top C (M 43 17) u2 ?_
            refine pw_iastore C lay_48 (by omega) (by decide) dX11_text_73 ?_
            refine pw_aload0 C dX11_text_74 ?_
            refine pw_dup C rfl dX11_text_75 ?_
            refine g_43_10 C fl_X11_88 dX11_text_76 ?_
            refine pw_top C _ (rd_nc (by decide)) ?_
            refine pw_top C _ (hJ27 10 (by decide)) ?_
            refine pw_iconst C dX11_text_79 ?_
            refine pw_iadd C dX11_text_80 ?_
            refine p_43_10 C fl_X11_88 dX11_text_81 ?_
            refine pw_aload0 C dX11_text_84 ?_
            refine pw_cVv0 C (c_X11_changes _ K _ ) cb_X11_changes lay_43 kc_11 rfl ml_X11_91 dX11_text_85 (by decide) (Nat.le_of_ble_eq_true rfl) (fun M85 hQ => ?_)
            have hMe := hQ
            replace hMe := hMe.symm
            subst hMe
            refine pw_aload0 C dX11_text_88 ?_
            refine g_43_10 C fl_X11_88 dX11_text_89 ?_
            refine pw_top C _ (rd_ne (by decide)) ?_
            refine pw_top C _ (rd_ne (by decide)) ?_
            refine pw_top C _ (rd_ne (by decide)) ?_
            refine pw_top C _ rd_eq ?_
            refine pw_iconst C dX11_text_92 ?_
            refine pw_isub C dX11_text_93 ?_
            exact pw_iretI C dX11_text_94 (⟨by rw [rd_ne (by decide), rd_ne (by decide), rd_ne (by decide), rd_ne (by decide), rd_nc (by decide)]; exact u0, by rw [rd_ne (by decide), rd_ne (by decide), rd_ne (by decide), rd_ne (by decide), rd_nc (by decide)]; exact u1, by
                  refine Or.inl ⟨⟨hal, by omega, by omega⟩, by omega, ?_, ?_, ?_, ?_, ?_, ?_⟩
                  · rw [rd_ne (by decide), rd_ne (by decide), rd_ne (by decide)]; exact rd_eq
                  · intro j; rw [rd_nc (by decide), rd_nc (by decide), rd_nc (by decide), rd_nc (by decide), rd_nc (by decide), u4 j, show k = M 43 17 by omega]
                  · intro j; rw [rd_nc (by decide), rd_nc (by decide), rd_nc (by decide), rd_nc (by decide)]
                    by_cases q : j = M 43 10
                    · rw [if_pos q, q]; exact rd_eq
                    · rw [if_neg q, rd_ne q, hF27 48 (by decide)]
                  · rw [rd_ne (by decide), rd_ne (by decide)]; exact rd_eq
                  · rw [rd_ne (by decide)]; exact rd_eq
                  · exact rd_eq, (Sm_up (Sm_up (Sm_up (Sm_up (Sm_up (Sm_trans Sm_refl hF27 (by decide)) (by decide)) (by decide)) (by decide)) (by decide)) (by decide)), (Fm_up (Fm_up (Fm_up (Fm_up (Fm_nc (Fm_tr Fm_refl hJ27 (by decide)) (by decide)) (by decide)) (by decide)) (by decide)) (by decide))⟩)
          · have hlk := hal k (by omega) (by omega)
            refine pw_aload0 C dX11_text_35 ?_
            refine g_43_11 C fl_X11_30 dX11_text_36 ?_
            refine pw_bipush C dX11_text_39 (by decide) ?_
            refine pw_aload0 C dX11_text_41 ?_
            refine g_43_10 C fl_X11_88 dX11_text_42 ?_
            refine pw_top C _ (hJ27 10 (by decide)) ?_
            refine pw_imul C dX11_text_45 ?_
            refine pw_iload1 C dX11_text_46 ?_
            refine pw_iadd C dX11_text_47 ?_
            refine pw_aload0 C dX11_text_48 ?_
            refine g_43_18 C fl_X11_39 dX11_text_49 ?_
            refine pw_iload1 C dX11_text_52 ?_
            refine pw_baload C lay_50 (by omega) (by decide) dX11_text_53 ?_
            refine pw_top C (M 49 k - 97) (u3 k (by omega) (by omega)) ?_
            refine pw_bastore C lay_47 (by omega) (by decide) (by omega) dX11_text_54 ?_
            refine pw_iinc1 C (by decide) dX11_text_55 ?_
            refine pw_goto (tgt := 27) C dX11_text_58 (by decide) ?_
            exact ih_27 _ _ (Sm_up (Sm_trans Sm_refl hF27 (by decide)) (by decide)) (Fm_nc (Fm_tr Fm_refl hJ27 (by decide)) (by decide)) (by omega) (by rw [rd_nc (by decide)]; exact u0) (by rw [rd_nc (by decide)]; exact u1) (by rw [rd_nc (by decide)]; exact u2) (by intro j q1 q2; rw [rd_nc (by decide)]; exact u3 j q1 q2) (by
                  intro j
                  by_cases q : j = 24 * M 43 10 + k
                  · rw [q, rd_eq, if_pos (by omega), show 24 * M 43 10 + k - M 43 10 * 24 = k by omega]
                  · rw [rd_ne q, u4 j]
                    by_cases q2 : M 43 10 * 24 ≤ j ∧ j < M 43 10 * 24 + k
                    · rw [if_pos q2, if_pos (by omega)]
                    · rw [if_neg q2, if_neg (by omega)]) (by omega)
      exact cut_27 _ _ _ (Sm_trans (Sm_up Sm_refl (by decide)) hF9 (by decide)) (Fm_tr (Fm_up Fm_refl (by decide)) hJ9 (by decide)) (by omega) (by rw [hJ9 0 (by decide)]; exact rd_eq) (by exact h1_9) (by rw [h2_9, rd_ne (by decide)]) (by intro j q1 q2; rw [h3_9 j q1 (by rw [rd_ne (by decide)]; exact q2), up2_ne (by decide)]; have := hal j q1 q2; rw [bmod_id (by omega)]) (by intro j; rw [if_neg (by omega), hF9 47 (by decide), up2_ne (by decide)]) (Nat.lt_succ_self _)
    · refine pw_iconst C dX11_text_23 ?_
      exact pw_iretI C dX11_text_24 (⟨by rw [hJ9 0 (by decide)]; exact rd_eq, by exact h1_9, by
            first
              | (refine Or.inr ⟨fun h => ?_, rfl, Sm_trans (Sm_up Sm_refl (by decide)) hF9 (by decide), Fm_tr (Fm_up Fm_refl (by decide)) hJ9 (by decide)⟩; rcases hp_9 with q | q; omega; exact q.1 ⟨by omega, h.1⟩)
              | exact Or.inr ⟨fun h => by omega, rfl, Sm_trans (Sm_up Sm_refl (by decide)) hF9 (by decide), Fm_tr (Fm_up Fm_refl (by decide)) hJ9 (by decide)⟩, (Sm_trans (Sm_up Sm_refl (by decide)) hF9 (by decide)), (Fm_tr (Fm_up Fm_refl (by decide)) hJ9 (by decide))⟩)
