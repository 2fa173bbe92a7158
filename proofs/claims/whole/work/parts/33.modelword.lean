set_option maxHeartbeats 4000000 in
set_option maxRecDepth 100000 in
theorem c_X11_apart (l : Launch) (K : KX) (M : Mem) (a b : Int) (hW : WfK (cfM M)) (ha : -2147483648 ≤ a ∧ a ≤ 2147483647) (hb : -2147483648 ≤ b ∧ b ≤ 2147483647) : MCi l K LAY yX11_apart cX11_apart 3 (some .int) 3 [rV K 43, iV a, iV b] M (fun r M' => (M' 43 0 = 0) ∧ (r = if (0 ≤ a ∧ a < M 43 6) ∧ (0 ≤ b ∧ b < M 43 6) then dst (M 44) (M 43 3) (fun p => M 45 (a * 7 + p)) (fun p => M 45 (b * 7 + p)) (M 43 7) else -1) ∧ Sm [43, 51] M M' ∧ Fm [0] M M') := by
  refine mci_intro RX11 rfl [some (rV K 43), some (iV a), some (iV b)] rfl (by decide +kernel) (cat_r (cat_i (cat_i cat_nil))) (Nat.le_of_ble_eq_true rfl) (fun X hX C => ?_)
  subst hX
  have w_let := wm_let hW
  have w_sw := wm_sw hW
  have w_dr := wm_dr hW
  have w_gp := wm_gp hW
  have w_w := wm_w hW
  have w_l := wm_l hW
  have w_l1 := wm_l1 hW
  have w_t := wm_t hW
  refine pw_aload0 C dX11_apart_0 ?_
  refine pw_iconst C dX11_apart_1 ?_
  refine p_43_0 C fl_X11_1 dX11_apart_2 ?_
  refine pw_aload0 C dX11_apart_5 ?_
  refine pw_iload1 C dX11_apart_6 ?_
  refine pw_cVi1 C (c_X11_isWord _ K _ _ (by omega) (by rw [rd_ne (by decide)]; omega)) cb_X11_isWord lay_43 kc_11 rfl ml_X11_113 dX11_apart_7 (by decide) (Nat.le_of_ble_eq_true rfl) (fun r7 M7 hQ => ?_)
  obtain ⟨rfl, hMe⟩ := hQ
  replace hMe := hMe.symm
  subst hMe
  rw [rd_ne (by decide)]
  refine pw_if_eq (tgt := 48) C dX11_apart_10 (by decide) (by split <;> omega) (fun h10 => ?_) (fun h10 => ?_)
  · have e10 : ¬ (0 ≤ a ∧ a < M 43 6) := fun h => by rw [if_pos h] at h10; omega
    refine pw_iconst C dX11_apart_48 ?_
    exact pw_iretI C dX11_apart_49 (⟨by first | exact rd_eq | (rw [hF42 43 (by decide)]; exact rd_eq), by first | rw [if_neg (by omega)] | (rw [if_pos (by omega), up2_ne (by decide), rd_ne (by decide), up2_ne (by decide), Int.mul_comm 7 a, Int.mul_comm 7 b]), (Sm_up Sm_refl (by decide)), (Fm_up Fm_refl (by decide))⟩)
  · have e10 : (0 ≤ a ∧ a < M 43 6) := Decidable.byContradiction fun h => by rw [if_neg h] at h10; omega
    refine pw_aload0 C dX11_apart_13 ?_
    refine pw_iload2 C dX11_apart_14 ?_
    refine pw_cVi1 C (c_X11_isWord _ K _ _ (by omega) (by rw [rd_ne (by decide)]; omega)) cb_X11_isWord lay_43 kc_11 rfl ml_X11_113 dX11_apart_15 (by decide) (Nat.le_of_ble_eq_true rfl) (fun r15 M15 hQ => ?_)
    obtain ⟨rfl, hMe⟩ := hQ
    replace hMe := hMe.symm
    subst hMe
    rw [rd_ne (by decide)]
    refine pw_if_eq (tgt := 48) C dX11_apart_18 (by decide) (by split <;> omega) (fun h18 => ?_) (fun h18 => ?_)
    · have e18 : ¬ (0 ≤ b ∧ b < M 43 6) := fun h => by rw [if_pos h] at h18; omega
      refine pw_iconst C dX11_apart_48 ?_
      exact pw_iretI C dX11_apart_49 (⟨by first | exact rd_eq | (rw [hF42 43 (by decide)]; exact rd_eq), by first | rw [if_neg (by omega)] | (rw [if_pos (by omega), up2_ne (by decide), rd_ne (by decide), up2_ne (by decide), Int.mul_comm 7 a, Int.mul_comm 7 b]), (Sm_up Sm_refl (by decide)), (Fm_up Fm_refl (by decide))⟩)
    · have e18 : (0 ≤ b ∧ b < M 43 6) := Decidable.byContradiction fun h => by rw [if_neg h] at h18; omega
      refine pw_aload0 C dX11_apart_21 ?_
      refine pw_aload0 C dX11_apart_22 ?_
      refine g_43_8 C fl_X11_23 dX11_apart_23 ?_
      refine pw_bipush C dX11_apart_26 (by decide) ?_
      refine pw_iload1 C dX11_apart_28 ?_
      refine pw_imul C dX11_apart_29 ?_
      refine pw_aload0 C dX11_apart_30 ?_
      refine g_43_8 C fl_X11_23 dX11_apart_31 ?_
      refine pw_bipush C dX11_apart_34 (by decide) ?_
      refine pw_iload2 C dX11_apart_36 ?_
      refine pw_imul C dX11_apart_37 ?_
      refine pw_aload0 C dX11_apart_38 ?_
      refine g_43_7 C fl_X11_110 dX11_apart_39 ?_
      refine pw_top C _ (rd_ne (by decide)) ?_
      have nz42_44 : (up2 M 43 0 0) 44 = M 44 := (up2_ne (by decide))
      refine pw_cVi5 C (c_X11_distance _ K _ 45 45 _ _ _ _ _ (lay_45) (lay_45) (by decide) (by decide) (by decide) (by decide) (by omega) (by omega) (by omega) (by rw [up2_ne (by decide)]; intro p h1 h2; rw [show 7 * a + p = a * 7 + p by omega]; have := wm_wl hW a p (by omega) (by omega) (by omega) (by omega); omega) (by rw [up2_ne (by decide)]; intro p h1 h2; rw [show 7 * b + p = b * 7 + p by omega]; have := wm_wl hW b p (by omega) (by omega) (by omega) (by omega); omega) (by rw [up2_ne (by decide)]; exact wm_pr hW) (by rw [rd_ne (by decide)]; omega)) cb_X11_distance lay_43 kc_11 rfl ml_X11_123 dX11_apart_42 (by decide) (Nat.le_of_ble_eq_true rfl) (fun r42 M42 hQ => ?_)
      obtain ⟨rfl, hF42⟩ := hQ
      refine pw_goto (tgt := 49) C dX11_apart_45 (by decide) ?_
      exact pw_iretI C dX11_apart_49 (⟨by first | exact rd_eq | (rw [hF42 43 (by decide)]; exact rd_eq), by first | rw [if_neg (by omega)] | (rw [if_pos (by omega), up2_ne (by decide), rd_ne (by decide), up2_ne (by decide), Int.mul_comm 7 a, Int.mul_comm 7 b]), (Sm_trans (Sm_up Sm_refl (by decide)) hF42 (by decide)), (Fm_fr (Fm_up Fm_refl (by decide)) hF42 (by decide))⟩)
set_option maxHeartbeats 4000000 in
set_option maxRecDepth 100000 in
theorem c_X11_from (l : Launch) (K : KX) (M : Mem) (w : Int) (hW : WfK (cfM M)) (hw : -2147483648 ≤ w ∧ w ≤ 2147483647) (hts : 0 ≤ M 43 17 ∧ M 43 17 ≤ 40) (htb : ∀ j, 0 ≤ j → j < M 43 17 → -128 ≤ M 49 j ∧ M 49 j ≤ 127) : MCi l K LAY yX11_from cX11_from 3 (some .int) 3 [rV K 43, iV w] M (fun r M' => (M' 43 0 = 0) ∧ (M' 43 17 = 0) ∧ (((allL (M 49) (M 43 1) (M 43 17) ∧ (0 ≤ w ∧ w < M 43 6) ∧ M 43 17 = M 43 7) ∧ r = dst (M 44) (M 43 3) (fun p => M 49 p - 97) (fun p => M 45 (w * 7 + p)) (M 43 7)) ∨ (¬ (allL (M 49) (M 43 1) (M 43 17) ∧ (0 ≤ w ∧ w < M 43 6) ∧ M 43 17 = M 43 7) ∧ r = -1)) ∧ Sm [43, 50, 51] M M' ∧ Fm [0, 17, 19] M M') := by
  refine mci_intro RX11 rfl [some (rV K 43), some (iV w), none] rfl (by decide +kernel) (cat_r (cat_i cat_nil)) (Nat.le_of_ble_eq_true rfl) (fun X hX C => ?_)
  subst hX
  have w_let := wm_let hW
  have w_sw := wm_sw hW
  have w_dr := wm_dr hW
  have w_gp := wm_gp hW
  have w_w := wm_w hW
  have w_l := wm_l hW
  have w_l1 := wm_l1 hW
  have w_t := wm_t hW
  refine pw_aload0 C dX11_from_0 ?_
  refine pw_iconst C dX11_from_1 ?_
  refine p_43_0 C fl_X11_1 dX11_from_2 ?_
  refine pw_aload0 C dX11_from_5 ?_
  have cut_22 : ∀  (lo : Int), ((M 43 6 = 0 ∧ lo = 41) ∨ (M 43 6 ≠ 0 ∧ lo = M 43 7)) → PW X K LAY 3 (0, 0) (Zi X K LAY (fun r M' => (M' 43 0 = 0) ∧ (M' 43 17 = 0) ∧ (((allL (M 49) (M 43 1) (M 43 17) ∧ (0 ≤ w ∧ w < M 43 6) ∧ M 43 17 = M 43 7) ∧ r = dst (M 44) (M 43 3) (fun p => M 49 p - 97) (fun p => M 45 (w * 7 + p)) (M 43 7)) ∨ (¬ (allL (M 49) (M 43 1) (M 43 17) ∧ (0 ≤ w ∧ w < M 43 6) ∧ M 43 17 = M 43 7) ∧ r = -1)) ∧ Sm [43, 50, 51] M M' ∧ Fm [0, 17, 19] M M')) 22 [some (rV K 43), some (iV w), none] [iV lo, rV K 43] (up2 M 43 0 0) := by
    intro lo hlo
    refine pw_aload0 C dX11_from_22 ?_
    refine g_43_7 C fl_X11_110 dX11_from_23 ?_
    refine pw_top C _ (rd_ne (by decide)) ?_
    have nz26_49 : (up2 M 43 0 0) 49 = M 49 := (up2_ne (by decide))
    refine pw_cVi2 C (c_X11_takes _ K _ _ _ (by omega) (by omega) (by rw [rd_ne (by decide)]; omega) (by rw [rd_ne (by decide)]; omega) (by rw [nz26_49, rd_ne (by decide)]; exact htb)) cb_X11_takes lay_43 kc_11 rfl ml_X11_106 dX11_from_26 (by decide) (Nat.le_of_ble_eq_true rfl) (fun r26 M26 hQ => ?_)
    obtain ⟨h1_26, h2_26, h3_26, hp_26, hF26, hJ26⟩ := hQ
    rw [rd_ne (by decide), rd_ne (by decide), up2_ne (by decide)] at hp_26
    have hr01 : r26 = 0 ∨ r26 = 1 := hp_26.elim (fun h => Or.inr h.2) (fun h => Or.inl h.2)
    refine pw_istore2 C (by decide) dX11_from_29 ?_
    refine pw_iload2 C dX11_from_30 ?_
    refine pw_if_eq (tgt := 66) C dX11_from_31 (by decide) (by omega) (fun h31 => ?_) (fun h31 => ?_)
    · refine pw_iconst C dX11_from_66 ?_
      exact pw_iretI C dX11_from_67 (⟨by first | (rw [hJ26 0 (by decide)]; exact rd_eq) | (rw [hF60 43 (by decide), hJ26 0 (by decide)]; exact rd_eq), by first | exact h1_26 | (rw [hF60 43 (by decide)]; exact h1_26), by
            first
              | (refine Or.inr ⟨fun h => ?_, rfl⟩; rcases hp_26 with q | q; omega; exact q.1 ⟨by omega, h.1⟩)
              | exact Or.inr ⟨fun h => by omega, rfl⟩
              | (refine Or.inl ⟨⟨hal, by omega, by omega⟩, ?_⟩
                 rw [hF26 44 (by decide), up2_ne (by decide), hJ26 3 (by decide), rd_ne (by decide), hF26 45 (by decide), up2_ne (by decide), Int.mul_comm 7 w]
                 refine dst_congr (n := M 43 7) ?_ (fun i _ _ => rfl) (fun i _ _ => rfl) (M 43 7) (by omega) (by omega)
                 intro i q1 q2
                 rw [Int.zero_add, h3_26 i q1 (by rw [rd_ne (by decide)]; omega), up2_ne (by decide)]
                 have := hal i q1 (by omega)
                 rw [bmod_id (by omega)]), (Sm_trans (Sm_up Sm_refl (by decide)) hF26 (by decide)), (Fm_tr (Fm_up Fm_refl (by decide)) hJ26 (by decide))⟩)
    · have hok := hp_26.elim (fun h => h.1) (fun h => absurd h.2 h31)
      have hal : allL (M 49) (M 43 1) (M 43 17) := hok.2
      refine pw_aload0 C dX11_from_34 ?_
      refine pw_iload1 C dX11_from_35 ?_
      refine pw_cVi1 C (c_X11_isWord _ K _ _ (by omega) (by rw [hJ26 6 (by decide), rd_ne (by decide)]; omega)) cb_X11_isWord lay_43 kc_11 rfl ml_X11_113 dX11_from_36 (by decide) (Nat.le_of_ble_eq_true rfl) (fun r36 M36 hQ => ?_)
      obtain ⟨rfl, hMe⟩ := hQ
      replace hMe := hMe.symm
      subst hMe
      rw [hJ26 6 (by decide), rd_ne (by decide)]
      refine pw_if_eq (tgt := 66) C dX11_from_39 (by decide) (by split <;> omega) (fun h39 => ?_) (fun h39 => ?_)
      · have e39 : ¬ (0 ≤ w ∧ w < M 43 6) := fun h => by rw [if_pos h] at h39; omega
        refine pw_iconst C dX11_from_66 ?_
        exact pw_iretI C dX11_from_67 (⟨by first | (rw [hJ26 0 (by decide)]; exact rd_eq) | (rw [hF60 43 (by decide), hJ26 0 (by decide)]; exact rd_eq), by first | exact h1_26 | (rw [hF60 43 (by decide)]; exact h1_26), by
              first
                | (refine Or.inr ⟨fun h => ?_, rfl⟩; rcases hp_26 with q | q; omega; exact q.1 ⟨by omega, h.1⟩)
                | exact Or.inr ⟨fun h => by omega, rfl⟩
                | (refine Or.inl ⟨⟨hal, by omega, by omega⟩, ?_⟩
                   rw [hF26 44 (by decide), up2_ne (by decide), hJ26 3 (by decide), rd_ne (by decide), hF26 45 (by decide), up2_ne (by decide), Int.mul_comm 7 w]
                   refine dst_congr (n := M 43 7) ?_ (fun i _ _ => rfl) (fun i _ _ => rfl) (M 43 7) (by omega) (by omega)
                   intro i q1 q2
                   rw [Int.zero_add, h3_26 i q1 (by rw [rd_ne (by decide)]; omega), up2_ne (by decide)]
                   have := hal i q1 (by omega)
                   rw [bmod_id (by omega)]), (Sm_trans (Sm_up Sm_refl (by decide)) hF26 (by decide)), (Fm_tr (Fm_up Fm_refl (by decide)) hJ26 (by decide))⟩)
      · have e39 : (0 ≤ w ∧ w < M 43 6) := Decidable.byContradiction fun h => by rw [if_neg h] at h39; omega
        refine pw_aload0 C dX11_from_42 ?_
        refine pw_aload0 C dX11_from_43 ?_
        refine g_43_18 C fl_X11_39 dX11_from_44 ?_
        refine pw_iconst C dX11_from_47 ?_
        refine pw_aload0 C dX11_from_48 ?_
        refine g_43_8 C fl_X11_23 dX11_from_49 ?_
        refine pw_bipush C dX11_from_52 (by decide) ?_
        refine pw_iload1 C dX11_from_54 ?_
        refine pw_imul C dX11_from_55 ?_
        refine pw_aload0 C dX11_from_56 ?_
        refine g_43_7 C fl_X11_110 dX11_from_57 ?_
        refine pw_top C _ (hJ26 7 (by decide)) ?_
        refine pw_top C _ (rd_ne (by decide)) ?_
        have nz60_44 : M26 44 = M 44 := ((hF26 44 (by decide)).trans (up2_ne (by decide)))
        refine pw_cVi5 C (c_X11_distance _ K _ 50 45 _ _ _ _ _ (lay_50) (lay_45) (by decide) (by decide) (by decide) (by decide) (by omega) (by omega) (by omega) (by intro p h1 h2; rw [Int.zero_add, h3_26 p h1 (by rw [rd_ne (by decide)]; omega), up2_ne (by decide)]; have := hal p h1 (by omega); rw [bmod_id (by omega)]; omega) (by rw [hF26 45 (by decide), up2_ne (by decide)]; intro p h1 h2; rw [show 7 * w + p = w * 7 + p by omega]; have := wm_wl hW w p (by omega) (by omega) (by omega) (by omega); omega) (by rw [hF26 44 (by decide), up2_ne (by decide)]; exact wm_pr hW) (by rw [hJ26 3 (by decide), rd_ne (by decide)]; omega)) cb_X11_distance lay_43 kc_11 rfl ml_X11_123 dX11_from_60 (by decide) (Nat.le_of_ble_eq_true rfl) (fun r60 M60 hQ => ?_)
        obtain ⟨rfl, hF60⟩ := hQ
        refine pw_goto (tgt := 67) C dX11_from_63 (by decide) ?_
        exact pw_iretI C dX11_from_67 (⟨by first | (rw [hJ26 0 (by decide)]; exact rd_eq) | (rw [hF60 43 (by decide), hJ26 0 (by decide)]; exact rd_eq), by first | exact h1_26 | (rw [hF60 43 (by decide)]; exact h1_26), by
              first
                | (refine Or.inr ⟨fun h => ?_, rfl⟩; rcases hp_26 with q | q; omega; exact q.1 ⟨by omega, h.1⟩)
                | exact Or.inr ⟨fun h => by omega, rfl⟩
                | (refine Or.inl ⟨⟨hal, by omega, by omega⟩, ?_⟩
                   rw [hF26 44 (by decide), up2_ne (by decide), hJ26 3 (by decide), rd_ne (by decide), hF26 45 (by decide), up2_ne (by decide), Int.mul_comm 7 w]
                   refine dst_congr (n := M 43 7) ?_ (fun i _ _ => rfl) (fun i _ _ => rfl) (M 43 7) (by omega) (by omega)
                   intro i q1 q2
                   rw [Int.zero_add, h3_26 i q1 (by rw [rd_ne (by decide)]; omega), up2_ne (by decide)]
                   have := hal i q1 (by omega)
                   rw [bmod_id (by omega)]), (Sm_trans (Sm_trans (Sm_up Sm_refl (by decide)) hF26 (by decide)) hF60 (by decide)), (Fm_fr (Fm_tr (Fm_up Fm_refl (by decide)) hJ26 (by decide)) hF60 (by decide))⟩)
  refine pw_aload0 C dX11_from_6 ?_
  refine g_43_6 C fl_X11_85 dX11_from_7 ?_
  refine pw_top C _ (rd_ne (by decide)) ?_
  refine pw_if_ne (tgt := 18) C dX11_from_10 (by decide) (by omega) (fun h10 => ?_) (fun h10 => ?_)
  · refine pw_aload0 C dX11_from_18 ?_
    refine g_43_7 C fl_X11_110 dX11_from_19 ?_
    refine pw_top C _ (rd_ne (by decide)) ?_
    exact cut_22 _ (by first | exact Or.inl ⟨h10, rfl⟩ | exact Or.inr ⟨h10, rfl⟩)
  · refine pw_bipush C dX11_from_13 (by decide) ?_
    refine pw_goto (tgt := 22) C dX11_from_15 (by decide) ?_
    exact cut_22 _ (by first | exact Or.inl ⟨h10, rfl⟩ | exact Or.inr ⟨h10, rfl⟩)
set_option maxHeartbeats 4000000 in
set_option maxRecDepth 100000 in
theorem c_X11_word (l : Launch) (K : KX) (M : Mem) (hW : WfK (cfM M)) (hts : 0 ≤ M 43 17 ∧ M 43 17 ≤ 40) (htb : ∀ j, 0 ≤ j → j < M 43 17 → -128 ≤ M 49 j ∧ M 49 j ≤ 127) : MCi l K LAY yX11_word cX11_word 3 (some .int) 3 [rV K 43] M (fun r M' => (M' 43 0 = 0) ∧ (M' 43 17 = 0) ∧ (((allL (M 49) (M 43 1) (M 43 17) ∧ (1 ≤ M 43 17 ∧ M 43 17 ≤ 7) ∧ M 43 6 < 8 ∧ (0 < M 43 6 → M 43 17 = M 43 7)) ∧ r = M 43 6 ∧ M' 43 6 = M 43 6 + 1 ∧ M' 43 7 = M 43 17 ∧ (∀ j, M' 45 j = if M 43 6 * 7 ≤ j ∧ j < M 43 6 * 7 + M 43 17 then M 49 (j - M 43 6 * 7) - 97 else M 45 j) ∧ (∀ j, M' 46 j = if j = M 43 6 then 1 else M 46 j) ∧ M' 43 13 = 0 ∧ M' 43 14 = 0 ∧ M' 43 15 = 0) ∨ (¬ (allL (M 49) (M 43 1) (M 43 17) ∧ (1 ≤ M 43 17 ∧ M 43 17 ≤ 7) ∧ M 43 6 < 8 ∧ (0 < M 43 6 → M 43 17 = M 43 7)) ∧ r = -1 ∧ Sm [43, 50] M M' ∧ Fm [0, 17, 19] M M')) ∧ Sm [43, 45, 46, 50] M M' ∧ Fm [0, 6, 7, 13, 14, 15, 17, 19] M M') := by
  refine mci_intro RX11 rfl [some (rV K 43), none, none] rfl (by decide +kernel) (cat_r cat_nil) (Nat.le_of_ble_eq_true rfl) (fun X hX C => ?_)
  subst hX
  have w_let := wm_let hW
  have w_sw := wm_sw hW
  have w_dr := wm_dr hW
  have w_gp := wm_gp hW
  have w_w := wm_w hW
  have w_l := wm_l hW
  have w_l1 := wm_l1 hW
  have w_t := wm_t hW
  refine pw_aload0 C dX11_word_0 ?_
  refine pw_iconst C dX11_word_1 ?_
  refine p_43_0 C fl_X11_1 dX11_word_2 ?_
  have cut_34 : ∀  (g : Int) (M1 : Mem), Sm [43, 50] M M1 → Fm [0, 17, 19] M M1 → (M1 43 0 = 0) → (M1 43 17 = 0) → (M1 43 19 = M 43 17) → (∀ j, 0 ≤ j → j < M 43 17 → M1 50 j = (M 49 j - 97).bmod 256) → (((((M 43 6 = 0 → 1 ≤ M 43 17 ∧ M 43 17 ≤ 7) ∧ (M 43 6 ≠ 0 → M 43 17 = M 43 7)) ∧ allL (M 49) (M 43 1) (M 43 17)) ∧ g = 1) ∨ (¬ (((M 43 6 = 0 → 1 ≤ M 43 17 ∧ M 43 17 ≤ 7) ∧ (M 43 6 ≠ 0 → M 43 17 = M 43 7)) ∧ allL (M 49) (M 43 1) (M 43 17)) ∧ g = 0)) → PW X K LAY 3 (0, 0) (Zi X K LAY (fun r M' => (M' 43 0 = 0) ∧ (M' 43 17 = 0) ∧ (((allL (M 49) (M 43 1) (M 43 17) ∧ (1 ≤ M 43 17 ∧ M 43 17 ≤ 7) ∧ M 43 6 < 8 ∧ (0 < M 43 6 → M 43 17 = M 43 7)) ∧ r = M 43 6 ∧ M' 43 6 = M 43 6 + 1 ∧ M' 43 7 = M 43 17 ∧ (∀ j, M' 45 j = if M 43 6 * 7 ≤ j ∧ j < M 43 6 * 7 + M 43 17 then M 49 (j - M 43 6 * 7) - 97 else M 45 j) ∧ (∀ j, M' 46 j = if j = M 43 6 then 1 else M 46 j) ∧ M' 43 13 = 0 ∧ M' 43 14 = 0 ∧ M' 43 15 = 0) ∨ (¬ (allL (M 49) (M 43 1) (M 43 17) ∧ (1 ≤ M 43 17 ∧ M 43 17 ≤ 7) ∧ M 43 6 < 8 ∧ (0 < M 43 6 → M 43 17 = M 43 7)) ∧ r = -1 ∧ Sm [43, 50] M M' ∧ Fm [0, 17, 19] M M')) ∧ Sm [43, 45, 46, 50] M M' ∧ Fm [0, 6, 7, 13, 14, 15, 17, 19] M M')) 34 [some (rV K 43), none, none] [iV g] M1 := by
    intro g M1 hF34 hJ34 t0 t1 t2 t3 tg
    have hg01 : g = 0 ∨ g = 1 := tg.elim (fun h => Or.inr h.2) (fun h => Or.inl h.2)
    refine pw_istore1 C (by decide) dX11_word_34 ?_
    refine pw_iload1 C dX11_word_35 ?_
    refine pw_if_eq (tgt := 48) C dX11_word_36 (by decide) (by omega) (fun h36 => ?_) (fun h36 => ?_)
    · refine pw_iconst C dX11_word_48 ?_
      exact pw_iretI C dX11_word_49 (⟨by exact t0, by exact t1, by
            first
              | (refine Or.inr ⟨fun h => ?_, rfl, hF34, hJ34⟩; rcases tg with q | q; omega; exact q.1 ⟨⟨fun _ => h.2.1, fun _ => h.2.2.2 (by omega)⟩, h.1⟩)
              | exact Or.inr ⟨fun h => by omega, rfl, hF34, hJ34⟩, (Sm_trans Sm_refl hF34 (by decide)), (Fm_tr Fm_refl hJ34 (by decide))⟩)
    · have hok := tg.elim (fun h => h.1) (fun h => absurd h.2 h36)
      have hal : allL (M 49) (M 43 1) (M 43 17) := hok.2
      refine pw_aload0 C dX11_word_39 ?_
      refine g_43_6 C fl_X11_85 dX11_word_40 ?_
      refine pw_top C _ (hJ34 6 (by decide)) ?_
      refine pw_bipush C dX11_word_43 (by decide) ?_
      refine pw_icmp_ne (tgt := 50) C dX11_word_45 (by decide) (by omega) (by omega) (fun h45 => ?_) (fun h45 => ?_)
      · refine pw_aload0 C dX11_word_50 ?_
        refine pw_aload0 C dX11_word_51 ?_
        refine g_43_19 C fl_X11_103 dX11_word_52 ?_
        refine pw_top C (M 43 17) t2 ?_
        refine p_43_7 C fl_X11_110 dX11_word_55 ?_
        refine pw_iconst C dX11_word_58 ?_
        refine pw_istore2 C (by decide) dX11_word_59 ?_
        have cut_60 : ∀ (fu : Nat) (k : Int) (M2 : Mem), Sm [43, 45, 50] M M2 → Fm [0, 7, 17, 19] M M2 → (0 ≤ k ∧ k ≤ M 43 17) → (M2 43 0 = 0) → (M2 43 17 = 0) → (M2 43 7 = M 43 17) → (∀ j, 0 ≤ j → j < M 43 17 → M2 50 j = M 49 j - 97) → (∀ j, M2 45 j = if M 43 6 * 7 ≤ j ∧ j < M 43 6 * 7 + k then M 49 (j - M 43 6 * 7) - 97 else M 45 j) → (M 43 17 - k).toNat < fu → PW X K LAY 3 (0, 0) (Zi X K LAY (fun r M' => (M' 43 0 = 0) ∧ (M' 43 17 = 0) ∧ (((allL (M 49) (M 43 1) (M 43 17) ∧ (1 ≤ M 43 17 ∧ M 43 17 ≤ 7) ∧ M 43 6 < 8 ∧ (0 < M 43 6 → M 43 17 = M 43 7)) ∧ r = M 43 6 ∧ M' 43 6 = M 43 6 + 1 ∧ M' 43 7 = M 43 17 ∧ (∀ j, M' 45 j = if M 43 6 * 7 ≤ j ∧ j < M 43 6 * 7 + M 43 17 then M 49 (j - M 43 6 * 7) - 97 else M 45 j) ∧ (∀ j, M' 46 j = if j = M 43 6 then 1 else M 46 j) ∧ M' 43 13 = 0 ∧ M' 43 14 = 0 ∧ M' 43 15 = 0) ∨ (¬ (allL (M 49) (M 43 1) (M 43 17) ∧ (1 ≤ M 43 17 ∧ M 43 17 ≤ 7) ∧ M 43 6 < 8 ∧ (0 < M 43 6 → M 43 17 = M 43 7)) ∧ r = -1 ∧ Sm [43, 50] M M' ∧ Fm [0, 17, 19] M M')) ∧ Sm [43, 45, 46, 50] M M' ∧ Fm [0, 6, 7, 13, 14, 15, 17, 19] M M')) 60 [some (rV K 43), some (iV g), some (iV k)] [] M2 := by
          intro fu
          induction fu with
          | zero => intro _ _ _ _ _ _ _ _ _ _ hm; exact absurd hm (Nat.not_lt_zero _)
          | succ fu ih =>
            intro k M2 hF60 hJ60 hk u0 u1 u2 u3 u4 hm
            have ih_60 := ih
            have hm_60 := hm
            refine pw_iload2 C dX11_word_60 ?_
            refine pw_aload0 C dX11_word_61 ?_
            refine g_43_7 C fl_X11_110 dX11_word_62 ?_
            refine pw_top C (M 43 17) u2 ?_
            refine pw_icmp_ge (tgt := 94) C dX11_word_65 (by decide) (by omega) (by omega) (fun h65 => ?_) (fun h65 => ?_)
            · refine pw_aload0 C dX11_word_94 ?_
              refine g_43_9 C fl_X11_27 dX11_word_95 ?_
              refine pw_aload0 C dX11_word_98 ?_
              refine g_43_6 C fl_X11_85 dX11_word_99 ?_
              refine pw_top C _ (hJ60 6 (by decide)) ?_
              refine pw_iconst C dX11_word_102 ?_
              refine pw_iastore C lay_46 (by omega) (by decide) dX11_word_103 ?_
              refine pw_aload0 C dX11_word_104 ?_
              refine pw_dup C rfl dX11_word_105 ?_
              refine g_43_6 C fl_X11_85 dX11_word_106 ?_
              refine pw_top C _ (rd_nc (by decide)) ?_
              refine pw_top C _ (hJ60 6 (by decide)) ?_
              refine pw_iconst C dX11_word_109 ?_
              refine pw_iadd C dX11_word_110 ?_
              refine p_43_6 C fl_X11_85 dX11_word_111 ?_
              refine pw_aload0 C dX11_word_114 ?_
              refine pw_cVv0 C (c_X11_changes _ K _ ) cb_X11_changes lay_43 kc_11 rfl ml_X11_91 dX11_word_115 (by decide) (Nat.le_of_ble_eq_true rfl) (fun M115 hQ => ?_)
              have hMe := hQ
              replace hMe := hMe.symm
              subst hMe
              refine pw_aload0 C dX11_word_118 ?_
              refine g_43_6 C fl_X11_85 dX11_word_119 ?_
              refine pw_top C _ (rd_ne (by decide)) ?_
              refine pw_top C _ (rd_ne (by decide)) ?_
              refine pw_top C _ (rd_ne (by decide)) ?_
              refine pw_top C _ rd_eq ?_
              refine pw_iconst C dX11_word_122 ?_
              refine pw_isub C dX11_word_123 ?_
              exact pw_iretI C dX11_word_124 (⟨by rw [rd_ne (by decide), rd_ne (by decide), rd_ne (by decide), rd_ne (by decide), rd_nc (by decide)]; exact u0, by rw [rd_ne (by decide), rd_ne (by decide), rd_ne (by decide), rd_ne (by decide), rd_nc (by decide)]; exact u1, by
                    have h17 : 1 ≤ M 43 17 ∧ M 43 17 ≤ 7 := by
                      by_cases q : M 43 6 = 0
                      · exact hok.1.1 q
                      · have := hok.1.2 q; omega
                    refine Or.inl ⟨⟨hal, h17, by omega, fun h => hok.1.2 (by omega)⟩, by omega, ?_, ?_, ?_, ?_, ?_, ?_, ?_⟩
                    · rw [rd_ne (by decide), rd_ne (by decide), rd_ne (by decide)]; exact rd_eq
                    · rw [rd_ne (by decide), rd_ne (by decide), rd_ne (by decide), rd_ne (by decide), rd_nc (by decide)]; exact u2
                    · intro j; rw [rd_nc (by decide), rd_nc (by decide), rd_nc (by decide), rd_nc (by decide), rd_nc (by decide), u4 j, show k = M 43 17 by omega]
                    · intro j; rw [rd_nc (by decide), rd_nc (by decide), rd_nc (by decide), rd_nc (by decide)]
                      by_cases q : j = M 43 6
                      · rw [if_pos q, q]; exact rd_eq
                      · rw [if_neg q, rd_ne q, hF60 46 (by decide)]
                    · rw [rd_ne (by decide), rd_ne (by decide)]; exact rd_eq
                    · rw [rd_ne (by decide)]; exact rd_eq
                    · exact rd_eq, (Sm_up (Sm_up (Sm_up (Sm_up (Sm_up (Sm_trans Sm_refl hF60 (by decide)) (by decide)) (by decide)) (by decide)) (by decide)) (by decide)), (Fm_up (Fm_up (Fm_up (Fm_up (Fm_nc (Fm_tr Fm_refl hJ60 (by decide)) (by decide)) (by decide)) (by decide)) (by decide)) (by decide))⟩)
            · have hlk := hal k (by omega) (by omega)
              refine pw_aload0 C dX11_word_68 ?_
              refine g_43_8 C fl_X11_23 dX11_word_69 ?_
              refine pw_bipush C dX11_word_72 (by decide) ?_
              refine pw_aload0 C dX11_word_74 ?_
              refine g_43_6 C fl_X11_85 dX11_word_75 ?_
              refine pw_top C _ (hJ60 6 (by decide)) ?_
              refine pw_imul C dX11_word_78 ?_
              refine pw_iload2 C dX11_word_79 ?_
              refine pw_iadd C dX11_word_80 ?_
              refine pw_aload0 C dX11_word_81 ?_
              refine g_43_18 C fl_X11_39 dX11_word_82 ?_
              refine pw_iload2 C dX11_word_85 ?_
              refine pw_baload C lay_50 (by omega) (by decide) dX11_word_86 ?_
              refine pw_top C (M 49 k - 97) (u3 k (by omega) (by omega)) ?_
              refine pw_bastore C lay_45 (by omega) (by decide) (by omega) dX11_word_87 ?_
              refine pw_iinc2 C (by decide) dX11_word_88 ?_
              refine pw_goto (tgt := 60) C dX11_word_91 (by decide) ?_
              exact ih_60 _ _ (Sm_up (Sm_trans Sm_refl hF60 (by decide)) (by decide)) (Fm_nc (Fm_tr Fm_refl hJ60 (by decide)) (by decide)) (by omega) (by rw [rd_nc (by decide)]; exact u0) (by rw [rd_nc (by decide)]; exact u1) (by rw [rd_nc (by decide)]; exact u2) (by intro j q1 q2; rw [rd_nc (by decide)]; exact u3 j q1 q2) (by
                    intro j
                    by_cases q : j = 7 * M 43 6 + k
                    · rw [q, rd_eq, if_pos (by omega), show 7 * M 43 6 + k - M 43 6 * 7 = k by omega]
                    · rw [rd_ne q, u4 j]
                      by_cases q2 : M 43 6 * 7 ≤ j ∧ j < M 43 6 * 7 + k
                      · rw [if_pos q2, if_pos (by omega)]
                      · rw [if_neg q2, if_neg (by omega)]) (by omega)
        exact cut_60 _ _ _ (Sm_up (Sm_trans Sm_refl hF34 (by decide)) (by decide)) (Fm_up (Fm_tr Fm_refl hJ34 (by decide)) (by decide)) (by omega) (by rw [rd_ne (by decide)]; exact t0) (by rw [rd_ne (by decide)]; exact t1) (by exact rd_eq) (by intro j q1 q2; rw [rd_nc (by decide), t3 j q1 q2]; have := hal j q1 q2; rw [bmod_id (by omega)]) (by intro j; rw [rd_nc (by decide), if_neg (by omega), hF34 45 (by decide)]) (Nat.lt_succ_self _)
      · refine pw_iconst C dX11_word_48 ?_
        exact pw_iretI C dX11_word_49 (⟨by exact t0, by exact t1, by
              first
                | (refine Or.inr ⟨fun h => ?_, rfl, hF34, hJ34⟩; rcases tg with q | q; omega; exact q.1 ⟨⟨fun _ => h.2.1, fun _ => h.2.2.2 (by omega)⟩, h.1⟩)
                | exact Or.inr ⟨fun h => by omega, rfl, hF34, hJ34⟩, (Sm_trans Sm_refl hF34 (by decide)), (Fm_tr Fm_refl hJ34 (by decide))⟩)
  refine pw_aload0 C dX11_word_5 ?_
  refine g_43_6 C fl_X11_85 dX11_word_6 ?_
  refine pw_top C _ (rd_ne (by decide)) ?_
  refine pw_if_ne (tgt := 22) C dX11_word_9 (by decide) (by omega) (fun h9 => ?_) (fun h9 => ?_)
  · refine pw_aload0 C dX11_word_22 ?_
    refine pw_aload0 C dX11_word_23 ?_
    refine g_43_7 C fl_X11_110 dX11_word_24 ?_
    refine pw_top C _ (rd_ne (by decide)) ?_
    refine pw_aload0 C dX11_word_27 ?_
    refine g_43_7 C fl_X11_110 dX11_word_28 ?_
    refine pw_top C _ (rd_ne (by decide)) ?_
    have nz31_49 : (up2 M 43 0 0) 49 = M 49 := (up2_ne (by decide))
    refine pw_cVi2 C (c_X11_takes _ K _ _ _ (by first | omega | (simp only [nz31_49]; omega)) (by first | omega | (simp only [nz31_49]; omega)) (by rw [rd_ne (by decide)]; omega) (by rw [rd_ne (by decide)]; omega) (by rw [nz31_49, rd_ne (by decide)]; exact htb)) cb_X11_takes lay_43 kc_11 rfl ml_X11_106 dX11_word_31 (by decide) (Nat.le_of_ble_eq_true rfl) (fun r31 M31 hQ => ?_)
    obtain ⟨h1_31, h2_31, h3_31, hp_31, hF31, hJ31⟩ := hQ
    rw [rd_ne (by decide), rd_ne (by decide), up2_ne (by decide)] at hp_31
    exact cut_34 _ _ (Sm_trans (Sm_up Sm_refl (by decide)) hF31 (by decide)) (Fm_tr (Fm_up Fm_refl (by decide)) hJ31 (by decide)) (by rw [hJ31 0 (by decide)]; exact rd_eq) (by exact h1_31) (by rw [h2_31, rd_ne (by decide)]) (by intro j q1 q2; rw [h3_31 j q1 (by rw [rd_ne (by decide)]; exact q2), up2_ne (by decide)]) (by
          rcases hp_31 with q | q
          · exact Or.inl ⟨⟨⟨fun h => absurd h h9, fun _ => by omega⟩, q.1.2⟩, q.2⟩
          · exact Or.inr ⟨fun h => q.1 ⟨by have := h.1.2 h9; omega, h.2⟩, q.2⟩)
  · refine pw_aload0 C dX11_word_12 ?_
    refine pw_iconst C dX11_word_13 ?_
    refine pw_bipush C dX11_word_14 (by decide) ?_
    have nz16_49 : (up2 M 43 0 0) 49 = M 49 := (up2_ne (by decide))
    refine pw_cVi2 C (c_X11_takes _ K _ _ _ (by first | omega | (simp only [nz16_49]; omega)) (by first | omega | (simp only [nz16_49]; omega)) (by rw [rd_ne (by decide)]; omega) (by rw [rd_ne (by decide)]; omega) (by rw [nz16_49, rd_ne (by decide)]; exact htb)) cb_X11_takes lay_43 kc_11 rfl ml_X11_106 dX11_word_16 (by decide) (Nat.le_of_ble_eq_true rfl) (fun r16 M16 hQ => ?_)
    obtain ⟨h1_16, h2_16, h3_16, hp_16, hF16, hJ16⟩ := hQ
    rw [rd_ne (by decide), rd_ne (by decide), up2_ne (by decide)] at hp_16
    refine pw_goto (tgt := 34) C dX11_word_19 (by decide) ?_
    exact cut_34 _ _ (Sm_trans (Sm_up Sm_refl (by decide)) hF16 (by decide)) (Fm_tr (Fm_up Fm_refl (by decide)) hJ16 (by decide)) (by rw [hJ16 0 (by decide)]; exact rd_eq) (by exact h1_16) (by rw [h2_16, rd_ne (by decide)]) (by intro j q1 q2; rw [h3_16 j q1 (by rw [rd_ne (by decide)]; exact q2), up2_ne (by decide)]) (by
          rcases hp_16 with q | q
          · exact Or.inl ⟨⟨⟨fun _ => by omega, fun h => absurd h9 h⟩, q.1.2⟩, q.2⟩
          · exact Or.inr ⟨fun h => q.1 ⟨by have := h.1.1 h9; omega, h.2⟩, q.2⟩)
