set_option maxHeartbeats 4000000 in
set_option maxRecDepth 100000 in
theorem c_X5_refresh (l : Launch) (K : KX) (M : Mem) (hW : WfK (cf M)) (hwd : M 15 4 = 8) (hZ : Z0a M) (hfr : M 21 0 = 0 ∨ (M 21 0 = 1 ∧ SvR (cf M) M)) : MCv l K LAY yX5_refresh cX5_refresh 1 none 5 [rV K 21] M (fun M' => (SvR (cf M) M') ∧ (M' 21 0 = 1) ∧ (M' 15 4 = 8) ∧ (Z0a M') ∧ Sm [12, 13, 15, 16, 17, 18, 19, 20, 21, 22, 23] M M') := by
  refine mcv_intro RX5 rfl [some (rV K 21)] rfl (by decide +kernel) (cat_r cat_nil) (Nat.le_of_ble_eq_true rfl) (fun X hX C => ?_)
  subst hX
  have w_let := wf_let hW
  have w_sw := wf_sw hW
  have w_dr := wf_dr hW
  have w_gp := wf_gp hW
  have w_w := wf_w hW
  have w_l := wf_l hW
  have w_l1 := wf_l1 hW
  have w_t := wf_t hW
  have hnb := bsI_rng (p := M 8) (v := 1) (n := M 6 0) (by omega)
  refine pw_aload0 C dX5_refresh_0 ?_
  refine g_21_0 C fl_X5_9 dX5_refresh_1 ?_
  refine pw_if_eq (tgt := 8) C dX5_refresh_4 (by decide) (by omega) (fun h4 => ?_) (fun h4 => ?_)
  · refine pw_aload0 C dX5_refresh_8 ?_
    refine pw_iconst C dX5_refresh_9 ?_
    refine p_21_0 C (by decide) fl_X5_9 dX5_refresh_10 ?_
    refine pw_aload0 C dX5_refresh_13 ?_
    refine pw_cVv0 C (c_X5_clear _ K _ ) cb_X5_clear lay_21 kc_5 rfl ml_X5_42 dX5_refresh_14 (by decide) (Nat.le_of_ble_eq_true rfl) (fun M14 hQ => ?_)
    obtain ⟨h0_14, h1_14, h3_14, h4_14, hF14⟩ := hQ
    have ecf14 : cf M14 = cf M := by unfold cf; rw [hF14 1 (by decide), up2_ne (by decide), hF14 2 (by decide), up2_ne (by decide), hF14 6 (by decide), up2_ne (by decide), hF14 7 (by decide), up2_ne (by decide), hF14 8 (by decide), up2_ne (by decide), hF14 9 (by decide), up2_ne (by decide), hF14 10 (by decide), up2_ne (by decide), hF14 11 (by decide), up2_ne (by decide)]
    have z14 : Z0a M14 := ⟨fun t q1 q2 => by rw [hF14 17 (by decide), up2_ne (by decide)]; exact hZ.1 t q1 q2, by rw [hF14 19 (by decide), up2_ne (by decide)]; exact hZ.2.1, by rw [hF14 20 (by decide), up2_ne (by decide)]; exact hZ.2.2⟩
    have e15 : M14 15 4 = 8 := by rw [hF14 15 (by decide), up2_ne (by decide)]; exact hwd
    have e6 : M14 6 = M 6 := (hF14 6 (by decide)).trans (up2_ne (by decide))
    have e8 : M14 8 = M 8 := (hF14 8 (by decide)).trans (up2_ne (by decide))
    have f14 : M14 21 0 = 1 := by rw [h0_14]; exact rd_eq
    refine pw_aload0 C dX5_refresh_17 ?_
    refine g_21_8 C fl_X5_38 dX5_refresh_18 ?_
    refine g_12_0 C fl_X5_45 dX5_refresh_21 ?_
    have nz24_6 : M14 6 = M 6 := ((hF14 6 (by decide)).trans (up2_ne (by decide)))
    have nz24_8 : M14 8 = M 8 := ((hF14 8 (by decide)).trans (up2_ne (by decide)))
    refine pw_cVi0 C (c_X9_hasNear _ K _ (by rw [e6]; omega) (by rw [e6, e8]; exact wf_p hW)) cb_X9_hasNear lay_6 kc_9 rfl ml_X5_51 dX5_refresh_24 (by decide) (Nat.le_of_ble_eq_true rfl) (fun r24 M24 hQ => ?_)
    obtain ⟨rfl, hMe⟩ := hQ
    replace hMe := hMe.symm
    subst hMe
    rw [e8, e6]
    refine pw_if_eq (tgt := 38) C dX5_refresh_27 (by decide) (by split <;> omega) (fun h27 => ?_) (fun h27 => ?_)
    · have hb0 : bsI (M 8) 1 (M 6 0) = 0 := Decidable.byContradiction fun h => by rw [if_neg h] at h27; omega
      exact pw_vretV C dX5_refresh_38 (⟨by
            first
              | exact Or.inl ⟨hb0, h1_14, h3_14⟩
              | (refine Or.inr ⟨hb0, ?_, ?_, h1_35, h2_35⟩
                 · rw [hF35 21 (by decide)]; exact h1_31.1
                 · rw [hF35 21 (by decide)]; exact h1_31.2.1), by first | exact f14 | (rw [hF35 21 (by decide), h0_31]; exact f14), by first | exact e15 | (rw [hF35 15 (by decide)]; exact h2_31), by first | exact z14 | exact ⟨fun t q1 q2 => by rw [hF35 17 (by decide)]; exact h3_31.1 t q1 q2, by rw [hF35 19 (by decide)]; exact h3_31.2.1, by rw [hF35 20 (by decide)]; exact h3_31.2.2⟩, (Sm_trans (Sm_up Sm_refl (by decide)) hF14 (by decide))⟩)
    · have hb0 : bsI (M 8) 1 (M 6 0) ≠ 0 := fun h => by rw [if_pos h] at h27; omega
      have hw0 : 0 < M 6 0 := by
        rcases Int.lt_or_eq_of_le w_w.1 with q | q
        · exact q
        · rw [← q] at hb0; exact absurd bsI_0 hb0
      refine pw_aload0 C dX5_refresh_30 ?_
      have nz31_0 : M14 0 = M 0 := ((hF14 0 (by decide)).trans (up2_ne (by decide)))
      have nz31_6 : M14 6 = M 6 := ((hF14 6 (by decide)).trans (up2_ne (by decide)))
      have nz31_15 : M14 15 = M 15 := ((hF14 15 (by decide)).trans (up2_ne (by decide)))
      refine pw_cVv0 C (c_X5_lookAtAll _ K _ (by rw [ecf14]; exact hW) (e15) (z14) (by rw [e6]; omega) (SvI_0 h1_14 h3_14 h4_14)) cb_X5_lookAtAll lay_21 kc_5 rfl ml_X5_57 dX5_refresh_31 (by decide) (Nat.le_of_ble_eq_true rfl) (fun M31 hQ => ?_)
      obtain ⟨h1_31, h0_31, h2_31, h3_31, hF31⟩ := hQ
      rw [ecf14] at h1_31
      refine pw_aload0 C dX5_refresh_34 ?_
      refine pw_cVv0 C (c_X5_addUp _ K _ (cf M) (nK (cf M)) (hW) (Int.le_of_lt (nK_pos hW)) (h1_31.2.2.1) (h1_31.2.2.2)) cb_X5_addUp lay_21 kc_5 rfl ml_X5_60 dX5_refresh_35 (by decide) (Nat.le_of_ble_eq_true rfl) (fun M35 hQ => ?_)
      obtain ⟨h1_35, h2_35, hF35⟩ := hQ
      have ecf35 : True := trivial
      exact pw_vretV C dX5_refresh_38 (⟨by
            first
              | exact Or.inl ⟨hb0, h1_14, h3_14⟩
              | (refine Or.inr ⟨hb0, ?_, ?_, h1_35, h2_35⟩
                 · rw [hF35 21 (by decide)]; exact h1_31.1
                 · rw [hF35 21 (by decide)]; exact h1_31.2.1), by first | exact f14 | (rw [hF35 21 (by decide), h0_31]; exact f14), by first | exact e15 | (rw [hF35 15 (by decide)]; exact h2_31), by first | exact z14 | exact ⟨fun t q1 q2 => by rw [hF35 17 (by decide)]; exact h3_31.1 t q1 q2, by rw [hF35 19 (by decide)]; exact h3_31.2.1, by rw [hF35 20 (by decide)]; exact h3_31.2.2⟩, (Sm_trans (Sm_trans (Sm_trans (Sm_up Sm_refl (by decide)) hF14 (by decide)) hF31 (by decide)) hF35 (by decide))⟩)
  · exact pw_vretV C dX5_refresh_7 (⟨by exact hfr.elim (fun h => absurd h h4) (fun h => h.2), by exact hfr.elim (fun h => absurd h h4) (fun h => h.1), by exact hwd, by exact hZ, Sm_refl⟩)
set_option maxHeartbeats 4000000 in
set_option maxRecDepth 100000 in
theorem c_X10_centre (l : Launch) (K : KX) (M : Mem) (hW : WfK (cf M)) (hwd : M 15 4 = 8) (hZ : Z0a M) (hfr : M 21 0 = 0 ∨ (M 21 0 = 1 ∧ SvR (cf M) M)) : MCi l K LAY yX10_centre cX10_centre 1 (some .int) 6 [rV K 0] M (fun r M' => (PB (cf M) (rdK (cf M)) (rdK (cf M)) r) ∧ (SvR (cf M) M') ∧ (M' 21 0 = 1) ∧ (M' 15 4 = 8) ∧ (Z0a M') ∧ Sm [12, 13, 15, 16, 17, 18, 19, 20, 21, 22, 23] M M') := by
  refine mci_intro RX10 rfl [some (rV K 0)] rfl (by decide +kernel) (cat_r cat_nil) (Nat.le_of_ble_eq_true rfl) (fun X hX C => ?_)
  subst hX
  have w_let := wf_let hW
  have w_sw := wf_sw hW
  have w_dr := wf_dr hW
  have w_gp := wf_gp hW
  have w_w := wf_w hW
  have w_l := wf_l hW
  have w_l1 := wf_l1 hW
  have w_t := wf_t hW
  have hnb := bsI_rng (p := M 8) (v := 1) (n := M 6 0) (by omega)
  refine pw_aload0 C dX10_centre_0 ?_
  refine g_0_5 C fl_X10_51 dX10_centre_1 ?_
  refine pw_cVv0 C (c_X5_refresh _ K _ (hW) (hwd) (hZ) (hfr)) cb_X5_refresh lay_21 kc_5 rfl ml_X10_155 dX10_centre_4 (by decide) (Nat.le_of_ble_eq_true rfl) (fun M4 hQ => ?_)
  obtain ⟨hS_4, h0_4, h2_4, h3_4, hF4⟩ := hQ
  refine pw_aload0 C dX10_centre_7 ?_
  refine g_0_5 C fl_X10_51 dX10_centre_8 ?_
  refine g_21_1 C fl_X10_158 dX10_centre_11 ?_
  exact pw_iretI C dX10_centre_14 (⟨by exact SvR_cen hS_4, by exact hS_4, by exact h0_4, by exact h2_4, by exact h3_4, (Sm_trans Sm_refl hF4 (by decide))⟩)
set_option maxHeartbeats 4000000 in
set_option maxRecDepth 100000 in
theorem c_X10_median (l : Launch) (K : KX) (M : Mem) (hW : WfK (cf M)) (hwd : M 15 4 = 8) (hZ : Z0a M) (hfr : M 21 0 = 0 ∨ (M 21 0 = 1 ∧ SvR (cf M) M)) : MCi l K LAY yX10_median cX10_median 1 (some .int) 6 [rV K 0] M (fun r M' => (PB (cf M) (suK (cf M)) (suK (cf M)) r) ∧ (SvR (cf M) M') ∧ (M' 21 0 = 1) ∧ (M' 15 4 = 8) ∧ (Z0a M') ∧ Sm [12, 13, 15, 16, 17, 18, 19, 20, 21, 22, 23] M M') := by
  refine mci_intro RX10 rfl [some (rV K 0)] rfl (by decide +kernel) (cat_r cat_nil) (Nat.le_of_ble_eq_true rfl) (fun X hX C => ?_)
  subst hX
  have w_let := wf_let hW
  have w_sw := wf_sw hW
  have w_dr := wf_dr hW
  have w_gp := wf_gp hW
  have w_w := wf_w hW
  have w_l := wf_l hW
  have w_l1 := wf_l1 hW
  have w_t := wf_t hW
  have hnb := bsI_rng (p := M 8) (v := 1) (n := M 6 0) (by omega)
  refine pw_aload0 C dX10_median_0 ?_
  refine g_0_5 C fl_X10_51 dX10_median_1 ?_
  refine pw_cVv0 C (c_X5_refresh _ K _ (hW) (hwd) (hZ) (hfr)) cb_X5_refresh lay_21 kc_5 rfl ml_X10_155 dX10_median_4 (by decide) (Nat.le_of_ble_eq_true rfl) (fun M4 hQ => ?_)
  obtain ⟨hS_4, h0_4, h2_4, h3_4, hF4⟩ := hQ
  refine pw_aload0 C dX10_median_7 ?_
  refine g_0_5 C fl_X10_51 dX10_median_8 ?_
  refine g_21_3 C fl_X10_229 dX10_median_11 ?_
  exact pw_iretI C dX10_median_14 (⟨by exact SvR_med hS_4, by exact hS_4, by exact h0_4, by exact h2_4, by exact h3_4, (Sm_trans Sm_refl hF4 (by decide))⟩)
set_option maxHeartbeats 4000000 in
set_option maxRecDepth 100000 in
theorem c_X10_centreAt (l : Launch) (K : KX) (M : Mem) (i : Int) (hW : WfK (cf M)) (hwd : M 15 4 = 8) (hZ : Z0a M) (hfr : M 21 0 = 0 ∨ (M 21 0 = 1 ∧ SvR (cf M) M)) (hi : -2147483648 ≤ i ∧ i ≤ 2147483647) : MCi l K LAY yX10_centreAt cX10_centreAt 2 (some .int) 6 [rV K 0, iV i] M (fun r M' => (PB (cf M) (rdK (cf M)) (fun b => if 0 ≤ i ∧ i < kL (cf M) then rwX (cf M) b i else -1) r) ∧ (SvR (cf M) M') ∧ (M' 21 0 = 1) ∧ (M' 15 4 = 8) ∧ (Z0a M') ∧ Sm [12, 13, 15, 16, 17, 18, 19, 20, 21, 22, 23] M M') := by
  refine mci_intro RX10 rfl [some (rV K 0), some (iV i)] rfl (by decide +kernel) (cat_r (cat_i cat_nil)) (Nat.le_of_ble_eq_true rfl) (fun X hX C => ?_)
  subst hX
  have w_let := wf_let hW
  have w_sw := wf_sw hW
  have w_dr := wf_dr hW
  have w_gp := wf_gp hW
  have w_w := wf_w hW
  have w_l := wf_l hW
  have w_l1 := wf_l1 hW
  have w_t := wf_t hW
  have hnb := bsI_rng (p := M 8) (v := 1) (n := M 6 0) (by omega)
  refine pw_aload0 C dX10_centreAt_0 ?_
  refine g_0_5 C fl_X10_51 dX10_centreAt_1 ?_
  refine pw_cVv0 C (c_X5_refresh _ K _ (hW) (hwd) (hZ) (hfr)) cb_X5_refresh lay_21 kc_5 rfl ml_X10_155 dX10_centreAt_4 (by decide) (Nat.le_of_ble_eq_true rfl) (fun M4 hQ => ?_)
  obtain ⟨hS_4, h0_4, h2_4, h3_4, hF4⟩ := hQ
  have hrg := SvR_rng hW hS_4
  refine pw_aload0 C dX10_centreAt_7 ?_
  refine g_0_5 C fl_X10_51 dX10_centreAt_8 ?_
  refine g_21_1 C fl_X10_158 dX10_centreAt_11 ?_
  refine pw_iconst C dX10_centreAt_14 ?_
  refine pw_icmp_ne (tgt := 22) C dX10_centreAt_15 (by decide) (by omega) (by omega) (fun h15 => ?_) (fun h15 => ?_)
  · have hrr := hrg.2.2.1 h15
    refine pw_aload0 C dX10_centreAt_22 ?_
    refine g_0_2 C fl_X10_26 dX10_centreAt_23 ?_
    refine pw_aload0 C dX10_centreAt_26 ?_
    refine g_0_5 C fl_X10_51 dX10_centreAt_27 ?_
    refine g_21_2 C fl_X10_161 dX10_centreAt_30 ?_
    refine pw_iload1 C dX10_centreAt_33 ?_
    have nz34_6 : M4 6 = M 6 := (hF4 6 (by decide))
    refine pw_cVi2 C (c_X9_letterOfRow _ K _ _ _ (by omega) (hi) (by rw [hF4 6 (by decide)]; omega)) cb_X9_letterOfRow lay_6 kc_9 rfl ml_X10_164 dX10_centreAt_34 (by decide) (Nat.le_of_ble_eq_true rfl) (fun r34 M34 hQ => ?_)
    obtain ⟨rfl, hMe⟩ := hQ
    replace hMe := hMe.symm
    subst hMe
    exact pw_iretI C dX10_centreAt_37 (⟨by
          have hq := SvR_ca (i := i) hW hS_4
          first
            | (rw [if_pos h15] at hq; exact hq)
            | (rw [if_neg h15] at hq; rw [hF4 6 (by decide)]; exact hq), by exact hS_4, by exact h0_4, by exact h2_4, by exact h3_4, (Sm_trans Sm_refl hF4 (by decide))⟩)
  · refine pw_iconst C dX10_centreAt_18 ?_
    refine pw_goto (tgt := 37) C dX10_centreAt_19 (by decide) ?_
    exact pw_iretI C dX10_centreAt_37 (⟨by
          have hq := SvR_ca (i := i) hW hS_4
          first
            | (rw [if_pos h15] at hq; exact hq)
            | (rw [if_neg h15] at hq; rw [hF4 6 (by decide)]; exact hq), by exact hS_4, by exact h0_4, by exact h2_4, by exact h3_4, (Sm_trans Sm_refl hF4 (by decide))⟩)
set_option maxHeartbeats 4000000 in
set_option maxRecDepth 100000 in
theorem c_X10_medianAt (l : Launch) (K : KX) (M : Mem) (i : Int) (hW : WfK (cf M)) (hwd : M 15 4 = 8) (hZ : Z0a M) (hfr : M 21 0 = 0 ∨ (M 21 0 = 1 ∧ SvR (cf M) M)) (hi : -2147483648 ≤ i ∧ i ≤ 2147483647) : MCi l K LAY yX10_medianAt cX10_medianAt 2 (some .int) 6 [rV K 0, iV i] M (fun r M' => (PB (cf M) (suK (cf M)) (fun b => if 0 ≤ i ∧ i < kL (cf M) then rwX (cf M) b i else -1) r) ∧ (SvR (cf M) M') ∧ (M' 21 0 = 1) ∧ (M' 15 4 = 8) ∧ (Z0a M') ∧ Sm [12, 13, 15, 16, 17, 18, 19, 20, 21, 22, 23] M M') := by
  refine mci_intro RX10 rfl [some (rV K 0), some (iV i)] rfl (by decide +kernel) (cat_r (cat_i cat_nil)) (Nat.le_of_ble_eq_true rfl) (fun X hX C => ?_)
  subst hX
  have w_let := wf_let hW
  have w_sw := wf_sw hW
  have w_dr := wf_dr hW
  have w_gp := wf_gp hW
  have w_w := wf_w hW
  have w_l := wf_l hW
  have w_l1 := wf_l1 hW
  have w_t := wf_t hW
  have hnb := bsI_rng (p := M 8) (v := 1) (n := M 6 0) (by omega)
  refine pw_aload0 C dX10_medianAt_0 ?_
  refine g_0_5 C fl_X10_51 dX10_medianAt_1 ?_
  refine pw_cVv0 C (c_X5_refresh _ K _ (hW) (hwd) (hZ) (hfr)) cb_X5_refresh lay_21 kc_5 rfl ml_X10_155 dX10_medianAt_4 (by decide) (Nat.le_of_ble_eq_true rfl) (fun M4 hQ => ?_)
  obtain ⟨hS_4, h0_4, h2_4, h3_4, hF4⟩ := hQ
  have hrg := SvR_rng hW hS_4
  refine pw_aload0 C dX10_medianAt_7 ?_
  refine g_0_5 C fl_X10_51 dX10_medianAt_8 ?_
  refine g_21_3 C fl_X10_229 dX10_medianAt_11 ?_
  refine pw_iconst C dX10_medianAt_14 ?_
  refine pw_icmp_ne (tgt := 22) C dX10_medianAt_15 (by decide) (by omega) (by omega) (fun h15 => ?_) (fun h15 => ?_)
  · have hrr := hrg.2.2.2 h15
    refine pw_aload0 C dX10_medianAt_22 ?_
    refine g_0_2 C fl_X10_26 dX10_medianAt_23 ?_
    refine pw_aload0 C dX10_medianAt_26 ?_
    refine g_0_5 C fl_X10_51 dX10_medianAt_27 ?_
    refine g_21_4 C fl_X10_230 dX10_medianAt_30 ?_
    refine pw_iload1 C dX10_medianAt_33 ?_
    have nz34_6 : M4 6 = M 6 := (hF4 6 (by decide))
    refine pw_cVi2 C (c_X9_letterOfRow _ K _ _ _ (by omega) (hi) (by rw [hF4 6 (by decide)]; omega)) cb_X9_letterOfRow lay_6 kc_9 rfl ml_X10_164 dX10_medianAt_34 (by decide) (Nat.le_of_ble_eq_true rfl) (fun r34 M34 hQ => ?_)
    obtain ⟨rfl, hMe⟩ := hQ
    replace hMe := hMe.symm
    subst hMe
    exact pw_iretI C dX10_medianAt_37 (⟨by
          have hq := SvR_ma (i := i) hW hS_4
          first
            | (rw [if_pos h15] at hq; exact hq)
            | (rw [if_neg h15] at hq; rw [hF4 6 (by decide)]; exact hq), by exact hS_4, by exact h0_4, by exact h2_4, by exact h3_4, (Sm_trans Sm_refl hF4 (by decide))⟩)
  · refine pw_iconst C dX10_medianAt_18 ?_
    refine pw_goto (tgt := 37) C dX10_medianAt_19 (by decide) ?_
    exact pw_iretI C dX10_medianAt_37 (⟨by
          have hq := SvR_ma (i := i) hW hS_4
          first
            | (rw [if_pos h15] at hq; exact hq)
            | (rw [if_neg h15] at hq; rw [hF4 6 (by decide)]; exact hq), by exact hS_4, by exact h0_4, by exact h2_4, by exact h3_4, (Sm_trans Sm_refl hF4 (by decide))⟩)
set_option maxHeartbeats 4000000 in
set_option maxRecDepth 100000 in
theorem c_X10_medians (l : Launch) (K : KX) (M : Mem) (hW : WfK (cf M)) (hwd : M 15 4 = 8) (hZ : Z0a M) (hfr : M 21 0 = 0 ∨ (M 21 0 = 1 ∧ SvR (cf M) M)) : MCi l K LAY yX10_medians cX10_medians 1 (some .int) 6 [rV K 0] M (fun r M' => (PB (cf M) (suK (cf M)) (fun b => cnI (fun j => cdK (cf M) j && decide (suK (cf M) j = suK (cf M) b)) (nK (cf M))) r) ∧ (SvR (cf M) M') ∧ (M' 21 0 = 1) ∧ (M' 15 4 = 8) ∧ (Z0a M') ∧ Sm [12, 13, 15, 16, 17, 18, 19, 20, 21, 22, 23] M M') := by
  refine mci_intro RX10 rfl [some (rV K 0)] rfl (by decide +kernel) (cat_r cat_nil) (Nat.le_of_ble_eq_true rfl) (fun X hX C => ?_)
  subst hX
  have w_let := wf_let hW
  have w_sw := wf_sw hW
  have w_dr := wf_dr hW
  have w_gp := wf_gp hW
  have w_w := wf_w hW
  have w_l := wf_l hW
  have w_l1 := wf_l1 hW
  have w_t := wf_t hW
  have hnb := bsI_rng (p := M 8) (v := 1) (n := M 6 0) (by omega)
  refine pw_aload0 C dX10_medians_0 ?_
  refine g_0_5 C fl_X10_51 dX10_medians_1 ?_
  refine pw_cVv0 C (c_X5_refresh _ K _ (hW) (hwd) (hZ) (hfr)) cb_X5_refresh lay_21 kc_5 rfl ml_X10_155 dX10_medians_4 (by decide) (Nat.le_of_ble_eq_true rfl) (fun M4 hQ => ?_)
  obtain ⟨hS_4, h0_4, h2_4, h3_4, hF4⟩ := hQ
  have hrg := SvR_rng hW hS_4
  refine pw_aload0 C dX10_medians_7 ?_
  refine g_0_5 C fl_X10_51 dX10_medians_8 ?_
  refine g_21_3 C fl_X10_229 dX10_medians_11 ?_
  refine pw_iconst C dX10_medians_14 ?_
  refine pw_icmp_ne (tgt := 22) C dX10_medians_15 (by decide) (by omega) (by omega) (fun h15 => ?_) (fun h15 => ?_)
  · refine pw_aload0 C dX10_medians_22 ?_
    refine g_0_5 C fl_X10_51 dX10_medians_23 ?_
    refine g_21_5 C fl_X10_233 dX10_medians_26 ?_
    exact pw_iretI C dX10_medians_29 (⟨by
          have hq := SvR_ms hW hS_4
          first
            | (rw [if_pos h15] at hq; exact hq)
            | (rw [if_neg h15] at hq; exact hq), by exact hS_4, by exact h0_4, by exact h2_4, by exact h3_4, (Sm_trans Sm_refl hF4 (by decide))⟩)
  · refine pw_iconst C dX10_medians_18 ?_
    refine pw_goto (tgt := 29) C dX10_medians_19 (by decide) ?_
    exact pw_iretI C dX10_medians_29 (⟨by
          have hq := SvR_ms hW hS_4
          first
            | (rw [if_pos h15] at hq; exact hq)
            | (rw [if_neg h15] at hq; exact hq), by exact hS_4, by exact h0_4, by exact h2_4, by exact h3_4, (Sm_trans Sm_refl hF4 (by decide))⟩)
set_option maxHeartbeats 4000000 in
set_option maxRecDepth 100000 in
theorem c_X10_asksWithin (l : Launch) (K : KX) (M : Mem) (r0 : Int) (hW : WfK (cf M)) (hr : -2147483648 ≤ r0 ∧ r0 ≤ 2147483647) : MCi l K LAY yX10_asksWithin cX10_asksWithin 2 (some .boolean) 3 [rV K 0, iV r0] M (fun r M' => (r = if (0 ≤ r0 ∧ r0 ≤ 63) ∧ nrB (cf M) ≠ 0 then 1 else 0) ∧ M' = M) := by
  refine mci_intro RX10 rfl [some (rV K 0), some (iV r0)] rfl (by decide +kernel) (cat_r (cat_i cat_nil)) (Nat.le_of_ble_eq_true rfl) (fun X hX C => ?_)
  subst hX
  have w_let := wf_let hW
  have w_sw := wf_sw hW
  have w_dr := wf_dr hW
  have w_gp := wf_gp hW
  have w_w := wf_w hW
  have w_l := wf_l hW
  have w_l1 := wf_l1 hW
  have w_t := wf_t hW
  have hnb := bsI_rng (p := M 8) (v := 1) (n := M 6 0) (by omega)
  have hb0 : True := trivial
  refine pw_iload1 C dX10_asksWithin_0 ?_
  refine pw_if_lt (tgt := 24) C dX10_asksWithin_1 (by decide) (by omega) (fun h1 => ?_) (fun h1 => ?_)
  · refine pw_iconst C dX10_asksWithin_24 ?_
    exact pw_zretI C dX10_asksWithin_25 (by decide) (⟨by first | rw [if_neg (by omega)] | rw [if_pos (by omega)], rfl⟩)
  · refine pw_iload1 C dX10_asksWithin_4 ?_
    refine pw_bipush C dX10_asksWithin_5 (by decide) ?_
    refine pw_icmp_gt (tgt := 24) C dX10_asksWithin_7 (by decide) (by omega) (by omega) (fun h7 => ?_) (fun h7 => ?_)
    · refine pw_iconst C dX10_asksWithin_24 ?_
      exact pw_zretI C dX10_asksWithin_25 (by decide) (⟨by first | rw [if_neg (by omega)] | rw [if_pos (by omega)], rfl⟩)
    · refine pw_aload0 C dX10_asksWithin_10 ?_
      refine g_0_2 C fl_X10_26 dX10_asksWithin_11 ?_
      refine pw_cVi0 C (c_X9_hasNear _ K _ (by omega) (wf_p hW)) cb_X9_hasNear lay_6 kc_9 rfl ml_X10_210 dX10_asksWithin_14 (by decide) (Nat.le_of_ble_eq_true rfl) (fun r14 M14 hQ => ?_)
      obtain ⟨rfl, hMe⟩ := hQ
      replace hMe := hMe.symm
      subst hMe
      refine pw_if_eq (tgt := 24) C dX10_asksWithin_17 (by decide) (by split <;> omega) (fun h17 => ?_) (fun h17 => ?_)
      · have hb9 : bsI (M 8) 1 (M 6 0) = 0 := Decidable.byContradiction fun h => by rw [if_neg h] at h17; omega
        have hb0 : nrB (cf M) = 0 := hb9
        refine pw_iconst C dX10_asksWithin_24 ?_
        exact pw_zretI C dX10_asksWithin_25 (by decide) (⟨by first | rw [if_neg (by omega)] | rw [if_pos (by omega)], rfl⟩)
      · have hb9 : bsI (M 8) 1 (M 6 0) ≠ 0 := fun h => by rw [if_pos h] at h17; omega
        have hb0 : nrB (cf M) ≠ 0 := hb9
        refine pw_iconst C dX10_asksWithin_20 ?_
        refine pw_goto (tgt := 25) C dX10_asksWithin_21 (by decide) ?_
        exact pw_zretI C dX10_asksWithin_25 (by decide) (⟨by first | rw [if_neg (by omega)] | rw [if_pos (by omega)], rfl⟩)
set_option maxHeartbeats 4000000 in
set_option maxRecDepth 100000 in
theorem c_X10_within (l : Launch) (K : KX) (M : Mem) (r0 : Int) (hW : WfK (cf M)) (hwd : M 15 4 = 8) (hZ : Z0a M) (hfr : M 21 0 = 0 ∨ (M 21 0 = 1 ∧ SvR (cf M) M)) (hr : -2147483648 ≤ r0 ∧ r0 ≤ 2147483647) : MCi l K LAY yX10_within cX10_within 2 (some .int) 6 [rV K 0, iV r0] M (fun r M' => (PW1 (cf M) r0 r) ∧ (M' 21 0 = 0 ∨ (M' 21 0 = 1 ∧ SvR (cf M) M')) ∧ (M' 15 4 = 8) ∧ (Z0a M') ∧ Sm [12, 13, 15, 16, 17, 18, 19, 20, 21, 22, 23] M M') := by
  refine mci_intro RX10 rfl [some (rV K 0), some (iV r0)] rfl (by decide +kernel) (cat_r (cat_i cat_nil)) (Nat.le_of_ble_eq_true rfl) (fun X hX C => ?_)
  subst hX
  have w_let := wf_let hW
  have w_sw := wf_sw hW
  have w_dr := wf_dr hW
  have w_gp := wf_gp hW
  have w_w := wf_w hW
  have w_l := wf_l hW
  have w_l1 := wf_l1 hW
  have w_t := wf_t hW
  have hnb := bsI_rng (p := M 8) (v := 1) (n := M 6 0) (by omega)
  refine pw_aload0 C dX10_within_0 ?_
  refine pw_iload1 C dX10_within_1 ?_
  refine pw_cVi1 C (c_X10_asksWithin _ K _ _ (hW) (hr)) cb_X10_asksWithin lay_0 kc_10 rfl ml_X10_181 dX10_within_2 (by decide) (Nat.le_of_ble_eq_true rfl) (fun r2 M2 hQ => ?_)
  obtain ⟨rfl, hMe⟩ := hQ
  replace hMe := hMe.symm
  subst hMe
  refine pw_if_ne (tgt := 10) C dX10_within_5 (by decide) (by split <;> omega) (fun h5 => ?_) (fun h5 => ?_)
  · have e5 : ((0 ≤ r0 ∧ r0 ≤ 63) ∧ nrB (cf M) ≠ 0) := Decidable.byContradiction fun h => by rw [if_neg h] at h5; omega
    refine pw_aload0 C dX10_within_10 ?_
    refine g_0_5 C fl_X10_51 dX10_within_11 ?_
    refine pw_cVv0 C (c_X5_refresh _ K _ (hW) (hwd) (hZ) (hfr)) cb_X5_refresh lay_21 kc_5 rfl ml_X10_155 dX10_within_14 (by decide) (Nat.le_of_ble_eq_true rfl) (fun M14 hQ => ?_)
    obtain ⟨hS_14, h0_14, h2_14, h3_14, hF14⟩ := hQ
    refine pw_aload0 C dX10_within_17 ?_
    refine g_0_5 C fl_X10_51 dX10_within_18 ?_
    refine g_21_6 C fl_X10_184 dX10_within_21 ?_
    refine pw_iload1 C dX10_within_24 ?_
    refine pw_iaload C lay_22 (by omega) (by decide) dX10_within_25 ?_
    exact pw_iretI C dX10_within_26 (⟨by exact Or.inl ⟨e5.1, e5.2, (hS_14.elim (fun h => absurd h.1 e5.2) (fun h => h.2)).2.2.1 r0 e5.1.1 e5.1.2⟩, by exact Or.inr ⟨h0_14, hS_14⟩, by exact h2_14, by exact h3_14, (Sm_trans Sm_refl hF14 (by decide))⟩)
  · have e5 : ¬ ((0 ≤ r0 ∧ r0 ≤ 63) ∧ nrB (cf M) ≠ 0) := fun h => by rw [if_pos h] at h5; omega
    refine pw_iconst C dX10_within_8 ?_
    exact pw_iretI C dX10_within_9 (⟨by exact Or.inr ⟨e5, rfl⟩, by exact hfr, by exact hwd, by exact hZ, Sm_refl⟩)
set_option maxHeartbeats 4000000 in
set_option maxRecDepth 100000 in
theorem c_X10_lettersAt (l : Launch) (K : KX) (M : Mem) (r0 i : Int) (hW : WfK (cf M)) (hwd : M 15 4 = 8) (hZ : Z0a M) (hfr : M 21 0 = 0 ∨ (M 21 0 = 1 ∧ SvR (cf M) M)) (hr : -2147483648 ≤ r0 ∧ r0 ≤ 2147483647) (hi : -2147483648 ≤ i ∧ i ≤ 2147483647) : MCi l K LAY yX10_lettersAt cX10_lettersAt 3 (some .int) 6 [rV K 0, iV r0, iV i] M (fun r M' => (PLt (cf M) r0 i r) ∧ (M' 21 0 = 0 ∨ (M' 21 0 = 1 ∧ SvR (cf M) M')) ∧ (M' 15 4 = 8) ∧ (Z0a M') ∧ Sm [12, 13, 15, 16, 17, 18, 19, 20, 21, 22, 23] M M') := by
  refine mci_intro RX10 rfl [some (rV K 0), some (iV r0), some (iV i)] rfl (by decide +kernel) (cat_r (cat_i (cat_i cat_nil))) (Nat.le_of_ble_eq_true rfl) (fun X hX C => ?_)
  subst hX
  have w_let := wf_let hW
  have w_sw := wf_sw hW
  have w_dr := wf_dr hW
  have w_gp := wf_gp hW
  have w_w := wf_w hW
  have w_l := wf_l hW
  have w_l1 := wf_l1 hW
  have w_t := wf_t hW
  have hnb := bsI_rng (p := M 8) (v := 1) (n := M 6 0) (by omega)
  refine pw_aload0 C dX10_lettersAt_0 ?_
  refine pw_iload1 C dX10_lettersAt_1 ?_
  refine pw_cVi1 C (c_X10_asksWithin _ K _ _ (hW) (hr)) cb_X10_asksWithin lay_0 kc_10 rfl ml_X10_181 dX10_lettersAt_2 (by decide) (Nat.le_of_ble_eq_true rfl) (fun r2 M2 hQ => ?_)
  obtain ⟨rfl, hMe⟩ := hQ
  replace hMe := hMe.symm
  subst hMe
  refine pw_if_eq (tgt := 23) C dX10_lettersAt_5 (by decide) (by split <;> omega) (fun h5 => ?_) (fun h5 => ?_)
  · have e5 : ¬ ((0 ≤ r0 ∧ r0 ≤ 63) ∧ nrB (cf M) ≠ 0) := fun h => by rw [if_pos h] at h5; omega
    refine pw_iconst C dX10_lettersAt_23 ?_
    exact pw_iretI C dX10_lettersAt_24 (⟨by first | exact Or.inr ⟨fun h => e5 ⟨h.1, h.2.1⟩, rfl⟩ | exact Or.inr ⟨fun h => by have := h.2.2; have h9 : kL (cf M) = M 6 1 := rfl; omega, rfl⟩, by exact hfr, by exact hwd, by exact hZ, Sm_refl⟩)
  · have e5 : ((0 ≤ r0 ∧ r0 ≤ 63) ∧ nrB (cf M) ≠ 0) := Decidable.byContradiction fun h => by rw [if_neg h] at h5; omega
    refine pw_iload2 C dX10_lettersAt_8 ?_
    refine pw_if_lt (tgt := 23) C dX10_lettersAt_9 (by decide) (by omega) (fun h9 => ?_) (fun h9 => ?_)
    · refine pw_iconst C dX10_lettersAt_23 ?_
      exact pw_iretI C dX10_lettersAt_24 (⟨by first | exact Or.inr ⟨fun h => e5 ⟨h.1, h.2.1⟩, rfl⟩ | exact Or.inr ⟨fun h => by have := h.2.2; have h9 : kL (cf M) = M 6 1 := rfl; omega, rfl⟩, by exact hfr, by exact hwd, by exact hZ, Sm_refl⟩)
    · refine pw_iload2 C dX10_lettersAt_12 ?_
      refine pw_aload0 C dX10_lettersAt_13 ?_
      refine g_0_2 C fl_X10_26 dX10_lettersAt_14 ?_
      refine g_6_1 C fl_X10_122 dX10_lettersAt_17 ?_
      refine pw_icmp_lt (tgt := 25) C dX10_lettersAt_20 (by decide) (by omega) (by omega) (fun h20 => ?_) (fun h20 => ?_)
      · refine pw_aload0 C dX10_lettersAt_25 ?_
        refine g_0_5 C fl_X10_51 dX10_lettersAt_26 ?_
        refine pw_cVv0 C (c_X5_refresh _ K _ (hW) (hwd) (hZ) (hfr)) cb_X5_refresh lay_21 kc_5 rfl ml_X10_155 dX10_lettersAt_29 (by decide) (Nat.le_of_ble_eq_true rfl) (fun M29 hQ => ?_)
        obtain ⟨hS_29, h0_29, h2_29, h3_29, hF29⟩ := hQ
        have hse := (hS_29.elim (fun h => absurd h.1 e5.2) (fun h => h.2)).2.2.2 r0 e5.1.1 e5.1.2
        refine pw_aload0 C dX10_lettersAt_32 ?_
        refine g_0_5 C fl_X10_51 dX10_lettersAt_33 ?_
        refine g_21_7 C fl_X10_187 dX10_lettersAt_36 ?_
        refine pw_iload1 C dX10_lettersAt_39 ?_
        refine pw_iaload C lay_23 (by omega) (by decide) dX10_lettersAt_40 ?_
        refine pw_iload2 C dX10_lettersAt_41 ?_
        refine pw_cSi2 C (c_X8_spotAt _ K _ _ _ (by have := hse.1; omega) (by omega)) cb_X8_spotAt ml_X10_190 dX10_lettersAt_42 (by decide) (Nat.le_of_ble_eq_true rfl) (fun r42 M42 hQ => ?_)
        obtain ⟨rfl, hMe⟩ := hQ
        replace hMe := hMe.symm
        subst hMe
        exact pw_iretI C dX10_lettersAt_45 (⟨by exact Or.inl ⟨⟨e5.1, e5.2, by show 0 ≤ i ∧ i < M 6 1; omega⟩, spot_lt hW (by show 0 ≤ i ∧ i < M 6 1; omega) hse⟩, by exact Or.inr ⟨h0_29, hS_29⟩, by exact h2_29, by exact h3_29, (Sm_trans Sm_refl hF29 (by decide))⟩)
      · refine pw_iconst C dX10_lettersAt_23 ?_
        exact pw_iretI C dX10_lettersAt_24 (⟨by first | exact Or.inr ⟨fun h => e5 ⟨h.1, h.2.1⟩, rfl⟩ | exact Or.inr ⟨fun h => by have := h.2.2; have h9 : kL (cf M) = M 6 1 := rfl; omega, rfl⟩, by exact hfr, by exact hwd, by exact hZ, Sm_refl⟩)
