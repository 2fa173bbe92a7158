set_option maxHeartbeats 4000000 in
set_option maxRecDepth 100000 in
theorem c_X0_aimAtAll (l : Launch) (K : KX) (M : Mem) (v : Int) (hW : WfK (cf M)) (hv : 1 ≤ v ∧ v ≤ 2) (hwd : M 15 4 = 8) (hlen : M 15 0 = M 6 1) (hT : 0 ≤ M 15 1 ∧ M 15 1 + mny (M 8) v (M 6 0) ≤ 8) : MCv l K LAY yX0_aimAtAll cX0_aimAtAll 3 none 2 [rV K 12, iV v] M (fun M' => (Aim M M' v (M 15 1) (M 6 0)) ∧ Sm [13, 15, 18] M M') := by
  refine mcv_intro RX0 rfl [some (rV K 12), some (iV v), none] rfl (by decide +kernel) (cat_r (cat_i cat_nil)) (Nat.le_of_ble_eq_true rfl) (fun X hX C => ?_)
  subst hX
  have w_let := wf_let hW
  have w_sw := wf_sw hW
  have w_dr := wf_dr hW
  have w_gp := wf_gp hW
  have w_w := wf_w hW
  have w_l := wf_l hW
  have w_l1 := wf_l1 hW
  have w_t := wf_t hW
  refine pw_iconst C dX0_aimAtAll_0 ?_
  refine pw_istore2 C (by decide) dX0_aimAtAll_1 ?_
  have cut_2 : ∀ (fu : Nat) (w : Int) (M1 : Mem), Sm [13, 15, 18] M M1 → (0 ≤ w ∧ w ≤ M 6 0) → (Aim M M1 v (M 15 1) w) → (M 6 0 - w).toNat < fu → PW X K LAY 3 (0, 0) (Zv X K LAY (fun M' => (Aim M M' v (M 15 1) (M 6 0)) ∧ Sm [13, 15, 18] M M')) 2 [some (rV K 12), some (iV v), some (iV w)] [] M1 := by
    intro fu
    induction fu with
    | zero => intro _ _ _ _ _ hm; exact absurd hm (Nat.not_lt_zero _)
    | succ fu ih =>
      intro w M1 hF2 hw hA hm
      have ih_2 := ih
      have hm_2 := hm
      refine pw_iload2 C dX0_aimAtAll_2 ?_
      refine pw_aload0 C dX0_aimAtAll_3 ?_
      refine g_12_0 C fl_X0_26 dX0_aimAtAll_4 ?_
      refine g_6_0 C fl_X0_63 dX0_aimAtAll_7 ?_
      refine pw_top C _ (congrFun (hF2 6 (by decide)) _) ?_
      refine pw_icmp_ge (tgt := 69) C dX0_aimAtAll_10 (by decide) (by omega) (by omega) (fun h10 => ?_) (fun h10 => ?_)
      · exact pw_vretV C dX0_aimAtAll_69 (⟨by rw [show M 6 0 = w by omega]; exact hA, (Sm_trans Sm_refl hF2 (by decide))⟩)
      · have hpw := wf_p hW w (by omega) (by omega)
        obtain ⟨a1, a2, a3, a4, a5⟩ := id hA
        have hm0 := mny_rng (p := M 8) (v := v) w (by omega)
        have hp2 := p2_lt (n := w) (by omega)
        refine pw_aload0 C dX0_aimAtAll_13 ?_
        refine g_12_0 C fl_X0_26 dX0_aimAtAll_14 ?_
        refine g_6_3 C fl_X0_66 dX0_aimAtAll_17 ?_
        refine pw_iload2 C dX0_aimAtAll_20 ?_
        refine pw_iaload C lay_8 (by omega) (by decide) dX0_aimAtAll_21 ?_
        refine pw_top C _ (congrFun (hF2 8 (by decide)) _) ?_
        refine pw_iload1 C dX0_aimAtAll_22 ?_
        refine pw_icmp_ne (tgt := 63) C dX0_aimAtAll_23 (by decide) (by omega) (by omega) (fun h23 => ?_) (fun h23 => ?_)
        · refine pw_iinc2 C (by decide) dX0_aimAtAll_63 ?_
          refine pw_goto (tgt := 2) C dX0_aimAtAll_66 (by decide) ?_
          exact ih_2 _ _ (Sm_trans Sm_refl hF2 (by decide)) (by omega) (by
                first
                  | exact Aim_no hA (by omega) h23
                  | (refine Aim_yes hA (by omega) (by omega) (by omega) h23 ?_ ?_ h3_60 ?_ ?_ ?_
                     · exact h1_60
                     · exact h2_60
                     · intro j; rw [hF60 13 (by decide), rd_if]
                     · intro i q1 q2; rw [h4_60 i q1 q2, hF2 7 (by decide)]
                     · exact h5_60)) (by omega)
        · have hlt := mny_lt (p := M 8) (v := v) (w := w) (n := M 6 0) (by omega) (by omega) h23
          refine pw_aload0 C dX0_aimAtAll_26 ?_
          refine g_12_3 C fl_X0_15 dX0_aimAtAll_27 ?_
          refine pw_aload0 C dX0_aimAtAll_30 ?_
          refine g_12_1 C fl_X0_35 dX0_aimAtAll_31 ?_
          refine g_15_1 C fl_X0_51 dX0_aimAtAll_34 ?_
          refine pw_iconst C dX0_aimAtAll_37 ?_
          refine pw_iload2 C dX0_aimAtAll_38 ?_
          refine pw_ishl C (1 * 2 ^ w.toNat) (b_shl (by decide) (by omega) (by omega)) dX0_aimAtAll_39 ?_
          refine pw_iastore C lay_13 (by omega) (by decide) dX0_aimAtAll_40 ?_
          refine pw_aload0 C dX0_aimAtAll_41 ?_
          refine g_12_1 C fl_X0_35 dX0_aimAtAll_42 ?_
          refine pw_aload0 C dX0_aimAtAll_45 ?_
          refine g_12_0 C fl_X0_26 dX0_aimAtAll_46 ?_
          refine g_6_2 C fl_X0_69 dX0_aimAtAll_49 ?_
          refine pw_aload0 C dX0_aimAtAll_52 ?_
          refine g_12_0 C fl_X0_26 dX0_aimAtAll_53 ?_
          refine pw_iload2 C dX0_aimAtAll_56 ?_
          refine pw_cVi1 C (c_X9_start _ K _ _) cb_X9_start lay_6 kc_9 rfl ml_X0_72 dX0_aimAtAll_57 (by decide) (Nat.le_of_ble_eq_true rfl) (fun r57 M57 hQ => ?_)
          obtain ⟨rfl, hMe⟩ := hQ
          replace hMe := hMe.symm
          subst hMe
          have nz60_15 : (up2 M1 13 (M1 15 1) (1 * 2 ^ w.toNat)) 15 = M1 15 := (up2_ne (by decide))
          refine pw_cVv2 C (c_X8_aimAt _ K _ _ (by rw [rd_nc (by decide)]; exact a2) (by rw [rd_nc (by decide)]; omega) (by rw [rd_nc (by decide)]; omega) (by rw [rd_nc (by decide)]; omega)) cb_X8_aimAt lay_15 kc_8 rfl ml_X0_75 dX0_aimAtAll_60 (by decide) (Nat.le_of_ble_eq_true rfl) (fun M60 hQ => ?_)
          obtain ⟨h1_60, h2_60, h3_60, h4_60, h5_60, hF60⟩ := hQ
          simp only [nz60_15, rd_nc (show (7 : Nat) ≠ 13 by decide), rd_nc (show (18 : Nat) ≠ 13 by decide)] at h1_60 h2_60 h4_60 h5_60
          refine pw_iinc2 C (by decide) dX0_aimAtAll_63 ?_
          refine pw_goto (tgt := 2) C dX0_aimAtAll_66 (by decide) ?_
          exact ih_2 _ _ (Sm_trans (Sm_up (Sm_trans Sm_refl hF2 (by decide)) (by decide)) hF60 (by decide)) (by omega) (by
                first
                  | exact Aim_no hA (by omega) h23
                  | (refine Aim_yes hA (by omega) (by omega) (by omega) h23 ?_ ?_ h3_60 ?_ ?_ ?_
                     · exact h1_60
                     · exact h2_60
                     · intro j; rw [hF60 13 (by decide), rd_if]
                     · intro i q1 q2; rw [h4_60 i q1 q2, hF2 7 (by decide)]
                     · exact h5_60)) (by omega)
  exact cut_2 _ _ _ Sm_refl (by omega) (by exact Aim_0 hwd rfl) (Nat.lt_succ_self _)
set_option maxHeartbeats 4000000 in
set_option maxRecDepth 100000 in
theorem c_X0_begin (l : Launch) (K : KX) (M : Mem) (hW : WfK (cf M)) (hwd : M 15 4 = 8) : MCi l K LAY yX0_begin cX0_begin 1 (some .int) 3 [rV K 12] M (fun r M' => (r = (M 1 0) ^ (M 6 1).toNat) ∧ (CdR M') ∧ (∀ i, 0 ≤ i → i < M 6 1 → M' 16 i = 0) ∧ Sm [12, 13, 15, 16, 18] M M') := by
  refine mci_intro RX0 rfl [some (rV K 12)] rfl (by decide +kernel) (cat_r cat_nil) (Nat.le_of_ble_eq_true rfl) (fun X hX C => ?_)
  subst hX
  have w_let := wf_let hW
  have w_sw := wf_sw hW
  have w_dr := wf_dr hW
  have w_gp := wf_gp hW
  have w_w := wf_w hW
  have w_l := wf_l hW
  have w_l1 := wf_l1 hW
  have w_t := wf_t hW
  have m1 := mny_rng (p := M 8) (v := 1) (M 6 0) w_w.1
  have m2 := mny_rng (p := M 8) (v := 2) (M 6 0) w_w.1
  have m3 := mny_two (p := M 8) (u := 1) (v := 2) (by decide) (M 6 0) w_w.1
  refine pw_aload0 C dX0_begin_0 ?_
  refine g_12_1 C fl_X0_35 dX0_begin_1 ?_
  refine pw_aload0 C dX0_begin_4 ?_
  refine g_12_0 C fl_X0_26 dX0_begin_5 ?_
  refine g_6_1 C fl_X0_39 dX0_begin_8 ?_
  refine pw_cVv1 C (c_X8_begin _ K _ _ (by omega)) cb_X8_begin lay_15 kc_8 rfl ml_X0_44 dX0_begin_11 (by decide) (Nat.le_of_ble_eq_true rfl) (fun M11 hQ => ?_)
  obtain ⟨h1_11, h2_11, h3_11, h4_11, hF11⟩ := hQ
  refine pw_aload0 C dX0_begin_14 ?_
  refine pw_iconst C dX0_begin_15 ?_
  have nz16_6 : M11 6 = M 6 := (hF11 6 (by decide))
  have nz16_8 : M11 8 = M 8 := (hF11 8 (by decide))
  refine pw_cVv1 C (c_X0_aimAtAll _ K _ _ (by
        have e : cf M11 = cf M := by unfold cf; rw [hF11 1 (by decide), hF11 2 (by decide), hF11 6 (by decide), hF11 7 (by decide), hF11 8 (by decide), hF11 9 (by decide), hF11 10 (by decide), hF11 11 (by decide)]
        rw [e]; exact hW) (by first | omega | (simp only [nz16_6, nz16_8]; omega)) (by rw [h3_11]; exact hwd) (by rw [h1_11, hF11 6 (by decide)]) (by rw [h2_11, hF11 6 (by decide), hF11 8 (by decide)]; omega)) cb_X0_aimAtAll lay_12 kc_0 rfl ml_X0_48 dX0_begin_16 (by decide) (Nat.le_of_ble_eq_true rfl) (fun M16 hQ => ?_)
  obtain ⟨h_16, hF16⟩ := hQ
  obtain ⟨a1, a2, a3, a4, a5⟩ := id h_16
  rw [hF11 8 (by decide), hF11 6 (by decide), h2_11, Int.zero_add] at a3
  rw [hF11 8 (by decide), hF11 6 (by decide), hF11 7 (by decide), h2_11, h1_11] at a4
  refine pw_aload0 C dX0_begin_19 ?_
  refine pw_aload0 C dX0_begin_20 ?_
  refine g_12_1 C fl_X0_35 dX0_begin_21 ?_
  refine g_15_1 C fl_X0_51 dX0_begin_24 ?_
  refine p_12_2 C fl_X0_9 dX0_begin_27 ?_
  refine pw_aload0 C dX0_begin_30 ?_
  refine g_12_4 C fl_X0_22 dX0_begin_31 ?_
  refine g_1_3 C fl_X0_54 dX0_begin_34 ?_
  refine pw_top C _ (rd_nc (by decide)) ?_
  refine pw_top C _ (congrFun (hF16 1 (by decide)) _) ?_
  refine pw_top C _ (congrFun (hF11 1 (by decide)) _) ?_
  refine pw_if_le (tgt := 45) C dX0_begin_37 (by decide) (by omega) (fun h37 => ?_) (fun h37 => ?_)
  · refine pw_aload0 C dX0_begin_45 ?_
    refine g_12_4 C fl_X0_22 dX0_begin_46 ?_
    refine pw_aload0 C dX0_begin_49 ?_
    refine g_12_0 C fl_X0_26 dX0_begin_50 ?_
    refine g_6_1 C fl_X0_39 dX0_begin_53 ?_
    refine pw_top C _ (rd_nc (by decide)) ?_
    refine pw_top C _ (congrFun (hF16 6 (by decide)) _) ?_
    refine pw_top C _ (congrFun (hF11 6 (by decide)) _) ?_
    have nz56_1 : (up2 M16 12 2 (M16 15 1)) 1 = M 1 := ((up2_ne (by decide)).trans ((hF16 1 (by decide)).trans (hF11 1 (by decide))))
    refine pw_cVi1 C (c_X3_rowsOf _ K _ _ (by first | omega | (simp only [nz56_1]; omega)) (by first | omega | (simp only [nz56_1]; omega))) cb_X3_rowsOf lay_1 kc_3 rfl ml_X0_59 dX0_begin_56 (by decide) (Nat.le_of_ble_eq_true rfl) (fun r56 M56 hQ => ?_)
    obtain ⟨rfl, hMe⟩ := hQ
    replace hMe := hMe.symm
    subst hMe
    exact pw_iretI C dX0_begin_59 (⟨by rw [nz56_1], by first | exact beg_no hF11 h1_11 h2_11 hF16 h_16 h37 | exact beg_yes hF11 h1_11 h2_11 hF16 h_16 h37 hF42 h_42 w_w.1, by
          first
            | (intro i q1 q2; rw [rd_nc (by decide), hF16 16 (by decide)]; exact h4_11 i q1 q2)
            | (intro i q1 q2; rw [hF42 16 (by decide), rd_nc (by decide), hF16 16 (by decide)]; exact h4_11 i q1 q2), (Sm_up (Sm_trans (Sm_trans Sm_refl hF11 (by decide)) hF16 (by decide)) (by decide))⟩)
  · refine pw_aload0 C dX0_begin_40 ?_
    refine pw_iconst C dX0_begin_41 ?_
    have nz42_6 : (up2 M16 12 2 (M16 15 1)) 6 = M 6 := ((up2_ne (by decide)).trans ((hF16 6 (by decide)).trans (hF11 6 (by decide))))
    have nz42_8 : (up2 M16 12 2 (M16 15 1)) 8 = M 8 := ((up2_ne (by decide)).trans ((hF16 8 (by decide)).trans (hF11 8 (by decide))))
    have nz42_15 : (up2 M16 12 2 (M16 15 1)) 15 = M16 15 := (up2_ne (by decide))
    refine pw_cVv1 C (c_X0_aimAtAll _ K _ _ (by
have e : cf (up2 M16 12 2 (M16 15 1)) = cf M := by
  unfold cf
  simp only [up2_ne (show (1 : Nat) ≠ 12 by decide), up2_ne (show (2 : Nat) ≠ 12 by decide), up2_ne (show (6 : Nat) ≠ 12 by decide), up2_ne (show (7 : Nat) ≠ 12 by decide), up2_ne (show (8 : Nat) ≠ 12 by decide), up2_ne (show (9 : Nat) ≠ 12 by decide), up2_ne (show (10 : Nat) ≠ 12 by decide), up2_ne (show (11 : Nat) ≠ 12 by decide), hF16 1 (by decide), hF16 2 (by decide), hF16 6 (by decide), hF16 7 (by decide), hF16 8 (by decide), hF16 9 (by decide), hF16 10 (by decide), hF16 11 (by decide), hF11 1 (by decide), hF11 2 (by decide), hF11 6 (by decide), hF11 7 (by decide), hF11 8 (by decide), hF11 9 (by decide), hF11 10 (by decide), hF11 11 (by decide)]
rw [e]; exact hW) (by first | omega | (simp only [nz42_6, nz42_8, nz42_15]; omega)) (by rw [rd_nc (by decide)]; exact a2) (by rw [rd_nc (by decide), rd_nc (by decide), a1, h1_11, hF16 6 (by decide), hF11 6 (by decide)]) (by rw [rd_nc (by decide), up2_ne (by decide), rd_nc (by decide), a3, hF16 8 (by decide), hF11 8 (by decide), hF16 6 (by decide), hF11 6 (by decide)]; omega)) cb_X0_aimAtAll lay_12 kc_0 rfl ml_X0_48 dX0_begin_42 (by decide) (Nat.le_of_ble_eq_true rfl) (fun M42 hQ => ?_)
    obtain ⟨h_42, hF42⟩ := hQ
    obtain ⟨b1, b2, b3, b4, b5⟩ := id h_42
    refine pw_aload0 C dX0_begin_45 ?_
    refine g_12_4 C fl_X0_22 dX0_begin_46 ?_
    refine pw_aload0 C dX0_begin_49 ?_
    refine g_12_0 C fl_X0_26 dX0_begin_50 ?_
    refine g_6_1 C fl_X0_39 dX0_begin_53 ?_
    refine pw_top C _ (congrFun (hF42 6 (by decide)) _) ?_
    refine pw_top C _ (rd_nc (by decide)) ?_
    refine pw_top C _ (congrFun (hF16 6 (by decide)) _) ?_
    refine pw_top C _ (congrFun (hF11 6 (by decide)) _) ?_
    have nz56_1 : M42 1 = M 1 := ((hF42 1 (by decide)).trans ((up2_ne (by decide)).trans ((hF16 1 (by decide)).trans (hF11 1 (by decide)))))
    refine pw_cVi1 C (c_X3_rowsOf _ K _ _ (by first | omega | (simp only [nz56_1]; omega)) (by first | omega | (simp only [nz56_1]; omega))) cb_X3_rowsOf lay_1 kc_3 rfl ml_X0_59 dX0_begin_56 (by decide) (Nat.le_of_ble_eq_true rfl) (fun r56 M56 hQ => ?_)
    obtain ⟨rfl, hMe⟩ := hQ
    replace hMe := hMe.symm
    subst hMe
    exact pw_iretI C dX0_begin_59 (⟨by rw [nz56_1], by first | exact beg_no hF11 h1_11 h2_11 hF16 h_16 h37 | exact beg_yes hF11 h1_11 h2_11 hF16 h_16 h37 hF42 h_42 w_w.1, by
          first
            | (intro i q1 q2; rw [rd_nc (by decide), hF16 16 (by decide)]; exact h4_11 i q1 q2)
            | (intro i q1 q2; rw [hF42 16 (by decide), rd_nc (by decide), hF16 16 (by decide)]; exact h4_11 i q1 q2), (Sm_trans (Sm_up (Sm_trans (Sm_trans Sm_refl hF11 (by decide)) hF16 (by decide)) (by decide)) hF42 (by decide))⟩)
set_option maxHeartbeats 4000000 in
set_option maxRecDepth 100000 in
theorem c_X0_isFarEnough (l : Launch) (K : KX) (M : Mem) (hwd : M 15 4 = 8) (hlen : 0 ≤ M 15 0 ∧ M 15 0 ≤ 7) (hT : 0 ≤ M 12 2 ∧ M 12 2 ≤ M 15 1 ∧ M 15 1 ≤ 8) (hg : 0 ≤ M 1 3 ∧ M 1 3 ≤ 63) (hs : ∀ t, 0 ≤ t → t < M 15 1 → 0 ≤ M 17 (M 15 0 * 8 + t) ∧ M 17 (M 15 0 * 8 + t) ≤ 63) : MCi l K LAY yX0_isFarEnough cX0_isFarEnough 3 (some .boolean) 2 [rV K 12] M (fun r M' => (((∀ t, M 12 2 ≤ t → t < M 15 1 → M 1 3 ≤ M 17 (M 15 0 * 8 + t)) ∧ r = 1) ∨ (¬ (∀ t, M 12 2 ≤ t → t < M 15 1 → M 1 3 ≤ M 17 (M 15 0 * 8 + t)) ∧ r = 0)) ∧ M' = M) := by
  refine mci_intro RX0 rfl [some (rV K 12), none, none] rfl (by decide +kernel) (cat_r cat_nil) (Nat.le_of_ble_eq_true rfl) (fun X hX C => ?_)
  subst hX
  refine pw_aload0 C dX0_isFarEnough_0 ?_
  refine g_12_1 C fl_X0_35 dX0_isFarEnough_1 ?_
  refine pw_cVi0 C (c_X8_whole _ K _ ) cb_X8_whole lay_15 kc_8 rfl ml_X0_79 dX0_isFarEnough_4 (by decide) (Nat.le_of_ble_eq_true rfl) (fun r4 M4 hQ => ?_)
  obtain ⟨rfl, hMe⟩ := hQ
  replace hMe := hMe.symm
  subst hMe
  refine pw_top C (M 15 0 * 8) (by rw [hwd]) ?_
  refine pw_istore1 C (by decide) dX0_isFarEnough_7 ?_
  refine pw_aload0 C dX0_isFarEnough_8 ?_
  refine g_12_2 C fl_X0_9 dX0_isFarEnough_9 ?_
  refine pw_istore2 C (by decide) dX0_isFarEnough_12 ?_
  have cut_13 : ∀ (fu : Nat) (t : Int), (M 12 2 ≤ t ∧ t ≤ M 15 1) → (∀ u, M 12 2 ≤ u → u < t → M 1 3 ≤ M 17 (M 15 0 * 8 + u)) → (M 15 1 - t).toNat < fu → PW X K LAY 3 (0, 0) (Zi X K LAY (fun r M' => (((∀ t, M 12 2 ≤ t → t < M 15 1 → M 1 3 ≤ M 17 (M 15 0 * 8 + t)) ∧ r = 1) ∨ (¬ (∀ t, M 12 2 ≤ t → t < M 15 1 → M 1 3 ≤ M 17 (M 15 0 * 8 + t)) ∧ r = 0)) ∧ M' = M)) 13 [some (rV K 12), some (iV (M 15 0 * 8)), some (iV t)] [] M := by
    intro fu
    induction fu with
    | zero => intro _ _ _ hm; exact absurd hm (Nat.not_lt_zero _)
    | succ fu ih =>
      intro t ht g hm
      have ih_13 := ih
      have hm_13 := hm
      refine pw_iload2 C dX0_isFarEnough_13 ?_
      refine pw_aload0 C dX0_isFarEnough_14 ?_
      refine g_12_1 C fl_X0_35 dX0_isFarEnough_15 ?_
      refine g_15_1 C fl_X0_51 dX0_isFarEnough_18 ?_
      refine pw_icmp_ge (tgt := 53) C dX0_isFarEnough_21 (by decide) (by omega) (by omega) (fun h21 => ?_) (fun h21 => ?_)
      · refine pw_iconst C dX0_isFarEnough_53 ?_
        exact pw_zretI C dX0_isFarEnough_54 (by decide) (⟨by exact Or.inl ⟨fun u q1 q2 => g u q1 (by omega), rfl⟩, rfl⟩)
      · have hst := hs t (by omega) (by omega)
        refine pw_aload0 C dX0_isFarEnough_24 ?_
        refine g_12_1 C fl_X0_35 dX0_isFarEnough_25 ?_
        refine g_15_3 C fl_X0_83 dX0_isFarEnough_28 ?_
        refine pw_iload1 C dX0_isFarEnough_31 ?_
        refine pw_iload2 C dX0_isFarEnough_32 ?_
        refine pw_iadd C dX0_isFarEnough_33 ?_
        refine pw_iaload C lay_17 (by omega) (by decide) dX0_isFarEnough_34 ?_
        refine pw_aload0 C dX0_isFarEnough_35 ?_
        refine g_12_4 C fl_X0_22 dX0_isFarEnough_36 ?_
        refine g_1_3 C fl_X0_54 dX0_isFarEnough_39 ?_
        refine pw_icmp_ge (tgt := 47) C dX0_isFarEnough_42 (by decide) (by omega) (by omega) (fun h42 => ?_) (fun h42 => ?_)
        · refine pw_iinc2 C (by decide) dX0_isFarEnough_47 ?_
          refine pw_goto (tgt := 13) C dX0_isFarEnough_50 (by decide) ?_
          exact ih_13 _ (by omega) (by
                intro u q1 q2
                by_cases e : u = t
                · rw [e]; omega
                · exact g u q1 (by omega)) (by omega)
        · refine pw_iconst C dX0_isFarEnough_45 ?_
          exact pw_zretI C dX0_isFarEnough_46 (by decide) (⟨by exact Or.inr ⟨fun h => by have := h t (by omega) (by omega); omega, rfl⟩, rfl⟩)
  exact cut_13 _ _ (by omega) (by intro u q1 q2; omega) (Nat.lt_succ_self _)
set_option maxHeartbeats 4000000 in
set_option maxRecDepth 100000 in
theorem c_X0_furtherThan (l : Launch) (K : KX) (M : Mem) (rr k : Int) (hW : WfK (cf M)) (hr : 0 ≤ rr ∧ rr ≤ 63) (hk : 0 ≤ k ∧ k ≤ 2147483647) : MCi l K LAY yX0_furtherThan cX0_furtherThan 5 (some .int) 2 [rV K 12, iV rr, iV k] M (fun r M' => (r = bqI (fun w => decide (M 8 w = 1) && decide (rr < Dw (cf M) (fun i => dg 4 (M 6 1) k i) w)) (M 6 0)) ∧ Sm [14] M M') := by
  refine mci_intro RX0 rfl [some (rV K 12), some (iV rr), some (iV k), none, none] rfl (by decide +kernel) (cat_r (cat_i (cat_i cat_nil))) (Nat.le_of_ble_eq_true rfl) (fun X hX C => ?_)
  subst hX
  have w_let := wf_let hW
  have w_sw := wf_sw hW
  have w_dr := wf_dr hW
  have w_gp := wf_gp hW
  have w_w := wf_w hW
  have w_l := wf_l hW
  have w_l1 := wf_l1 hW
  have w_t := wf_t hW
  refine pw_iconst C dX0_furtherThan_0 ?_
  refine pw_istore3 C (by decide) dX0_furtherThan_1 ?_
  have cut_2 : ∀ (fu : Nat) (i : Int) (M1 : Mem), Sm [14] M M1 → (0 ≤ i ∧ i ≤ M 6 1) → (∀ j, 0 ≤ j → j < i → M1 14 j = dg 4 (M 6 1) k j) → (M 6 1 - i).toNat < fu → PW X K LAY 5 (0, 0) (Zi X K LAY (fun r M' => (r = bqI (fun w => decide (M 8 w = 1) && decide (rr < Dw (cf M) (fun i => dg 4 (M 6 1) k i) w)) (M 6 0)) ∧ Sm [14] M M')) 2 [some (rV K 12), some (iV rr), some (iV k), some (iV i), none] [] M1 := by
    intro fu
    induction fu with
    | zero => intro _ _ _ _ _ hm; exact absurd hm (Nat.not_lt_zero _)
    | succ fu ih =>
      intro i M1 hF2 hi g hm
      have ih_2 := ih
      have hm_2 := hm
      refine pw_iload3 C dX0_furtherThan_2 ?_
      refine pw_aload0 C dX0_furtherThan_3 ?_
      refine g_12_0 C fl_X0_26 dX0_furtherThan_4 ?_
      refine g_6_1 C fl_X0_39 dX0_furtherThan_7 ?_
      refine pw_top C _ (congrFun (hF2 6 (by decide)) _) ?_
      refine pw_icmp_ge (tgt := 37) C dX0_furtherThan_10 (by decide) (by omega) (by omega) (fun h10 => ?_) (fun h10 => ?_)
      · have hx9 : ∀ p, 0 ≤ p → p < M 6 1 → 0 ≤ M1 14 (0 + p) ∧ M1 14 (0 + p) ≤ 3 := fun p q1 q2 => by rw [Int.zero_add, g p q1 (by omega)]; have := dg_rng (N := 4) (n := M 6 1) (k := k) (i := p) (by decide); omega
        refine pw_iconst C dX0_furtherThan_37 ?_
        refine pw_istore3 C (by decide) dX0_furtherThan_38 ?_
        refine pw_iconst C dX0_furtherThan_39 ?_
        refine pw_istore4 C (by decide) dX0_furtherThan_40 ?_
        have cut_42 : ∀ (fu : Nat) (b w : Int), (0 ≤ w ∧ w ≤ M 6 0) → (b = bqI (fun w => decide (M 8 w = 1) && decide (rr < Dw (cf M) (fun i => dg 4 (M 6 1) k i) w)) w) → (M 6 0 - w).toNat < fu → PW X K LAY 5 (0, 0) (Zi X K LAY (fun r M' => (r = bqI (fun w => decide (M 8 w = 1) && decide (rr < Dw (cf M) (fun i => dg 4 (M 6 1) k i) w)) (M 6 0)) ∧ Sm [14] M M')) 42 [some (rV K 12), some (iV rr), some (iV k), some (iV b), some (iV w)] [] M1 := by
          intro fu
          induction fu with
          | zero => intro _ _ _ _ hm; exact absurd hm (Nat.not_lt_zero _)
          | succ fu ih =>
            intro b w hw hb hm
            have ih_42 := ih
            have hm_42 := hm
            refine pw_iload4 C dX0_furtherThan_42 ?_
            refine pw_aload0 C dX0_furtherThan_44 ?_
            refine g_12_0 C fl_X0_26 dX0_furtherThan_45 ?_
            refine g_6_0 C fl_X0_63 dX0_furtherThan_48 ?_
            refine pw_top C _ (congrFun (hF2 6 (by decide)) _) ?_
            refine pw_icmp_ge (tgt := 120) C dX0_furtherThan_51 (by decide) (by omega) (by omega) (fun h51 => ?_) (fun h51 => ?_)
            · refine pw_iload3 C dX0_furtherThan_120 ?_
              exact pw_iretI C dX0_furtherThan_121 (⟨by rw [hb, show w = M 6 0 by omega], (Sm_trans Sm_refl hF2 (by decide))⟩)
            · have hpw := wf_p hW w (by omega) (by omega)
              have hrb := bqI_rng (q := (fun w => decide (M 8 w = 1) && decide (rr < Dw (cf M) (fun i => dg 4 (M 6 1) k i) w))) (n := w) (by omega)
              have h2 := p2_lt (n := w) (by omega)
              have hDr := Dw_rng hW (x := (fun i => dg 4 (M 6 1) k i)) (w := w) (by exact ⟨by omega, by show w < M 6 0; omega⟩) (fun i q1 q2 => by have := dg_rng (N := 4) (n := M 6 1) (k := k) (i := i) (by decide); omega)
              have cut_114 : ∀  (b : Int), (b = bqI (fun w => decide (M 8 w = 1) && decide (rr < Dw (cf M) (fun i => dg 4 (M 6 1) k i) w)) (w + 1)) → PW X K LAY 5 (0, 0) (Zi X K LAY (fun r M' => (r = bqI (fun w => decide (M 8 w = 1) && decide (rr < Dw (cf M) (fun i => dg 4 (M 6 1) k i) w)) (M 6 0)) ∧ Sm [14] M M')) 114 [some (rV K 12), some (iV rr), some (iV k), some (iV b), some (iV w)] [] M1 := by
                intro b hb2
                refine pw_iinc4 C (by decide) dX0_furtherThan_114 ?_
                refine pw_goto (tgt := 42) C dX0_furtherThan_117 (by decide) ?_
                exact ih_42 _ _ (by omega) (by exact hb2) (by omega)
              refine pw_aload0 C dX0_furtherThan_54 ?_
              refine g_12_0 C fl_X0_26 dX0_furtherThan_55 ?_
              refine g_6_3 C fl_X0_66 dX0_furtherThan_58 ?_
              refine pw_iload4 C dX0_furtherThan_61 ?_
              refine pw_iaload C lay_8 (by omega) (by decide) dX0_furtherThan_63 ?_
              refine pw_top C _ (congrFun (hF2 8 (by decide)) _) ?_
              refine pw_iconst C dX0_furtherThan_64 ?_
              refine pw_icmp_ne (tgt := 114) C dX0_furtherThan_65 (by decide) (by omega) (by omega) (fun h65 => ?_) (fun h65 => ?_)
              · exact cut_114 _ (by rw [hb]; exact (bqI_no (by omega) (by simp [h65])).symm)
              · refine pw_aload0 C dX0_furtherThan_68 ?_
                refine g_12_4 C fl_X0_22 dX0_furtherThan_69 ?_
                refine pw_aload0 C dX0_furtherThan_72 ?_
                refine g_12_5 C fl_X0_19 dX0_furtherThan_73 ?_
                refine pw_iconst C dX0_furtherThan_76 ?_
                refine pw_aload0 C dX0_furtherThan_77 ?_
                refine g_12_0 C fl_X0_26 dX0_furtherThan_78 ?_
                refine g_6_2 C fl_X0_69 dX0_furtherThan_81 ?_
                refine pw_aload0 C dX0_furtherThan_84 ?_
                refine g_12_0 C fl_X0_26 dX0_furtherThan_85 ?_
                refine pw_iload4 C dX0_furtherThan_88 ?_
                refine pw_cVi1 C (c_X9_start _ K _ _) cb_X9_start lay_6 kc_9 rfl ml_X0_72 dX0_furtherThan_90 (by decide) (Nat.le_of_ble_eq_true rfl) (fun r90 M90 hQ => ?_)
                obtain ⟨rfl, hMe⟩ := hQ
                replace hMe := hMe.symm
                subst hMe
                refine pw_aload0 C dX0_furtherThan_93 ?_
                refine g_12_0 C fl_X0_26 dX0_furtherThan_94 ?_
                refine g_6_1 C fl_X0_39 dX0_furtherThan_97 ?_
                refine pw_top C _ (congrFun (hF2 6 (by decide)) _) ?_
                have nz100_1 : M1 1 = M 1 := (hF2 1 (by decide))
                have nz100_2 : M1 2 = M 2 := (hF2 2 (by decide))
                refine pw_cVi5 C (c_X3_distance _ K _ 14 7 _ _ _ _ _ (lay_14) (lay_7) (by decide) (by decide) (by first | omega | (simp only [nz100_1, nz100_2]; omega)) (by first | omega | (simp only [nz100_1, nz100_2]; omega)) (by first | omega | (simp only [nz100_1, nz100_2]; omega)) (hx9) (by rw [hF2 7 (by decide)]; intro p q1 q2; have := wf_wl hW w p (by omega) (by omega) (by omega) (by omega); omega) (by rw [hF2 2 (by decide)]; exact wf_pr hW) (by first | omega | (simp only [nz100_1, nz100_2]; omega))) cb_X3_distance lay_1 kc_3 rfl ml_X0_90 dX0_furtherThan_100 (by decide) (Nat.le_of_ble_eq_true rfl) (fun r100 M100 hQ => ?_)
                obtain ⟨rfl, hMe⟩ := hQ
                replace hMe := hMe.symm
                subst hMe
                have eD : dst (M1 2) (M1 1 1) (fun p => M1 14 (0 + p)) (fun p => M1 7 (w * 7 + p)) (M 6 1) = Dw (cf M) (fun i => dg 4 (M 6 1) k i) w := by rw [hF2 2 (by decide), hF2 1 (by decide), hF2 7 (by decide)]; exact dst_congr (n := M 6 1) (fun i q1 q2 => by rw [Int.zero_add]; exact g i q1 (by omega)) (fun _ _ _ => rfl) (fun _ _ _ => rfl) (M 6 1) (by omega) (Int.le_refl _)
                refine pw_top C _ eD ?_
                refine pw_iload1 C dX0_furtherThan_103 ?_
                refine pw_icmp_le (tgt := 114) C dX0_furtherThan_104 (by decide) (by omega) (by omega) (fun h104 => ?_) (fun h104 => ?_)
                · exact cut_114 _ (by rw [hb]; exact (bqI_no (by omega) (by simp; intro _; omega)).symm)
                · refine pw_iload3 C dX0_furtherThan_107 ?_
                  refine pw_iconst C dX0_furtherThan_108 ?_
                  refine pw_iload4 C dX0_furtherThan_109 ?_
                  refine pw_ishl C (1 * 2 ^ w.toNat) (b_shl (by omega) (by omega) (by omega)) dX0_furtherThan_111 ?_
                  refine pw_ior C (((b.toNat ||| (1 * 2 ^ w.toNat : Int).toNat : Nat) : Int)) (b_or (by omega) (by omega)) dX0_furtherThan_112 ?_
                  refine pw_istore3 C (by decide) dX0_furtherThan_113 ?_
                  exact cut_114 _ (by rw [hb]; exact (bqI_yes (by omega) (by simp [h65]; omega)).symm)
        exact cut_42 _ _ _ (by omega) (by exact bqI_0.symm) (Nat.lt_succ_self _)
      · refine pw_aload0 C dX0_furtherThan_13 ?_
        refine g_12_5 C fl_X0_19 dX0_furtherThan_14 ?_
        refine pw_iload3 C dX0_furtherThan_17 ?_
        refine pw_iload2 C dX0_furtherThan_18 ?_
        refine pw_aload0 C dX0_furtherThan_19 ?_
        refine g_12_0 C fl_X0_26 dX0_furtherThan_20 ?_
        refine g_6_1 C fl_X0_39 dX0_furtherThan_23 ?_
        refine pw_top C _ (congrFun (hF2 6 (by decide)) _) ?_
        refine pw_iload3 C dX0_furtherThan_26 ?_
        refine pw_cSi3 C (c_X8_letterAt _ K _ _ _ _ (by omega) (by omega)) cb_X8_letterAt ml_X0_86 dX0_furtherThan_27 (by decide) (Nat.le_of_ble_eq_true rfl) (fun r27 M27 hQ => ?_)
        obtain ⟨rfl, hMe⟩ := hQ
        replace hMe := hMe.symm
        subst hMe
        refine pw_iastore C lay_14 (by omega) (by decide) dX0_furtherThan_30 ?_
        refine pw_iinc3 C (by decide) dX0_furtherThan_31 ?_
        refine pw_goto (tgt := 2) C dX0_furtherThan_34 (by decide) ?_
        exact ih_2 _ _ (Sm_up (Sm_trans Sm_refl hF2 (by decide)) (by decide)) (by omega) (by
              intro j q1 q2
              by_cases e : j = i
              · rw [e]; exact rd_eq
              · rw [rd_ne e]; exact g j q1 (by omega)) (by omega)
  exact cut_2 _ _ _ Sm_refl (by omega) (by intro j q1 q2; omega) (Nat.lt_succ_self _)
