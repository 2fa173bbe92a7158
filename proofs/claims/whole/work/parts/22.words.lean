set_option maxHeartbeats 4000000 in
set_option maxRecDepth 100000 in
theorem c_X3_distance (l : Launch) (K : KX) (M : Mem) (q1 : Nat) (q2 : Nat) (i j n : Int) (n1 n2 : Nat) (hq1 : LAY[q1]? = some (1, n1, [])) (hq2 : LAY[q2]? = some (1, n2, [])) (hnq1 : n1 < 2147483648) (hnq2 : n2 < 2147483648) (hi : 0 ≤ i ∧ i + n ≤ (n1 : Int)) (hj : 0 ≤ j ∧ j + n ≤ (n2 : Int)) (hn : 0 ≤ n ∧ n ≤ 7) (hx : ∀ p, 0 ≤ p → p < n → 0 ≤ M q1 (i + p) ∧ M q1 (i + p) ≤ 3) (hy : ∀ p, 0 ≤ p → p < n → 0 ≤ M q2 (j + p) ∧ M q2 (j + p) ≤ 3) (hpr : ∀ k, 0 ≤ k → k < 16 → 0 ≤ M 2 k ∧ M 2 k ≤ 9) (hsw : 0 ≤ (M 1 1) ∧ (M 1 1) ≤ 9) : MCi l K LAY yX3_distance cX3_distance 12 (some .int) 1 [rV K 1, rV K q1, iV i, rV K q2, iV j, iV n] M (fun r M' => (r = dst (M 2) (M 1 1) (fun p => M q1 (i + p)) (fun p => M q2 (j + p)) n) ∧ M' = M) := by
  refine mci_intro RX3 rfl [some (rV K 1), some (rV K q1), some (iV i), some (rV K q2), some (iV j), some (iV n), none, none, none, none, none, none] rfl (by decide +kernel) (cat_r (cat_r (cat_i (cat_r (cat_i (cat_i cat_nil)))))) (Nat.le_of_ble_eq_true rfl) (fun X hX C => ?_)
  subst hX
  have hc9 : ∀ p, 0 ≤ p → p < n → 0 ≤ (M 2) ((fun p => M q1 (i + p)) p * 4 + (fun p => M q2 (j + p)) p) ∧ (M 2) ((fun p => M q1 (i + p)) p * 4 + (fun p => M q2 (j + p)) p) ≤ 9 := fun p h1 h2 => hpr _ (by have := hx p h1 h2; have := hy p h1 h2; show 0 ≤ M q1 (i + p) * 4 + M q2 (j + p); omega) (by have := hx p h1 h2; have := hy p h1 h2; show M q1 (i + p) * 4 + M q2 (j + p) < 16; omega)
  have hdr := dst_rng (c := M 2) (sw := M 1 1) (x := (fun p => M q1 (i + p))) (y := (fun p => M q2 (j + p))) (n := n) hsw.1 hc9
  refine pw_iconst C dX3_distance_0 ?_
  refine pw_istore6 C (by decide) dX3_distance_1 ?_
  refine pw_iconst C dX3_distance_3 ?_
  refine pw_istore7 C (by decide) dX3_distance_4 ?_
  refine pw_iconst C dX3_distance_6 ?_
  refine pw_istore8 C (by decide) dX3_distance_7 ?_
  have cut_9 : ∀ (fu : Nat) (be nw p : Int), (0 ≤ p ∧ p ≤ n) → (nw = dst (M 2) (M 1 1) (fun p => M q1 (i + p)) (fun p => M q2 (j + p)) p) → (0 ≤ be ∧ be ≤ 63 ∧ (0 < p → be = dst (M 2) (M 1 1) (fun p => M q1 (i + p)) (fun p => M q2 (j + p)) (p - 1))) → (n - p).toNat < fu → PW X K LAY 12 (0, 0) (Zi X K LAY (fun r M' => (r = dst (M 2) (M 1 1) (fun p => M q1 (i + p)) (fun p => M q2 (j + p)) n) ∧ M' = M)) 9 [some (rV K 1), some (rV K q1), some (iV i), some (rV K q2), some (iV j), some (iV n), some (iV be), some (iV nw), some (iV p), none, none, none] [] M := by
    intro fu
    induction fu with
    | zero => intro _ _ _ _ _ _ hm; exact absurd hm (Nat.not_lt_zero _)
    | succ fu ih =>
      intro be nw p hp hnw hbe hm
      have ih_9 := ih
      have hm_9 := hm
      refine pw_iload8 C dX3_distance_9 ?_
      refine pw_iload5 C dX3_distance_11 ?_
      refine pw_icmp_ge (tgt := 117) C dX3_distance_13 (by decide) (by omega) (by omega) (fun h13 => ?_) (fun h13 => ?_)
      · refine pw_iload7 C dX3_distance_117 ?_
        exact pw_iretI C dX3_distance_119 (⟨by rw [hnw, show p = n by omega], rfl⟩)
      · have hxp := hx p (by omega) (by omega)
        have hyp := hy p (by omega) (by omega)
        have hcp := hc9 p (by omega) (by omega)
        have hd1 := hdr p (by omega) (by omega)
        have hd2 := hdr (p + 1) (by omega) (by omega)
        dsimp only at hcp
        refine pw_aload1 C dX3_distance_16 ?_
        refine pw_iload2 C dX3_distance_17 ?_
        refine pw_iload8 C dX3_distance_18 ?_
        refine pw_iadd C dX3_distance_20 ?_
        refine pw_iaload C hq1 (by omega) (hnq1) dX3_distance_21 ?_
        refine pw_istore9 C (by decide) dX3_distance_22 ?_
        refine pw_aload3 C dX3_distance_24 ?_
        refine pw_iload4 C dX3_distance_25 ?_
        refine pw_iload8 C dX3_distance_27 ?_
        refine pw_iadd C dX3_distance_29 ?_
        refine pw_iaload C hq2 (by omega) (hnq2) dX3_distance_30 ?_
        refine pw_istore10 C (by decide) dX3_distance_31 ?_
        refine pw_iload7 C dX3_distance_33 ?_
        refine pw_aload0 C dX3_distance_35 ?_
        refine g_1_4 C fl_X3_24 dX3_distance_36 ?_
        refine pw_iload9 C dX3_distance_39 ?_
        refine pw_iconst C dX3_distance_41 ?_
        refine pw_imul C dX3_distance_42 ?_
        refine pw_iload10 C dX3_distance_43 ?_
        refine pw_iadd C dX3_distance_45 ?_
        refine pw_iaload C lay_2 (by omega) (by decide) dX3_distance_46 ?_
        refine pw_iadd C dX3_distance_47 ?_
        refine pw_istore11 C (by decide) dX3_distance_48 ?_
        have cut_103 : ∀  (nx : Int), (nx = dst (M 2) (M 1 1) (fun p => M q1 (i + p)) (fun p => M q2 (j + p)) (p + 1)) → PW X K LAY 12 (0, 0) (Zi X K LAY (fun r M' => (r = dst (M 2) (M 1 1) (fun p => M q1 (i + p)) (fun p => M q2 (j + p)) n) ∧ M' = M)) 103 [some (rV K 1), some (rV K q1), some (iV i), some (rV K q2), some (iV j), some (iV n), some (iV be), some (iV nw), some (iV p), some (iV (M q1 (i + p))), some (iV (M q2 (j + p))), some (iV nx)] [] M := by
          intro nx hnx
          refine pw_iload7 C dX3_distance_103 ?_
          refine pw_istore6 C (by decide) dX3_distance_105 ?_
          refine pw_iload11 C dX3_distance_107 ?_
          refine pw_istore7 C (by decide) dX3_distance_109 ?_
          refine pw_iinc8 C (by decide) dX3_distance_111 ?_
          refine pw_goto (tgt := 9) C dX3_distance_114 (by decide) ?_
          refine pw_fgt (fgt_k (fgt_k (fgt_k (fgt_k (fgt_k (fgt_k (fgt_k (fgt_k (fgt_k (fgt_no (fgt_no (fgt_no fgt_nil)))))))))))) ?_
          exact ih_9 _ _ _ (by omega) (by exact hnx) (by rw [show p + 1 - 1 = p by omega]; exact ⟨by omega, by omega, fun _ => hnw⟩) (by omega)
        refine pw_aload0 C dX3_distance_50 ?_
        refine g_1_1 C fl_X3_15 dX3_distance_51 ?_
        refine pw_if_le (tgt := 103) C dX3_distance_54 (by decide) (by omega) (fun h54 => ?_) (fun h54 => ?_)
        · exact cut_103 _ (by rw [hnw]; exact (dst_neg (by omega) (by omega)).symm)
        · refine pw_iload8 C dX3_distance_57 ?_
          refine pw_if_le (tgt := 103) C dX3_distance_59 (by decide) (by omega) (fun h59 => ?_) (fun h59 => ?_)
          · exact cut_103 _ (by rw [hnw]; exact (dst_neg (by omega) (by omega)).symm)
          · have hxq := hx (p - 1) (by omega) (by omega)
            have hyq := hy (p - 1) (by omega) (by omega)
            refine pw_aload1 C dX3_distance_62 ?_
            refine pw_iload2 C dX3_distance_63 ?_
            refine pw_iload8 C dX3_distance_64 ?_
            refine pw_iadd C dX3_distance_66 ?_
            refine pw_iconst C dX3_distance_67 ?_
            refine pw_isub C dX3_distance_68 ?_
            refine pw_iaload C hq1 (by omega) (hnq1) dX3_distance_69 ?_
            refine pw_top C (M q1 (i + (p - 1))) (by rw [show i + p - 1 = i + (p - 1) by omega]) ?_
            refine pw_iload10 C dX3_distance_70 ?_
            refine pw_icmp_ne (tgt := 103) C dX3_distance_72 (by decide) (by omega) (by omega) (fun h72 => ?_) (fun h72 => ?_)
            · exact cut_103 _ (by rw [hnw]; exact (dst_neg (by omega) (fun h => h72 h.2.2.1)).symm)
            · refine pw_aload3 C dX3_distance_75 ?_
              refine pw_iload4 C dX3_distance_76 ?_
              refine pw_iload8 C dX3_distance_78 ?_
              refine pw_iadd C dX3_distance_80 ?_
              refine pw_iconst C dX3_distance_81 ?_
              refine pw_isub C dX3_distance_82 ?_
              refine pw_iaload C hq2 (by omega) (hnq2) dX3_distance_83 ?_
              refine pw_top C (M q2 (j + (p - 1))) (by rw [show j + p - 1 = j + (p - 1) by omega]) ?_
              refine pw_iload9 C dX3_distance_84 ?_
              refine pw_icmp_ne (tgt := 103) C dX3_distance_86 (by decide) (by omega) (by omega) (fun h86 => ?_) (fun h86 => ?_)
              · exact cut_103 _ (by rw [hnw]; exact (dst_neg (by omega) (fun h => h86 h.2.2.2)).symm)
              · refine pw_iload11 C dX3_distance_89 ?_
                refine pw_iload6 C dX3_distance_91 ?_
                refine pw_aload0 C dX3_distance_93 ?_
                refine g_1_1 C fl_X3_15 dX3_distance_94 ?_
                refine pw_iadd C dX3_distance_97 ?_
                refine pw_mmin C (by omega) (by omega) (Nat.le_of_ble_eq_true rfl) ml_X3_28 dX3_distance_98 ?_
                refine pw_istore11 C (by decide) dX3_distance_101 ?_
                exact cut_103 _ (by rw [hnw, hbe.2.2 (by omega)]; exact (dst_pos (by omega) ⟨by omega, by omega, h72, h86⟩).symm)
  exact cut_9 _ _ _ _ (by omega) (by exact dst_0.symm) (by omega) (Nat.lt_succ_self _)
set_option maxHeartbeats 4000000 in
set_option maxRecDepth 100000 in
theorem c_X9_add (l : Launch) (K : KX) (M : Mem) (n : Int) (hn : 1 ≤ n ∧ n ≤ 7) (hs : 0 ≤ (M 6 0) ∧ (M 6 0) < 8) : MCv l K LAY yX9_add cX9_add 3 none 2 [rV K 6, rV K 4, iV n] M (fun M' => (M' 6 0 = M 6 0 + 1) ∧ (M' 6 1 = n) ∧ (∀ j, M' 7 j = if M 6 0 * 7 ≤ j ∧ j < M 6 0 * 7 + n then M 4 (j - M 6 0 * 7) else M 7 j) ∧ (∀ j, M' 8 j = if j = M 6 0 then 1 else M 8 j) ∧ Sm [6, 7, 8] M M') := by
  refine mcv_intro RX9 rfl [some (rV K 6), some (rV K 4), some (iV n)] rfl (by decide +kernel) (cat_r (cat_r (cat_i cat_nil))) (Nat.le_of_ble_eq_true rfl) (fun X hX C => ?_)
  subst hX
  refine pw_aload0 C dX9_add_0 ?_
  refine pw_iload2 C dX9_add_1 ?_
  refine p_6_1 C fl_X9_15 dX9_add_2 ?_
  refine pw_aload1 C dX9_add_5 ?_
  refine pw_iconst C dX9_add_6 ?_
  refine pw_aload0 C dX9_add_7 ?_
  refine g_6_2 C fl_X9_18 dX9_add_8 ?_
  refine pw_aload0 C dX9_add_11 ?_
  refine pw_aload0 C dX9_add_12 ?_
  refine g_6_0 C fl_X9_9 dX9_add_13 ?_
  refine pw_top C _ (rd_ne (by decide)) ?_
  refine pw_cVi1 C (c_X9_start _ K _ _) cb_X9_start lay_6 kc_9 rfl ml_X9_25 dX9_add_16 (by decide) (Nat.le_of_ble_eq_true rfl) (fun r16 M16 hQ => ?_)
  obtain ⟨rfl, hMe⟩ := hQ
  replace hMe := hMe.symm
  subst hMe
  refine pw_iload2 C dX9_add_19 ?_
  refine pw_acopy (d := 1) C lay_4 lay_7 (by decide) (by decide) (by omega) (by omega) (by omega) (by omega) (by omega) (Nat.le_of_ble_eq_true rfl) ml_X9_29 dX9_add_20 (fun M20 hF20 hA20 => ?_)
  refine pw_aload0 C dX9_add_23 ?_
  refine g_6_3 C fl_X9_22 dX9_add_24 ?_
  refine pw_aload0 C dX9_add_27 ?_
  refine g_6_0 C fl_X9_9 dX9_add_28 ?_
  refine pw_top C _ (congrFun (hF20 6 (by decide)) _) ?_
  refine pw_top C _ (rd_ne (by decide)) ?_
  refine pw_iconst C dX9_add_31 ?_
  refine pw_iastore C lay_8 (by omega) (by decide) dX9_add_32 ?_
  refine pw_aload0 C dX9_add_33 ?_
  refine pw_dup C rfl dX9_add_34 ?_
  refine g_6_0 C fl_X9_9 dX9_add_35 ?_
  refine pw_top C _ (rd_nc (by decide)) ?_
  refine pw_top C _ (congrFun (hF20 6 (by decide)) _) ?_
  refine pw_top C _ (rd_ne (by decide)) ?_
  refine pw_iconst C dX9_add_38 ?_
  refine pw_iadd C dX9_add_39 ?_
  refine p_6_0 C fl_X9_9 dX9_add_40 ?_
  exact pw_vretV C dX9_add_43 (⟨by rw [rd_eq], by rw [rd_ne (by decide), rd_nc (by decide), hF20 6 (by decide)]; exact rd_eq, by intro j; rw [rd_nc (by decide), rd_nc (by decide), hA20 j, rd_nc (by decide), rd_nc (by decide), Int.zero_add], by intro j; rw [rd_nc (by decide)]; simp only [up2, true_and]; rw [congrFun (hF20 8 (by decide)) j]; rw [rd_nc (by decide)], (Sm_up (Sm_up (Sm_trans (Sm_up Sm_refl (by decide)) hF20 (by decide)) (by decide)) (by decide))⟩)
set_option maxHeartbeats 4000000 in
set_option maxRecDepth 100000 in
theorem c_X7_add (l : Launch) (K : KX) (M : Mem) (n : Int) (hn : 1 ≤ n ∧ n ≤ 24) (hs : 0 ≤ (M 9 0) ∧ (M 9 0) < 5) : MCv l K LAY yX7_add cX7_add 3 none 2 [rV K 9, rV K 4, iV n] M (fun M' => (M' 9 0 = M 9 0 + 1) ∧ (∀ j, M' 10 j = if M 9 0 * 24 ≤ j ∧ j < M 9 0 * 24 + n then M 4 (j - M 9 0 * 24) else M 10 j) ∧ (∀ j, M' 11 j = if j = M 9 0 then n else M 11 j) ∧ Sm [9, 10, 11] M M') := by
  refine mcv_intro RX7 rfl [some (rV K 9), some (rV K 4), some (iV n)] rfl (by decide +kernel) (cat_r (cat_r (cat_i cat_nil))) (Nat.le_of_ble_eq_true rfl) (fun X hX C => ?_)
  subst hX
  refine pw_aload1 C dX7_add_0 ?_
  refine pw_iconst C dX7_add_1 ?_
  refine pw_aload0 C dX7_add_2 ?_
  refine g_9_1 C fl_X7_15 dX7_add_3 ?_
  refine pw_aload0 C dX7_add_6 ?_
  refine pw_aload0 C dX7_add_7 ?_
  refine g_9_0 C fl_X7_9 dX7_add_8 ?_
  refine pw_cVi1 C (c_X7_start _ K _ _) cb_X7_start lay_9 kc_7 rfl ml_X7_22 dX7_add_11 (by decide) (Nat.le_of_ble_eq_true rfl) (fun r11 M11 hQ => ?_)
  obtain ⟨rfl, hMe⟩ := hQ
  replace hMe := hMe.symm
  subst hMe
  refine pw_iload2 C dX7_add_14 ?_
  refine pw_acopy (d := 1) C lay_4 lay_10 (by decide) (by decide) (by omega) (by omega) (by omega) (by omega) (by omega) (Nat.le_of_ble_eq_true rfl) ml_X7_26 dX7_add_15 (fun M15 hF15 hA15 => ?_)
  refine pw_aload0 C dX7_add_18 ?_
  refine g_9_2 C fl_X7_19 dX7_add_19 ?_
  refine pw_aload0 C dX7_add_22 ?_
  refine g_9_0 C fl_X7_9 dX7_add_23 ?_
  refine pw_top C _ (congrFun (hF15 9 (by decide)) _) ?_
  refine pw_iload2 C dX7_add_26 ?_
  refine pw_iastore C lay_11 (by omega) (by decide) dX7_add_27 ?_
  refine pw_aload0 C dX7_add_28 ?_
  refine pw_dup C rfl dX7_add_29 ?_
  refine g_9_0 C fl_X7_9 dX7_add_30 ?_
  refine pw_top C _ (rd_nc (by decide)) ?_
  refine pw_top C _ (congrFun (hF15 9 (by decide)) _) ?_
  refine pw_iconst C dX7_add_33 ?_
  refine pw_iadd C dX7_add_34 ?_
  refine p_9_0 C fl_X7_9 dX7_add_35 ?_
  exact pw_vretV C dX7_add_38 (⟨by rw [rd_eq], by intro j; rw [rd_nc (by decide), rd_nc (by decide), hA15 j, Int.zero_add], by intro j; rw [rd_nc (by decide)]; simp only [up2, true_and]; rw [congrFun (hF15 11 (by decide)) j], (Sm_up (Sm_up (Sm_trans Sm_refl hF15 (by decide)) (by decide)) (by decide))⟩)
set_option maxHeartbeats 4000000 in
set_option maxRecDepth 100000 in
theorem c_X10_word (l : Launch) (K : KX) (M : Mem) (hl : 2 ≤ (M 1 0) ∧ (M 1 0) ≤ 4) (hs : 0 ≤ (M 3 0) ∧ (M 3 0) ≤ 40) (hb : ∀ j, 0 ≤ j → j < (M 3 0) → -128 ≤ M 5 j ∧ M 5 j ≤ 127) (hw : 0 ≤ (M 6 0) ∧ (M 6 0) ≤ 8) (hlen : 0 ≤ (M 6 1) ∧ (M 6 1) ≤ 7) : MCi l K LAY yX10_word cX10_word 2 (some .int) 4 [rV K 0] M (fun r M' => (M' 3 0 = 0) ∧ (((allL (M 5) ((M 1 0)) ((M 3 0)) ∧ (1 ≤ (M 3 0) ∧ (M 3 0) ≤ 7) ∧ (M 6 0) < 8 ∧ (0 < (M 6 0) → (M 3 0) = (M 6 1))) ∧ r = M 6 0 ∧ M' 6 0 = M 6 0 + 1 ∧ M' 6 1 = M 3 0 ∧ (∀ j, M' 7 j = if M 6 0 * 7 ≤ j ∧ j < M 6 0 * 7 + M 3 0 then M 5 (j - M 6 0 * 7) - 97 else M 7 j) ∧ (∀ j, M' 8 j = if j = M 6 0 then 1 else M 8 j) ∧ M' 21 0 = 0 ∧ M' 24 0 = 0 ∧ M' 29 0 = 0) ∨ (¬ (allL (M 5) ((M 1 0)) ((M 3 0)) ∧ (1 ≤ (M 3 0) ∧ (M 3 0) ≤ 7) ∧ (M 6 0) < 8 ∧ (0 < (M 6 0) → (M 3 0) = (M 6 1))) ∧ r = -1 ∧ Sm [3, 4] M M')) ∧ Sm [3, 4, 6, 7, 8, 21, 24, 29] M M') := by
  refine mci_intro RX10 rfl [some (rV K 0), none] rfl (by decide +kernel) (cat_r cat_nil) (Nat.le_of_ble_eq_true rfl) (fun X hX C => ?_)
  subst hX
  refine pw_aload0 C dX10_word_0 ?_
  refine g_0_1 C fl_X10_19 dX10_word_1 ?_
  refine pw_aload0 C dX10_word_4 ?_
  refine g_0_0 C fl_X10_10 dX10_word_5 ?_
  refine g_1_0 C fl_X10_83 dX10_word_8 ?_
  refine pw_cVi1 C (c_X6_take _ K _ _ (by omega) (by omega) (hb)) cb_X6_take lay_3 kc_6 rfl ml_X10_118 dX10_word_11 (by decide) (Nat.le_of_ble_eq_true rfl) (fun r11 M11 hQ => ?_)
  obtain ⟨hz_11, hp_11, hF11⟩ := hQ
  have hr11 : (allL (M 5) (M 1 0) (M 3 0) ∧ r11 = M 3 0) ∨ (¬ allL (M 5) (M 1 0) (M 3 0) ∧ r11 = -1) := hp_11.elim (fun h => Or.inl ⟨h.1, h.2.1⟩) (fun h => Or.inr h)
  refine pw_istore1 C (by decide) dX10_word_14 ?_
  refine pw_iload1 C dX10_word_15 ?_
  refine pw_iconst C dX10_word_16 ?_
  refine pw_icmp_lt (tgt := 38) C dX10_word_17 (by decide) (by omega) (by omega) (fun h17 => ?_) (fun h17 => ?_)
  · refine pw_iconst C dX10_word_38 ?_
    exact pw_iretI C dX10_word_39 (⟨by exact hz_11, by exact Or.inr ⟨fun h => by rcases hr11 with q | q; omega; exact q.1 h.1, rfl, hF11⟩, (Sm_trans Sm_refl hF11 (by decide))⟩)
  · have hal : allL (M 5) (M 1 0) (M 3 0) ∧ r11 = M 3 0 := by rcases hr11 with h | h; exact h; omega
    have hrow : ∀ j, 0 ≤ j → j < M 3 0 → M11 4 j = M 5 j - 97 := hp_11.elim (fun h => h.2.2) (fun h => absurd h.2 (by omega))
    refine pw_iload1 C dX10_word_20 ?_
    refine pw_bipush C dX10_word_21 (by decide) ?_
    refine pw_icmp_gt (tgt := 38) C dX10_word_23 (by decide) (by omega) (by omega) (fun h23 => ?_) (fun h23 => ?_)
    · refine pw_iconst C dX10_word_38 ?_
      exact pw_iretI C dX10_word_39 (⟨by exact hz_11, by exact Or.inr ⟨fun h => by rcases hr11 with q | q; omega; exact q.1 h.1, rfl, hF11⟩, (Sm_trans Sm_refl hF11 (by decide))⟩)
    · refine pw_aload0 C dX10_word_26 ?_
      refine g_0_2 C fl_X10_26 dX10_word_27 ?_
      refine g_6_0 C fl_X10_78 dX10_word_30 ?_
      refine pw_top C _ (congrFun (hF11 6 (by decide)) _) ?_
      refine pw_bipush C dX10_word_33 (by decide) ?_
      refine pw_icmp_lt (tgt := 40) C dX10_word_35 (by decide) (by omega) (by omega) (fun h35 => ?_) (fun h35 => ?_)
      · refine pw_aload0 C dX10_word_40 ?_
        refine g_0_2 C fl_X10_26 dX10_word_41 ?_
        refine g_6_0 C fl_X10_78 dX10_word_44 ?_
        refine pw_top C _ (congrFun (hF11 6 (by decide)) _) ?_
        refine pw_if_le (tgt := 63) C dX10_word_47 (by decide) (by omega) (fun h47 => ?_) (fun h47 => ?_)
        · refine pw_aload0 C dX10_word_63 ?_
          refine g_0_2 C fl_X10_26 dX10_word_64 ?_
          refine pw_aload0 C dX10_word_67 ?_
          refine g_0_1 C fl_X10_19 dX10_word_68 ?_
          refine g_3_1 C fl_X10_125 dX10_word_71 ?_
          refine pw_iload1 C dX10_word_74 ?_
          have nz75_6 : M11 6 = M 6 := (hF11 6 (by decide))
          refine pw_cVv2 C (c_X9_add _ K _ _ (by first | omega | (simp only [nz75_6]; omega)) (by first | omega | (simp only [nz75_6]; omega))) cb_X9_add lay_6 kc_9 rfl ml_X10_129 dX10_word_75 (by decide) (Nat.le_of_ble_eq_true rfl) (fun M75 hQ => ?_)
          obtain ⟨h1_75, h2_75, h3_75, h4_75, hF75⟩ := hQ
          refine pw_aload0 C dX10_word_78 ?_
          refine pw_cVv0 C (c_X10_forgetWords _ K _ ) cb_X10_forgetWords lay_0 kc_10 rfl ml_X10_132 dX10_word_79 (by decide) (Nat.le_of_ble_eq_true rfl) (fun M79 hQ => ?_)
          obtain ⟨hp_79, hF79⟩ := hQ
          refine pw_aload0 C dX10_word_82 ?_
          refine g_0_2 C fl_X10_26 dX10_word_83 ?_
          refine g_6_0 C fl_X10_78 dX10_word_86 ?_
          refine pw_top C _ (congrFun (hF79 6 (by decide)) _) ?_
          refine pw_iconst C dX10_word_89 ?_
          refine pw_isub C dX10_word_90 ?_
          exact pw_iretI C dX10_word_91 (⟨by rw [hF79 3 (by decide), hF75 3 (by decide)]; exact hz_11, by
                refine Or.inl ⟨⟨hal.1, by omega, by omega, by omega⟩, ?_, ?_, ?_, ?_, ?_, ?_, ?_, ?_⟩
                · rw [h1_75, hF11 6 (by decide)]; omega
                · rw [hF79 6 (by decide), h1_75, hF11 6 (by decide)]
                · rw [hF79 6 (by decide), h2_75]; omega
                · intro j
                  rw [hF79 7 (by decide), h3_75 j, hF11 6 (by decide), hF11 7 (by decide), hal.2]
                  by_cases e : M 6 0 * 7 ≤ j ∧ j < M 6 0 * 7 + M 3 0
                  · rw [if_pos e, if_pos e]; exact hrow _ (by omega) (by omega)
                  · rw [if_neg e, if_neg e]
                · intro j
                  rw [hF79 8 (by decide), h4_75 j, hF11 6 (by decide), hF11 8 (by decide)]
                · rw [hp_79, rd_nc (by decide), rd_nc (by decide)]; exact rd_eq
                · rw [hp_79, rd_nc (by decide)]; exact rd_eq
                · rw [hp_79]; exact rd_eq, (Sm_trans (Sm_trans (Sm_trans Sm_refl hF11 (by decide)) hF75 (by decide)) hF79 (by decide))⟩)
        · refine pw_iload1 C dX10_word_50 ?_
          refine pw_aload0 C dX10_word_51 ?_
          refine g_0_2 C fl_X10_26 dX10_word_52 ?_
          refine g_6_1 C fl_X10_122 dX10_word_55 ?_
          refine pw_top C _ (congrFun (hF11 6 (by decide)) _) ?_
          refine pw_icmp_eq (tgt := 63) C dX10_word_58 (by decide) (by omega) (by omega) (fun h58 => ?_) (fun h58 => ?_)
          · refine pw_aload0 C dX10_word_63 ?_
            refine g_0_2 C fl_X10_26 dX10_word_64 ?_
            refine pw_aload0 C dX10_word_67 ?_
            refine g_0_1 C fl_X10_19 dX10_word_68 ?_
            refine g_3_1 C fl_X10_125 dX10_word_71 ?_
            refine pw_iload1 C dX10_word_74 ?_
            have nz75_6 : M11 6 = M 6 := (hF11 6 (by decide))
            refine pw_cVv2 C (c_X9_add _ K _ _ (by first | omega | (simp only [nz75_6]; omega)) (by first | omega | (simp only [nz75_6]; omega))) cb_X9_add lay_6 kc_9 rfl ml_X10_129 dX10_word_75 (by decide) (Nat.le_of_ble_eq_true rfl) (fun M75 hQ => ?_)
            obtain ⟨h1_75, h2_75, h3_75, h4_75, hF75⟩ := hQ
            refine pw_aload0 C dX10_word_78 ?_
            refine pw_cVv0 C (c_X10_forgetWords _ K _ ) cb_X10_forgetWords lay_0 kc_10 rfl ml_X10_132 dX10_word_79 (by decide) (Nat.le_of_ble_eq_true rfl) (fun M79 hQ => ?_)
            obtain ⟨hp_79, hF79⟩ := hQ
            refine pw_aload0 C dX10_word_82 ?_
            refine g_0_2 C fl_X10_26 dX10_word_83 ?_
            refine g_6_0 C fl_X10_78 dX10_word_86 ?_
            refine pw_top C _ (congrFun (hF79 6 (by decide)) _) ?_
            refine pw_iconst C dX10_word_89 ?_
            refine pw_isub C dX10_word_90 ?_
            exact pw_iretI C dX10_word_91 (⟨by rw [hF79 3 (by decide), hF75 3 (by decide)]; exact hz_11, by
                  refine Or.inl ⟨⟨hal.1, by omega, by omega, by omega⟩, ?_, ?_, ?_, ?_, ?_, ?_, ?_, ?_⟩
                  · rw [h1_75, hF11 6 (by decide)]; omega
                  · rw [hF79 6 (by decide), h1_75, hF11 6 (by decide)]
                  · rw [hF79 6 (by decide), h2_75]; omega
                  · intro j
                    rw [hF79 7 (by decide), h3_75 j, hF11 6 (by decide), hF11 7 (by decide), hal.2]
                    by_cases e : M 6 0 * 7 ≤ j ∧ j < M 6 0 * 7 + M 3 0
                    · rw [if_pos e, if_pos e]; exact hrow _ (by omega) (by omega)
                    · rw [if_neg e, if_neg e]
                  · intro j
                    rw [hF79 8 (by decide), h4_75 j, hF11 6 (by decide), hF11 8 (by decide)]
                  · rw [hp_79, rd_nc (by decide), rd_nc (by decide)]; exact rd_eq
                  · rw [hp_79, rd_nc (by decide)]; exact rd_eq
                  · rw [hp_79]; exact rd_eq, (Sm_trans (Sm_trans (Sm_trans Sm_refl hF11 (by decide)) hF75 (by decide)) hF79 (by decide))⟩)
          · refine pw_iconst C dX10_word_61 ?_
            exact pw_iretI C dX10_word_62 (⟨by exact hz_11, by exact Or.inr ⟨fun h => by omega, rfl, hF11⟩, (Sm_trans Sm_refl hF11 (by decide))⟩)
      · refine pw_iconst C dX10_word_38 ?_
        exact pw_iretI C dX10_word_39 (⟨by exact hz_11, by exact Or.inr ⟨fun h => by rcases hr11 with q | q; omega; exact q.1 h.1, rfl, hF11⟩, (Sm_trans Sm_refl hF11 (by decide))⟩)
set_option maxHeartbeats 4000000 in
set_option maxRecDepth 100000 in
theorem c_X10_text (l : Launch) (K : KX) (M : Mem) (hl : 2 ≤ (M 1 0) ∧ (M 1 0) ≤ 4) (hs : 0 ≤ (M 3 0) ∧ (M 3 0) ≤ 40) (hb : ∀ j, 0 ≤ j → j < (M 3 0) → -128 ≤ M 5 j ∧ M 5 j ≤ 127) (hw : 0 ≤ (M 9 0) ∧ (M 9 0) ≤ 5) : MCi l K LAY yX10_text cX10_text 2 (some .int) 4 [rV K 0] M (fun r M' => (M' 3 0 = 0) ∧ (((allL (M 5) ((M 1 0)) ((M 3 0)) ∧ (1 ≤ (M 3 0) ∧ (M 3 0) ≤ 24) ∧ (M 9 0) < 5) ∧ r = M 9 0 ∧ M' 9 0 = M 9 0 + 1 ∧ (∀ j, M' 10 j = if M 9 0 * 24 ≤ j ∧ j < M 9 0 * 24 + M 3 0 then M 5 (j - M 9 0 * 24) - 97 else M 10 j) ∧ (∀ j, M' 11 j = if j = M 9 0 then M 3 0 else M 11 j) ∧ (∀ m, 0 ≤ m → m ≤ 6 → M' 34 m = -2)) ∨ (¬ (allL (M 5) ((M 1 0)) ((M 3 0)) ∧ (1 ≤ (M 3 0) ∧ (M 3 0) ≤ 24) ∧ (M 9 0) < 5) ∧ r = -1 ∧ Sm [3, 4] M M')) ∧ Sm [3, 4, 9, 10, 11, 34] M M') := by
  refine mci_intro RX10 rfl [some (rV K 0), none] rfl (by decide +kernel) (cat_r cat_nil) (Nat.le_of_ble_eq_true rfl) (fun X hX C => ?_)
  subst hX
  refine pw_aload0 C dX10_text_0 ?_
  refine g_0_1 C fl_X10_19 dX10_text_1 ?_
  refine pw_aload0 C dX10_text_4 ?_
  refine g_0_0 C fl_X10_10 dX10_text_5 ?_
  refine g_1_0 C fl_X10_83 dX10_text_8 ?_
  refine pw_cVi1 C (c_X6_take _ K _ _ (by omega) (by omega) (hb)) cb_X6_take lay_3 kc_6 rfl ml_X10_118 dX10_text_11 (by decide) (Nat.le_of_ble_eq_true rfl) (fun r11 M11 hQ => ?_)
  obtain ⟨hz_11, hp_11, hF11⟩ := hQ
  have hr11 : (allL (M 5) (M 1 0) (M 3 0) ∧ r11 = M 3 0) ∨ (¬ allL (M 5) (M 1 0) (M 3 0) ∧ r11 = -1) := hp_11.elim (fun h => Or.inl ⟨h.1, h.2.1⟩) (fun h => Or.inr h)
  refine pw_istore1 C (by decide) dX10_text_14 ?_
  refine pw_iload1 C dX10_text_15 ?_
  refine pw_iconst C dX10_text_16 ?_
  refine pw_icmp_lt (tgt := 37) C dX10_text_17 (by decide) (by omega) (by omega) (fun h17 => ?_) (fun h17 => ?_)
  · refine pw_iconst C dX10_text_37 ?_
    exact pw_iretI C dX10_text_38 (⟨by exact hz_11, by exact Or.inr ⟨fun h => by rcases hr11 with q | q; omega; exact q.1 h.1, rfl, hF11⟩, (Sm_trans Sm_refl hF11 (by decide))⟩)
  · have hal : allL (M 5) (M 1 0) (M 3 0) ∧ r11 = M 3 0 := by rcases hr11 with h | h; exact h; omega
    have hrow : ∀ j, 0 ≤ j → j < M 3 0 → M11 4 j = M 5 j - 97 := hp_11.elim (fun h => h.2.2) (fun h => absurd h.2 (by omega))
    refine pw_iload1 C dX10_text_20 ?_
    refine pw_bipush C dX10_text_21 (by decide) ?_
    refine pw_icmp_gt (tgt := 37) C dX10_text_23 (by decide) (by omega) (by omega) (fun h23 => ?_) (fun h23 => ?_)
    · refine pw_iconst C dX10_text_37 ?_
      exact pw_iretI C dX10_text_38 (⟨by exact hz_11, by exact Or.inr ⟨fun h => by rcases hr11 with q | q; omega; exact q.1 h.1, rfl, hF11⟩, (Sm_trans Sm_refl hF11 (by decide))⟩)
    · refine pw_aload0 C dX10_text_26 ?_
      refine g_0_3 C fl_X10_33 dX10_text_27 ?_
      refine g_9_0 C fl_X10_82 dX10_text_30 ?_
      refine pw_top C _ (congrFun (hF11 9 (by decide)) _) ?_
      refine pw_iconst C dX10_text_33 ?_
      refine pw_icmp_lt (tgt := 39) C dX10_text_34 (by decide) (by omega) (by omega) (fun h34 => ?_) (fun h34 => ?_)
      · refine pw_aload0 C dX10_text_39 ?_
        refine g_0_3 C fl_X10_33 dX10_text_40 ?_
        refine pw_aload0 C dX10_text_43 ?_
        refine g_0_1 C fl_X10_19 dX10_text_44 ?_
        refine g_3_1 C fl_X10_125 dX10_text_47 ?_
        refine pw_iload1 C dX10_text_50 ?_
        have nz51_9 : M11 9 = M 9 := (hF11 9 (by decide))
        refine pw_cVv2 C (c_X7_add _ K _ _ (by first | omega | (simp only [nz51_9]; omega)) (by first | omega | (simp only [nz51_9]; omega))) cb_X7_add lay_9 kc_7 rfl ml_X10_135 dX10_text_51 (by decide) (Nat.le_of_ble_eq_true rfl) (fun M51 hQ => ?_)
        obtain ⟨h1_51, h3_51, h4_51, hF51⟩ := hQ
        refine pw_aload0 C dX10_text_54 ?_
        refine g_0_8 C fl_X10_74 dX10_text_55 ?_
        refine pw_cVv0 C (c_X2_forget _ K _ ) cb_X2_forget lay_33 kc_2 rfl ml_X10_136 dX10_text_58 (by decide) (Nat.le_of_ble_eq_true rfl) (fun M58 hQ => ?_)
        obtain ⟨hr_58, hF58⟩ := hQ
        refine pw_aload0 C dX10_text_61 ?_
        refine g_0_3 C fl_X10_33 dX10_text_62 ?_
        refine g_9_0 C fl_X10_82 dX10_text_65 ?_
        refine pw_top C _ (congrFun (hF58 9 (by decide)) _) ?_
        refine pw_iconst C dX10_text_68 ?_
        refine pw_isub C dX10_text_69 ?_
        exact pw_iretI C dX10_text_70 (⟨by rw [hF58 3 (by decide), hF51 3 (by decide)]; exact hz_11, by
              refine Or.inl ⟨⟨hal.1, by omega, by omega⟩, ?_, ?_, ?_, ?_, hr_58⟩
              · rw [h1_51, hF11 9 (by decide)]; omega
              · rw [hF58 9 (by decide), h1_51, hF11 9 (by decide)]
              · intro j
                rw [hF58 10 (by decide), h3_51 j, hF11 9 (by decide), hF11 10 (by decide), hal.2]
                by_cases e : M 9 0 * 24 ≤ j ∧ j < M 9 0 * 24 + M 3 0
                · rw [if_pos e, if_pos e]; exact hrow _ (by omega) (by omega)
                · rw [if_neg e, if_neg e]
              · intro j
                rw [hF58 11 (by decide), h4_51 j, hF11 9 (by decide), hF11 11 (by decide), hal.2], (Sm_trans (Sm_trans (Sm_trans Sm_refl hF11 (by decide)) hF51 (by decide)) hF58 (by decide))⟩)
      · refine pw_iconst C dX10_text_37 ?_
        exact pw_iretI C dX10_text_38 (⟨by exact hz_11, by exact Or.inr ⟨fun h => by rcases hr11 with q | q; omega; exact q.1 h.1, rfl, hF11⟩, (Sm_trans Sm_refl hF11 (by decide))⟩)
