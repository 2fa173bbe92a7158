set_option maxHeartbeats 4000000 in
set_option maxRecDepth 100000 in
theorem c_X4_coverAll (l : Launch) (K : KX) (M : Mem) (hMo : Mon (M 26)) (hky : (∀ S, 0 ≤ S → S < 256 → 0 ≤ M 26 S ∧ M 26 S ≤ 2147483647)) (hnb : 0 ≤ M 24 6 ∧ M 24 6 < 256) : MCv l K LAY yX4_coverAll cX4_coverAll 3 none 3 [rV K 24] M (fun M' => (∀ j, 1 ≤ j → j < 9 → ∀ r, M' 25 j ≤ r ↔ Cov (M 26) r (j - 1).toNat (M 24 6)) ∧ (∀ j, 1 ≤ j → j < 9 → 0 ≤ M' 25 j ∧ M' 25 j ≤ 131071) ∧ Sm [25, 27] M M') := by
  refine mcv_intro RX4 rfl [some (rV K 24), none, none] rfl (by decide +kernel) (cat_r cat_nil) (Nat.le_of_ble_eq_true rfl) (fun X hX C => ?_)
  subst hX
  refine pw_iconst C dX4_coverAll_0 ?_
  refine pw_istore1 C (by decide) dX4_coverAll_1 ?_
  have cut_2 : ∀ (fu : Nat) (i : Int) (M1 : Mem), Sm [27] M M1 → (0 ≤ i ∧ i ≤ 256) → (∀ j, 0 ≤ j → j < i → M1 27 j = M 26 j / 16384) → (256 - i).toNat < fu → PW X K LAY 3 (0, 0) (Zv X K LAY (fun M' => (∀ j, 1 ≤ j → j < 9 → ∀ r, M' 25 j ≤ r ↔ Cov (M 26) r (j - 1).toNat (M 24 6)) ∧ (∀ j, 1 ≤ j → j < 9 → 0 ≤ M' 25 j ∧ M' 25 j ≤ 131071) ∧ Sm [25, 27] M M')) 2 [some (rV K 24), some (iV i), none] [] M1 := by
    intro fu
    induction fu with
    | zero => intro _ _ _ _ _ hm; exact absurd hm (Nat.not_lt_zero _)
    | succ fu ih =>
      intro i M1 hF2 hi g hm
      have ih_2 := ih
      have hm_2 := hm
      refine pw_iload1 C dX4_coverAll_2 ?_
      refine pw_sipush C dX4_coverAll_3 (by decide) ?_
      refine pw_icmp_ge (tgt := 31) C dX4_coverAll_6 (by decide) (by omega) (by omega) (fun h6 => ?_) (fun h6 => ?_)
      · refine pw_aload0 C dX4_coverAll_31 ?_
        refine g_24_1 C fl_X4_15 dX4_coverAll_32 ?_
        refine pw_iconst C dX4_coverAll_35 ?_
        refine pw_aload0 C dX4_coverAll_36 ?_
        refine g_24_4 C fl_X4_22 dX4_coverAll_37 ?_
        refine pw_aload0 C dX4_coverAll_40 ?_
        refine g_24_6 C fl_X4_28 dX4_coverAll_41 ?_
        refine pw_top C _ (congrFun (hF2 24 (by decide)) _) ?_
        refine pw_iaload C lay_27 (by omega) (by decide) dX4_coverAll_44 ?_
        refine pw_iastore C lay_25 (by omega) (by decide) dX4_coverAll_45 ?_
        refine pw_iconst C dX4_coverAll_46 ?_
        refine pw_istore1 C (by decide) dX4_coverAll_47 ?_
        have cut_48 : ∀ (fu : Nat) (k : Int) (M2 : Mem), Sm [25, 27] M M2 → (2 ≤ k ∧ k ≤ 9) → (∀ j, 1 ≤ j → j < k → ∀ r, M2 25 j ≤ r ↔ Cov (M 26) r (j - 1).toNat (M 24 6)) → (∀ j, 1 ≤ j → j < k → 0 ≤ M2 25 j ∧ M2 25 j ≤ 131071) → (∀ S, 0 ≤ S → S < 256 → sub2 S (M 24 6) → ∀ r, M2 27 S ≤ r ↔ Cov (M 26) r (k - 2).toNat S) → ((∀ S, 0 ≤ S → S < 256 → 0 ≤ M2 27 S ∧ M2 27 S ≤ 131071)) → (9 - k).toNat < fu → PW X K LAY 3 (0, 0) (Zv X K LAY (fun M' => (∀ j, 1 ≤ j → j < 9 → ∀ r, M' 25 j ≤ r ↔ Cov (M 26) r (j - 1).toNat (M 24 6)) ∧ (∀ j, 1 ≤ j → j < 9 → 0 ≤ M' 25 j ∧ M' 25 j ≤ 131071) ∧ Sm [25, 27] M M')) 48 [some (rV K 24), some (iV k), none] [] M2 := by
          intro fu
          induction fu with
          | zero => intro _ _ _ _ _ _ _ _ hm; exact absurd hm (Nat.not_lt_zero _)
          | succ fu ih =>
            intro k M2 hF48 hk c1 c2 c3 c4 hm
            have ih_48 := ih
            have hm_48 := hm
            refine pw_iload1 C dX4_coverAll_48 ?_
            refine pw_bipush C dX4_coverAll_49 (by decide) ?_
            refine pw_icmp_gt (tgt := 104) C dX4_coverAll_51 (by decide) (by omega) (by omega) (fun h51 => ?_) (fun h51 => ?_)
            · exact pw_vretV C dX4_coverAll_104 (⟨by intro j q1 q2; exact c1 j q1 (by omega), by intro j q1 q2; exact c2 j q1 (by omega), (Sm_trans Sm_refl hF48 (by decide))⟩)
            · refine pw_sipush C dX4_coverAll_54 (by decide) ?_
              refine pw_istore2 C (by decide) dX4_coverAll_57 ?_
              have cut_58 : ∀ (fu : Nat) (s : Int) (M3 : Mem), Sm [27] M2 M3 → (0 ≤ s ∧ s ≤ 255) → (∀ S, 0 ≤ S → S ≤ s → sub2 S (M 24 6) → ∀ r, M3 27 S ≤ r ↔ Cov (M 26) r (k - 2).toNat S) → (∀ S, s < S → S < 256 → sub2 S (M 24 6) → ∀ r, M3 27 S ≤ r ↔ Cov (M 26) r (k - 1).toNat S) → ((∀ S, 0 ≤ S → S < 256 → 0 ≤ M3 27 S ∧ M3 27 S ≤ 131071)) → (s).toNat < fu → PW X K LAY 3 (0, 0) (Zv X K LAY (fun M' => (∀ j, 1 ≤ j → j < 9 → ∀ r, M' 25 j ≤ r ↔ Cov (M 26) r (j - 1).toNat (M 24 6)) ∧ (∀ j, 1 ≤ j → j < 9 → 0 ≤ M' 25 j ∧ M' 25 j ≤ 131071) ∧ Sm [25, 27] M M')) 58 [some (rV K 24), some (iV k), some (iV s)] [] M3 := by
                intro fu
                induction fu with
                | zero => intro _ _ _ _ _ _ _ hm; exact absurd hm (Nat.not_lt_zero _)
                | succ fu ih =>
                  intro s M3 hF58 hs e1 e2 e4 hm
                  have ih_58 := ih
                  have hm_58 := hm
                  refine pw_iload2 C dX4_coverAll_58 ?_
                  refine pw_if_le (tgt := 83) C dX4_coverAll_59 (by decide) (by omega) (fun h59 => ?_) (fun h59 => ?_)
                  · refine pw_aload0 C dX4_coverAll_83 ?_
                    refine g_24_1 C fl_X4_15 dX4_coverAll_84 ?_
                    refine pw_iload1 C dX4_coverAll_87 ?_
                    refine pw_aload0 C dX4_coverAll_88 ?_
                    refine g_24_4 C fl_X4_22 dX4_coverAll_89 ?_
                    refine pw_aload0 C dX4_coverAll_92 ?_
                    refine g_24_6 C fl_X4_28 dX4_coverAll_93 ?_
                    refine pw_top C _ (congrFun (hF58 24 (by decide)) _) ?_
                    refine pw_top C _ (congrFun (hF48 24 (by decide)) _) ?_
                    refine pw_iaload C lay_27 (by omega) (by decide) dX4_coverAll_96 ?_
                    refine pw_iastore C lay_25 (by omega) (by decide) dX4_coverAll_97 ?_
                    refine pw_iinc1 C (by decide) dX4_coverAll_98 ?_
                    refine pw_goto (tgt := 48) C dX4_coverAll_101 (by decide) ?_
                    refine pw_fgt (fgt_k (fgt_k (fgt_no fgt_nil))) ?_
                    have hall : ∀ S, 0 ≤ S → S < 256 → sub2 S (M 24 6) → ∀ r, M3 27 S ≤ r ↔ Cov (M 26) r (k - 1).toNat S := fun S q1 q2 q3 r => by
                      by_cases e : S = 0
                      · rw [e]; exact (e1 0 (by omega) (by omega) (by rw [← e]; exact q3) r).trans ((Cov_z hMo).symm.trans (Cov_z hMo))
                      · exact e2 S (by omega) q2 q3 r
                    exact ih_48 _ _ (Sm_up (Sm_trans (Sm_trans Sm_refl hF48 (by decide)) hF58 (by decide)) (by decide)) (by omega) (by
                          intro j q1 q2 r
                          by_cases e : j = k
                          · rw [e, rd_eq]; exact hall _ hnb.1 hnb.2 (sub2_rf _) r
                          · rw [rd_ne e, hF58 25 (by decide)]; exact c1 j q1 (by omega) r) (by
                          intro j q1 q2
                          by_cases e : j = k
                          · rw [e, rd_eq]; exact e4 _ hnb.1 hnb.2
                          · rw [rd_ne e, hF58 25 (by decide)]; exact c2 j q1 (by omega)) (by
                          intro S q1 q2 q3 r
                          rw [rd_nc (by decide), show k + 1 - 2 = k - 1 by omega]; exact hall S q1 q2 q3 r) (by
                          intro S q1 q2
                          rw [rd_nc (by decide)]; exact e4 S q1 q2) (by omega)
                  · have hz : (0 : Int) ≤ ((s.toNat &&& (M 24 6).toNat : Nat) : Int) ∧ ((s.toNat &&& (M 24 6).toNat : Nat) : Int) ≤ 255 := by
                      have h5 : s.toNat &&& (M 24 6).toNat ≤ s.toNat := Nat.and_le_left
                      omega
                    have cut_77 : ∀  (M4 : Mem), Sm [27] M3 M4 → (∀ S, 0 ≤ S → S ≤ s - 1 → sub2 S (M 24 6) → ∀ r, M4 27 S ≤ r ↔ Cov (M 26) r (k - 2).toNat S) → (∀ S, s - 1 < S → S < 256 → sub2 S (M 24 6) → ∀ r, M4 27 S ≤ r ↔ Cov (M 26) r (k - 1).toNat S) → ((∀ S, 0 ≤ S → S < 256 → 0 ≤ M4 27 S ∧ M4 27 S ≤ 131071)) → PW X K LAY 3 (0, 0) (Zv X K LAY (fun M' => (∀ j, 1 ≤ j → j < 9 → ∀ r, M' 25 j ≤ r ↔ Cov (M 26) r (j - 1).toNat (M 24 6)) ∧ (∀ j, 1 ≤ j → j < 9 → 0 ≤ M' 25 j ∧ M' 25 j ≤ 131071) ∧ Sm [25, 27] M M')) 77 [some (rV K 24), some (iV k), some (iV s)] [] M4 := by
                      intro M4 hF77 f1 f2 f4
                      refine pw_iinc2 C (by decide) dX4_coverAll_77 ?_
                      refine pw_goto (tgt := 58) C dX4_coverAll_80 (by decide) ?_
                      exact ih_58 _ _ (Sm_trans (Sm_trans Sm_refl hF58 (by decide)) hF77 (by decide)) (by omega) (by intro S q1 q2; exact f1 S q1 (by omega)) (by intro S q1 q2; exact f2 S (by omega) q2) (by exact f4) (by omega)
                    refine pw_iload2 C dX4_coverAll_62 ?_
                    refine pw_aload0 C dX4_coverAll_63 ?_
                    refine g_24_6 C fl_X4_28 dX4_coverAll_64 ?_
                    refine pw_top C _ (congrFun (hF58 24 (by decide)) _) ?_
                    refine pw_top C _ (congrFun (hF48 24 (by decide)) _) ?_
                    refine pw_iand C (((s.toNat &&& (M 24 6).toNat : Nat) : Int)) (b_and (by omega) (by omega)) dX4_coverAll_67 ?_
                    refine pw_iload2 C dX4_coverAll_68 ?_
                    refine pw_icmp_ne (tgt := 77) C dX4_coverAll_69 (by decide) (by omega) (by omega) (fun h69 => ?_) (fun h69 => ?_)
                    · have hns : ¬ sub2 s (M 24 6) := fun q => h69 ((sub2_and (by omega)).mpr q)
                      exact cut_77 _ Sm_refl (by intro S q1 q2; exact e1 S q1 (by omega)) (by
                            intro S q1 q2 q3
                            by_cases e : S = s
                            · rw [e] at q3; exact absurd q3 hns
                            · exact e2 S (by omega) q2 q3) (by exact e4)
                    · have hys : sub2 s (M 24 6) := (sub2_and (by omega)).mp (by omega)
                      refine pw_aload0 C dX4_coverAll_72 ?_
                      refine pw_iload2 C dX4_coverAll_73 ?_
                      have nz74_26 : M3 26 = M 26 := ((hF58 26 (by decide)).trans (hF48 26 (by decide)))
                      refine pw_cVv1 C (c_X4_partOnce _ K _ _ (by omega) (by rw [nz74_26]; exact hky) (e4)) cb_X4_partOnce lay_24 kc_4 rfl ml_X4_112 dX4_coverAll_74 (by decide) (Nat.le_of_ble_eq_true rfl) (fun M74 hQ => ?_)
                      obtain ⟨h1_74, h2_74, h3_74, hF74⟩ := hQ
                      rw [nz74_26] at h2_74
                      obtain ⟨p, p1, p2⟩ := h2_74
                      exact cut_77 _ (Sm_trans Sm_refl hF74 (by decide)) (by intro S q1 q2 q3 r; rw [h1_74 S (by omega)]; exact e1 S q1 (by omega) q3 r) (by
                            intro S q1 q2 q3 r
                            by_cases e : S = s
                            · rw [e, p2 r, show (k - 1).toNat = (k - 2).toNat + 1 by omega]
                              exact Cov_s hMo (by omega) p1 (fun T t1 t2 t3 => e1 T t1 t2 (sub2_tr t3 hys) r)
                            · rw [h1_74 S e]; exact e2 S (by omega) q2 q3 r) (by
                            intro S q1 q2
                            by_cases e : S = s
                            · rw [e]; exact h3_74
                            · rw [h1_74 S e]; exact e4 S q1 q2)
              exact cut_58 _ _ _ Sm_refl (by omega) (by intro S q1 q2; exact c3 S q1 (by omega)) (by intro S q1 q2; omega) (by exact c4) (Nat.lt_succ_self _)
        exact cut_48 _ _ _ (Sm_up (Sm_trans Sm_refl hF2 (by decide)) (by decide)) (by omega) (by
              intro j q1 q2 r
              rw [show j = 1 by omega, rd_eq, g _ hnb.1 (by omega)]
              exact Cov_0 hMo hnb) (by
              intro j q1 q2
              have h5 := hky _ hnb.1 hnb.2
              rw [show j = 1 by omega, rd_eq, g _ hnb.1 (by omega)]; omega) (by
              intro S q1 q2 _ r
              rw [rd_nc (by decide), g S q1 (by omega)]
              exact Cov_0 hMo ⟨q1, q2⟩) (by
              intro S q1 q2
              have h5 := hky _ q1 q2
              rw [rd_nc (by decide), g S q1 (by omega)]; omega) (Nat.lt_succ_self _)
      · have hki := hky i (by omega) (by omega)
        refine pw_aload0 C dX4_coverAll_9 ?_
        refine g_24_4 C fl_X4_22 dX4_coverAll_10 ?_
        refine pw_iload1 C dX4_coverAll_13 ?_
        refine pw_aload0 C dX4_coverAll_14 ?_
        refine pw_aload0 C dX4_coverAll_15 ?_
        refine g_24_3 C fl_X4_19 dX4_coverAll_16 ?_
        refine pw_iload1 C dX4_coverAll_19 ?_
        refine pw_iaload C lay_26 (by omega) (by decide) dX4_coverAll_20 ?_
        refine pw_top C _ (congrFun (hF2 26 (by decide)) _) ?_
        refine pw_cVi1 C (c_X4_reachOf _ K _ _ (hki)) cb_X4_reachOf lay_24 kc_4 rfl ml_X4_109 dX4_coverAll_21 (by decide) (Nat.le_of_ble_eq_true rfl) (fun r21 M21 hQ => ?_)
        obtain ⟨rfl, hMe⟩ := hQ
        replace hMe := hMe.symm
        subst hMe
        refine pw_iastore C lay_27 (by omega) (by decide) dX4_coverAll_24 ?_
        refine pw_iinc1 C (by decide) dX4_coverAll_25 ?_
        refine pw_goto (tgt := 2) C dX4_coverAll_28 (by decide) ?_
        exact ih_2 _ _ (Sm_up (Sm_trans Sm_refl hF2 (by decide)) (by decide)) (by omega) (by
              intro j q1 q2
              by_cases e : j = i
              · rw [e]; exact rd_eq
              · rw [rd_ne e]; exact g j q1 (by omega)) (by omega)
  exact cut_2 _ _ _ Sm_refl (by omega) (by intro j q1 q2; omega) (Nat.lt_succ_self _)
