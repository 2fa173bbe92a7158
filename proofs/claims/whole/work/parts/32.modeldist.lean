set_option maxHeartbeats 4000000 in
set_option maxRecDepth 100000 in
theorem c_X11_distance (l : Launch) (K : KX) (M : Mem) (q1 : Nat) (q2 : Nat) (i j n : Int) (n1 n2 : Nat) (hq1 : LAY[q1]? = some (2, n1, [])) (hq2 : LAY[q2]? = some (2, n2, [])) (hnq1 : n1 < 2147483648) (hnq2 : n2 < 2147483648) (hc1 : q1 ≠ 51) (hc2 : q2 ≠ 51) (hi : 0 ≤ i ∧ i + n ≤ (n1 : Int)) (hj : 0 ≤ j ∧ j + n ≤ (n2 : Int)) (hn : 0 ≤ n ∧ n ≤ 7) (hx : ∀ p, 0 ≤ p → p < n → 0 ≤ M q1 (i + p) ∧ M q1 (i + p) ≤ 3) (hy : ∀ p, 0 ≤ p → p < n → 0 ≤ M q2 (j + p) ∧ M q2 (j + p) ≤ 3) (hpr : ∀ k, 0 ≤ k → k < 16 → 0 ≤ M 44 k ∧ M 44 k ≤ 9) (hsw : 0 ≤ M 43 3 ∧ M 43 3 ≤ 9) : MCi l K LAY yX11_distance cX11_distance 8 (some .int) 1 [rV K 43, rV K q1, iV i, rV K q2, iV j, iV n] M (fun r M' => (r = dst (M 44) (M 43 3) (fun p => M q1 (i + p)) (fun p => M q2 (j + p)) n) ∧ Sm [51] M M') := by
  refine mci_intro RX11 rfl [some (rV K 43), some (rV K q1), some (iV i), some (rV K q2), some (iV j), some (iV n), none, none] rfl (by decide +kernel) (cat_r (cat_r (cat_i (cat_r (cat_i (cat_i cat_nil)))))) (Nat.le_of_ble_eq_true rfl) (fun X hX C => ?_)
  subst hX
  have hc9 : ∀ p, 0 ≤ p → p < n → 0 ≤ (M 44) ((fun p => M q1 (i + p)) p * 4 + (fun p => M q2 (j + p)) p) ∧ (M 44) ((fun p => M q1 (i + p)) p * 4 + (fun p => M q2 (j + p)) p) ≤ 9 := fun p h1 h2 => hpr _ (by have := hx p h1 h2; have := hy p h1 h2; show 0 ≤ M q1 (i + p) * 4 + M q2 (j + p); omega) (by have := hx p h1 h2; have := hy p h1 h2; show M q1 (i + p) * 4 + M q2 (j + p) < 16; omega)
  have hdr := dst_rng (c := M 44) (sw := M 43 3) (x := (fun p => M q1 (i + p))) (y := (fun p => M q2 (j + p))) (n := n) hsw.1 hc9
  refine pw_aload0 C dX11_distance_0 ?_
  refine g_43_20 C fl_X11_42 dX11_distance_1 ?_
  refine pw_iconst C dX11_distance_4 ?_
  refine pw_iconst C dX11_distance_5 ?_
  refine pw_iastore C lay_51 (by omega) (by decide) dX11_distance_6 ?_
  refine pw_iconst C dX11_distance_7 ?_
  refine pw_istore6 C (by decide) dX11_distance_8 ?_
  have cut_10 : ∀ (fu : Nat) (k : Int) (M1 : Mem), Sm [51] M M1 → (1 ≤ k ∧ k ≤ n + 1) → (∀ t, 0 ≤ t → t < k → M1 51 t = dst (M 44) (M 43 3) (fun p => M q1 (i + p)) (fun p => M q2 (j + p)) t) → (n + 1 - k).toNat < fu → PW X K LAY 8 (0, 0) (Zi X K LAY (fun r M' => (r = dst (M 44) (M 43 3) (fun p => M q1 (i + p)) (fun p => M q2 (j + p)) n) ∧ Sm [51] M M')) 10 [some (rV K 43), some (rV K q1), some (iV i), some (rV K q2), some (iV j), some (iV n), some (iV k), none] [] M1 := by
    intro fu
    induction fu with
    | zero => intro _ _ _ _ _ hm; exact absurd hm (Nat.not_lt_zero _)
    | succ fu ih =>
      intro k M1 hF10 hk hf hm
      have ih_10 := ih
      have hm_10 := hm
      refine pw_iload6 C dX11_distance_10 ?_
      refine pw_iload5 C dX11_distance_12 ?_
      refine pw_icmp_gt (tgt := 161) C dX11_distance_14 (by decide) (by omega) (by omega) (fun h14 => ?_) (fun h14 => ?_)
      · refine pw_aload0 C dX11_distance_161 ?_
        refine g_43_20 C fl_X11_42 dX11_distance_162 ?_
        refine pw_iload5 C dX11_distance_165 ?_
        refine pw_iaload C lay_51 (by omega) (by decide) dX11_distance_167 ?_
        exact pw_iretI C dX11_distance_168 (⟨by exact hf n (by omega) (by omega), (Sm_trans Sm_refl hF10 (by decide))⟩)
      · have hxp := hx (k - 1) (by omega) (by omega)
        have hyp := hy (k - 1) (by omega) (by omega)
        have hcp := hc9 (k - 1) (by omega) (by omega)
        have hd1 := hdr (k - 1) (by omega) (by omega)
        have hd2 := hdr k (by omega) (by omega)
        dsimp only at hcp
        refine pw_aload0 C dX11_distance_17 ?_
        refine g_43_20 C fl_X11_42 dX11_distance_18 ?_
        refine pw_iload6 C dX11_distance_21 ?_
        refine pw_aload0 C dX11_distance_23 ?_
        refine g_43_20 C fl_X11_42 dX11_distance_24 ?_
        refine pw_iload6 C dX11_distance_27 ?_
        refine pw_iconst C dX11_distance_29 ?_
        refine pw_isub C dX11_distance_30 ?_
        refine pw_iaload C lay_51 (by omega) (by decide) dX11_distance_31 ?_
        refine pw_top C (dst (M 44) (M 43 3) (fun p => M q1 (i + p)) (fun p => M q2 (j + p)) (k - 1)) (hf (k - 1) (by omega) (by omega)) ?_
        refine pw_aload0 C dX11_distance_32 ?_
        refine g_43_2 C fl_X11_16 dX11_distance_33 ?_
        refine pw_iconst C dX11_distance_36 ?_
        refine pw_aload1 C dX11_distance_37 ?_
        refine pw_iload2 C dX11_distance_38 ?_
        refine pw_iload6 C dX11_distance_39 ?_
        refine pw_iadd C dX11_distance_41 ?_
        refine pw_iconst C dX11_distance_42 ?_
        refine pw_isub C dX11_distance_43 ?_
        refine pw_baload C hq1 (by omega) (hnq1) dX11_distance_44 ?_
        refine pw_top C _ (congrFun (hF10 q1 (by simpa using hc1)) _) ?_
        refine pw_top C (M q1 (i + (k - 1))) (by rw [show i + k - 1 = i + (k - 1) by omega]) ?_
        refine pw_imul C dX11_distance_45 ?_
        refine pw_top C (M q1 (i + (k - 1)) * 4) (Int.mul_comm _ _) ?_
        refine pw_aload3 C dX11_distance_46 ?_
        refine pw_iload4 C dX11_distance_47 ?_
        refine pw_iload6 C dX11_distance_49 ?_
        refine pw_iadd C dX11_distance_51 ?_
        refine pw_iconst C dX11_distance_52 ?_
        refine pw_isub C dX11_distance_53 ?_
        refine pw_baload C hq2 (by omega) (hnq2) dX11_distance_54 ?_
        refine pw_top C _ (congrFun (hF10 q2 (by simpa using hc2)) _) ?_
        refine pw_top C (M q2 (j + (k - 1))) (by rw [show j + k - 1 = j + (k - 1) by omega]) ?_
        refine pw_iadd C dX11_distance_55 ?_
        refine pw_iaload C lay_44 (by omega) (by decide) dX11_distance_56 ?_
        refine pw_top C _ (congrFun (hF10 44 (by decide)) _) ?_
        refine pw_iadd C dX11_distance_57 ?_
        refine pw_iastore C lay_51 (by omega) (by decide) dX11_distance_58 ?_
        have cut_117 : ∀  (tf : Int) (M2 : Mem), Sm [51] M M2 → (∀ t, 0 ≤ t → t < k → M2 51 t = dst (M 44) (M 43 3) (fun p => M q1 (i + p)) (fun p => M q2 (j + p)) t) → (M2 51 k = dst (M 44) (M 43 3) (fun p => M q1 (i + p)) (fun p => M q2 (j + p)) (k - 1) + M 44 (M q1 (i + (k - 1)) * 4 + M q2 (j + (k - 1)))) → (((0 < k - 1 ∧ 0 < M 43 3 ∧ M q1 (i + (k - 1 - 1)) = M q2 (j + (k - 1)) ∧ M q2 (j + (k - 1 - 1)) = M q1 (i + (k - 1))) ∧ tf = 1) ∨ (¬ (0 < k - 1 ∧ 0 < M 43 3 ∧ M q1 (i + (k - 1 - 1)) = M q2 (j + (k - 1)) ∧ M q2 (j + (k - 1 - 1)) = M q1 (i + (k - 1))) ∧ tf = 0)) → PW X K LAY 8 (0, 0) (Zi X K LAY (fun r M' => (r = dst (M 44) (M 43 3) (fun p => M q1 (i + p)) (fun p => M q2 (j + p)) n) ∧ Sm [51] M M')) 117 [some (rV K 43), some (rV K q1), some (iV i), some (rV K q2), some (iV j), some (iV n), some (iV k), none] [iV tf] M2 := by
          intro tf M2 hF117 hf2 hf3 htf
          have htf01 : tf = 0 ∨ tf = 1 := htf.elim (fun h => Or.inr h.2) (fun h => Or.inl h.2)
          refine pw_istore7 C (by decide) dX11_distance_117 ?_
          refine pw_iload7 C dX11_distance_119 ?_
          refine pw_if_eq (tgt := 155) C dX11_distance_121 (by decide) (by omega) (fun h121 => ?_) (fun h121 => ?_)
          · have htn : ¬ (0 < k - 1 ∧ 0 < M 43 3 ∧ M q1 (i + (k - 1 - 1)) = M q2 (j + (k - 1)) ∧ M q2 (j + (k - 1 - 1)) = M q1 (i + (k - 1))) := htf.elim (fun h => absurd h.2 (by omega)) (fun h => h.1)
            refine pw_iinc6 C (by decide) dX11_distance_155 ?_
            refine pw_goto (tgt := 10) C dX11_distance_158 (by decide) ?_
            refine pw_fgt (fgt_k (fgt_k (fgt_k (fgt_k (fgt_k (fgt_k (fgt_k (fgt_no fgt_nil)))))))) ?_
            exact ih_10 _ _ (Sm_trans Sm_refl hF117 (by decide)) (by omega) (by
                  intro t h1 h2
                  by_cases q : t = k
                  · rw [q, show dst (M 44) (M 43 3) (fun p => M q1 (i + p)) (fun p => M q2 (j + p)) k = dst (M 44) (M 43 3) (fun p => M q1 (i + p)) (fun p => M q2 (j + p)) (k - 1 + 1) by rw [show k - 1 + 1 = k by omega]]
                    first
                      | (rw [rd_eq]; exact (dst_pos (by omega) htn).symm)
                      | (rw [hf3]; exact (dst_neg (by omega) htn).symm)
                  · first
                      | (rw [rd_ne q]; exact hf2 t h1 (by omega))
                      | exact hf2 t h1 (by omega)) (by omega)
          · have htn : 0 < k - 1 ∧ 0 < M 43 3 ∧ M q1 (i + (k - 1 - 1)) = M q2 (j + (k - 1)) ∧ M q2 (j + (k - 1 - 1)) = M q1 (i + (k - 1)) := htf.elim (fun h => h.1) (fun h => absurd h.2 h121)
            have hd3 := hdr (k - 1 - 1) (by omega) (by omega)
            refine pw_aload0 C dX11_distance_124 ?_
            refine g_43_20 C fl_X11_42 dX11_distance_125 ?_
            refine pw_iload6 C dX11_distance_128 ?_
            refine pw_aload0 C dX11_distance_130 ?_
            refine g_43_20 C fl_X11_42 dX11_distance_131 ?_
            refine pw_iload6 C dX11_distance_134 ?_
            refine pw_iaload C lay_51 (by omega) (by decide) dX11_distance_136 ?_
            refine pw_top C (dst (M 44) (M 43 3) (fun p => M q1 (i + p)) (fun p => M q2 (j + p)) (k - 1) + M 44 (M q1 (i + (k - 1)) * 4 + M q2 (j + (k - 1)))) hf3 ?_
            refine pw_aload0 C dX11_distance_137 ?_
            refine g_43_20 C fl_X11_42 dX11_distance_138 ?_
            refine pw_iload6 C dX11_distance_141 ?_
            refine pw_iconst C dX11_distance_143 ?_
            refine pw_isub C dX11_distance_144 ?_
            refine pw_iaload C lay_51 (by omega) (by decide) dX11_distance_145 ?_
            refine pw_top C (dst (M 44) (M 43 3) (fun p => M q1 (i + p)) (fun p => M q2 (j + p)) (k - 1 - 1)) (by rw [show k - 2 = k - 1 - 1 by omega]; exact hf2 (k - 1 - 1) (by omega) (by omega)) ?_
            refine pw_aload0 C dX11_distance_146 ?_
            refine g_43_3 C fl_X11_94 dX11_distance_147 ?_
            refine pw_top C _ (congrFun (hF117 43 (by decide)) _) ?_
            refine pw_iadd C dX11_distance_150 ?_
            refine pw_mmin C (by omega) (by omega) (Nat.le_of_ble_eq_true rfl) ml_X11_117 dX11_distance_151 ?_
            refine pw_iastore C lay_51 (by omega) (by decide) dX11_distance_154 ?_
            refine pw_iinc6 C (by decide) dX11_distance_155 ?_
            refine pw_goto (tgt := 10) C dX11_distance_158 (by decide) ?_
            refine pw_fgt (fgt_k (fgt_k (fgt_k (fgt_k (fgt_k (fgt_k (fgt_k (fgt_no fgt_nil)))))))) ?_
            exact ih_10 _ _ (Sm_up (Sm_trans Sm_refl hF117 (by decide)) (by decide)) (by omega) (by
                  intro t h1 h2
                  by_cases q : t = k
                  · rw [q, show dst (M 44) (M 43 3) (fun p => M q1 (i + p)) (fun p => M q2 (j + p)) k = dst (M 44) (M 43 3) (fun p => M q1 (i + p)) (fun p => M q2 (j + p)) (k - 1 + 1) by rw [show k - 1 + 1 = k by omega]]
                    first
                      | (rw [rd_eq]; exact (dst_pos (by omega) htn).symm)
                      | (rw [hf3]; exact (dst_neg (by omega) htn).symm)
                  · first
                      | (rw [rd_ne q]; exact hf2 t h1 (by omega))
                      | exact hf2 t h1 (by omega)) (by omega)
        refine pw_iload6 C dX11_distance_59 ?_
        refine pw_iconst C dX11_distance_61 ?_
        refine pw_icmp_le (tgt := 116) C dX11_distance_62 (by decide) (by omega) (by omega) (fun h62 => ?_) (fun h62 => ?_)
        · refine pw_iconst C dX11_distance_116 ?_
          exact cut_117 _ _ (Sm_up (Sm_trans Sm_refl hF10 (by decide)) (by decide)) (by intro t h1 h2; rw [rd_ne (by omega)]; exact hf t h1 h2) (by exact rd_eq) (by first | exact Or.inl ⟨⟨by omega, by omega, h109, h89.symm⟩, rfl⟩ | exact Or.inr ⟨fun h => h109 h.2.2.1, rfl⟩ | exact Or.inr ⟨fun h => h89 h.2.2.2.symm, rfl⟩ | exact Or.inr ⟨fun h => by omega, rfl⟩)
        · refine pw_aload0 C dX11_distance_65 ?_
          refine g_43_3 C fl_X11_94 dX11_distance_66 ?_
          refine pw_top C _ (rd_nc (by decide)) ?_
          refine pw_top C _ (congrFun (hF10 43 (by decide)) _) ?_
          refine pw_if_le (tgt := 116) C dX11_distance_69 (by decide) (by omega) (fun h69 => ?_) (fun h69 => ?_)
          · refine pw_iconst C dX11_distance_116 ?_
            exact cut_117 _ _ (Sm_up (Sm_trans Sm_refl hF10 (by decide)) (by decide)) (by intro t h1 h2; rw [rd_ne (by omega)]; exact hf t h1 h2) (by exact rd_eq) (by first | exact Or.inl ⟨⟨by omega, by omega, h109, h89.symm⟩, rfl⟩ | exact Or.inr ⟨fun h => h109 h.2.2.1, rfl⟩ | exact Or.inr ⟨fun h => h89 h.2.2.2.symm, rfl⟩ | exact Or.inr ⟨fun h => by omega, rfl⟩)
          · have hxq := hx (k - 1 - 1) (by omega) (by omega)
            have hyq := hy (k - 1 - 1) (by omega) (by omega)
            refine pw_aload1 C dX11_distance_72 ?_
            refine pw_iload2 C dX11_distance_73 ?_
            refine pw_iload6 C dX11_distance_74 ?_
            refine pw_iadd C dX11_distance_76 ?_
            refine pw_iconst C dX11_distance_77 ?_
            refine pw_isub C dX11_distance_78 ?_
            refine pw_baload C hq1 (by omega) (hnq1) dX11_distance_79 ?_
            refine pw_top C _ (rd_nc (by assumption)) ?_
            refine pw_top C _ (congrFun (hF10 q1 (by simpa using hc1)) _) ?_
            refine pw_top C (M q1 (i + (k - 1))) (by rw [show i + k - 1 = i + (k - 1) by omega]) ?_
            refine pw_aload3 C dX11_distance_80 ?_
            refine pw_iload4 C dX11_distance_81 ?_
            refine pw_iload6 C dX11_distance_83 ?_
            refine pw_iadd C dX11_distance_85 ?_
            refine pw_iconst C dX11_distance_86 ?_
            refine pw_isub C dX11_distance_87 ?_
            refine pw_baload C hq2 (by omega) (hnq2) dX11_distance_88 ?_
            refine pw_top C _ (rd_nc (by assumption)) ?_
            refine pw_top C _ (congrFun (hF10 q2 (by simpa using hc2)) _) ?_
            refine pw_top C (M q2 (j + (k - 1 - 1))) (by rw [show j + k - 2 = j + (k - 1 - 1) by omega]) ?_
            refine pw_icmp_ne (tgt := 116) C dX11_distance_89 (by decide) (by omega) (by omega) (fun h89 => ?_) (fun h89 => ?_)
            · refine pw_iconst C dX11_distance_116 ?_
              exact cut_117 _ _ (Sm_up (Sm_trans Sm_refl hF10 (by decide)) (by decide)) (by intro t h1 h2; rw [rd_ne (by omega)]; exact hf t h1 h2) (by exact rd_eq) (by first | exact Or.inl ⟨⟨by omega, by omega, h109, h89.symm⟩, rfl⟩ | exact Or.inr ⟨fun h => h109 h.2.2.1, rfl⟩ | exact Or.inr ⟨fun h => h89 h.2.2.2.symm, rfl⟩ | exact Or.inr ⟨fun h => by omega, rfl⟩)
            · refine pw_aload1 C dX11_distance_92 ?_
              refine pw_iload2 C dX11_distance_93 ?_
              refine pw_iload6 C dX11_distance_94 ?_
              refine pw_iadd C dX11_distance_96 ?_
              refine pw_iconst C dX11_distance_97 ?_
              refine pw_isub C dX11_distance_98 ?_
              refine pw_baload C hq1 (by omega) (hnq1) dX11_distance_99 ?_
              refine pw_top C _ (rd_nc (by assumption)) ?_
              refine pw_top C _ (congrFun (hF10 q1 (by simpa using hc1)) _) ?_
              refine pw_top C (M q1 (i + (k - 1 - 1))) (by rw [show i + k - 2 = i + (k - 1 - 1) by omega]) ?_
              refine pw_aload3 C dX11_distance_100 ?_
              refine pw_iload4 C dX11_distance_101 ?_
              refine pw_iload6 C dX11_distance_103 ?_
              refine pw_iadd C dX11_distance_105 ?_
              refine pw_iconst C dX11_distance_106 ?_
              refine pw_isub C dX11_distance_107 ?_
              refine pw_baload C hq2 (by omega) (hnq2) dX11_distance_108 ?_
              refine pw_top C _ (rd_nc (by assumption)) ?_
              refine pw_top C _ (congrFun (hF10 q2 (by simpa using hc2)) _) ?_
              refine pw_top C (M q2 (j + (k - 1))) (by rw [show j + k - 1 = j + (k - 1) by omega]) ?_
              refine pw_icmp_ne (tgt := 116) C dX11_distance_109 (by decide) (by omega) (by omega) (fun h109 => ?_) (fun h109 => ?_)
              · refine pw_iconst C dX11_distance_116 ?_
                exact cut_117 _ _ (Sm_up (Sm_trans Sm_refl hF10 (by decide)) (by decide)) (by intro t h1 h2; rw [rd_ne (by omega)]; exact hf t h1 h2) (by exact rd_eq) (by first | exact Or.inl ⟨⟨by omega, by omega, h109, h89.symm⟩, rfl⟩ | exact Or.inr ⟨fun h => h109 h.2.2.1, rfl⟩ | exact Or.inr ⟨fun h => h89 h.2.2.2.symm, rfl⟩ | exact Or.inr ⟨fun h => by omega, rfl⟩)
              · refine pw_iconst C dX11_distance_112 ?_
                refine pw_goto (tgt := 117) C dX11_distance_113 (by decide) ?_
                exact cut_117 _ _ (Sm_up (Sm_trans Sm_refl hF10 (by decide)) (by decide)) (by intro t h1 h2; rw [rd_ne (by omega)]; exact hf t h1 h2) (by exact rd_eq) (by first | exact Or.inl ⟨⟨by omega, by omega, h109, h89.symm⟩, rfl⟩ | exact Or.inr ⟨fun h => h109 h.2.2.1, rfl⟩ | exact Or.inr ⟨fun h => h89 h.2.2.2.symm, rfl⟩ | exact Or.inr ⟨fun h => by omega, rfl⟩)
  exact cut_10 _ _ _ (Sm_up Sm_refl (by decide)) (by omega) (by intro t h1 h2; rw [show t = 0 by omega, rd_eq, dst_0]) (Nat.lt_succ_self _)
