theorem ed_mulc {c : Int → Int} {dr : Int} {x y : Int → Int} {i : Int} (h : 0 ≤ i) : dr * i = edI c dr x y i 0 := by rw [edI_z i h, Int.mul_comm]
theorem ed_mul0 {c : Int → Int} {dr : Int} {x y : Int → Int} {k : Int} : dr * k = edI c dr x y 0 k := by rw [edI_0, Int.mul_comm]
set_option maxHeartbeats 4000000 in
set_option maxRecDepth 100000 in
theorem c_X11_edits (l : Launch) (K : KX) (M : Mem) (q1 : Nat) (q2 : Nat) (fr n st m : Int) (n1 n2 : Nat) (hq1 : LAY[q1]? = some (2, n1, [])) (hq2 : LAY[q2]? = some (2, n2, [])) (hnq1 : n1 < 2147483648) (hnq2 : n2 < 2147483648) (hc1 : q1 ≠ 56) (hc2 : q2 ≠ 56) (hi : 0 ≤ fr ∧ fr + n ≤ (n1 : Int)) (hj : 0 ≤ st ∧ st + m ≤ (n2 : Int)) (hn : 0 ≤ n ∧ n ≤ 8) (hm0 : 0 ≤ m ∧ m ≤ 8) (hx : ∀ p, 0 ≤ p → p < n → 0 ≤ M q1 (fr + p) ∧ M q1 (fr + p) ≤ 3) (hy : ∀ p, 0 ≤ p → p < m → 0 ≤ M q2 (st + p) ∧ M q2 (st + p) ≤ 3) (hpr : ∀ k, 0 ≤ k → k < 16 → 0 ≤ M 44 k ∧ M 44 k ≤ 9) (hdr : 1 ≤ M 43 4 ∧ M 43 4 ≤ 9) : MCi l K LAY yX11_edits cX11_edits 10 (some .int) 2 [rV K 43, rV K q1, iV fr, iV n, rV K q2, iV st, iV m] M (fun r M' => (r = edI (M 44) (M 43 4) (fun t => M q1 (fr + t)) (fun t => M q2 (st + t)) n m) ∧ Sm [56] M M') := by
  refine mci_intro RX11 rfl [some (rV K 43), some (rV K q1), some (iV fr), some (iV n), some (rV K q2), some (iV st), some (iV m), none, none, none] rfl (by decide +kernel) (cat_r (cat_r (cat_i (cat_i (cat_r (cat_i (cat_i cat_nil))))))) (Nat.le_of_ble_eq_true rfl) (fun X hX C => ?_)
  subst hX
  have hrg := edI_rng (c := M 44) (dr := M 43 4) (x := (fun t => M q1 (fr + t))) (y := fun t => M q2 (st + t)) (n := n) (m := m) (by omega) (fun i k z1 z2 z3 z4 => (hpr _ (by have := hx i z1 z2; have := hy k z3 z4; show 0 ≤ M q1 (fr + i) * 4 + M q2 (st + k); omega) (by have := hx i z1 z2; have := hy k z3 z4; show M q1 (fr + i) * 4 + M q2 (st + k) < 16; omega)).1)
  refine pw_iconst C dX11_edits_0 ?_
  refine pw_istore7 C (by decide) dX11_edits_1 ?_
  have cut_3 : ∀ (fu : Nat) (i : Int) (M1 : Mem), Sm [56] M M1 → (0 ≤ i ∧ i ≤ n + 1) → (∀ u, 0 ≤ u → u < i → ∀ k, 0 ≤ k → k ≤ m → M1 56 (9 * u + k) = edI (M 44) (M 43 4) (fun t => M q1 (fr + t)) (fun t => M q2 (st + t)) u k) → (n + 1 - i).toNat < fu → PW X K LAY 10 (0, 0) (Zi X K LAY (fun r M' => (r = edI (M 44) (M 43 4) (fun t => M q1 (fr + t)) (fun t => M q2 (st + t)) n m) ∧ Sm [56] M M')) 3 [some (rV K 43), some (rV K q1), some (iV fr), some (iV n), some (rV K q2), some (iV st), some (iV m), some (iV i), none, none] [] M1 := by
    intro fu
    induction fu with
    | zero => intro _ _ _ _ _ hm; exact absurd hm (Nat.not_lt_zero _)
    | succ fu ih =>
      intro i M1 hF3 hi9 g hm
      have ih_3 := ih
      have hm_3 := hm
      refine pw_iload7 C dX11_edits_3 ?_
      refine pw_iload3 C dX11_edits_5 ?_
      refine pw_icmp_gt (tgt := 177) C dX11_edits_6 (by decide) (by omega) (by omega) (fun h6 => ?_) (fun h6 => ?_)
      · refine pw_aload0 C dX11_edits_177 ?_
        refine g_43_26 C fl_X11_59 dX11_edits_178 ?_
        refine pw_bipush C dX11_edits_181 (by decide) ?_
        refine pw_iload3 C dX11_edits_183 ?_
        refine pw_imul C dX11_edits_184 ?_
        refine pw_iload6 C dX11_edits_185 ?_
        refine pw_iadd C dX11_edits_187 ?_
        refine pw_iaload C lay_56 (by omega) (by decide) dX11_edits_188 ?_
        exact pw_iretI C dX11_edits_189 (⟨by exact g n (by omega) (by omega) m (by omega) (by omega), (Sm_trans Sm_refl hF3 (by decide))⟩)
      · refine pw_iconst C dX11_edits_9 ?_
        refine pw_istore8 C (by decide) dX11_edits_10 ?_
        have cut_12 : ∀ (fu : Nat) (k : Int) (M2 : Mem), Sm [56] M M2 → (0 ≤ k ∧ k ≤ m + 1) → (∀ u, 0 ≤ u → u < i → ∀ k, 0 ≤ k → k ≤ m → M2 56 (9 * u + k) = edI (M 44) (M 43 4) (fun t => M q1 (fr + t)) (fun t => M q2 (st + t)) u k) → (∀ t, 0 ≤ t → t < k → M2 56 (9 * i + t) = edI (M 44) (M 43 4) (fun t => M q1 (fr + t)) (fun t => M q2 (st + t)) i t) → (m + 1 - k).toNat < fu → PW X K LAY 10 (0, 0) (Zi X K LAY (fun r M' => (r = edI (M 44) (M 43 4) (fun t => M q1 (fr + t)) (fun t => M q2 (st + t)) n m) ∧ Sm [56] M M')) 12 [some (rV K 43), some (rV K q1), some (iV fr), some (iV n), some (rV K q2), some (iV st), some (iV m), some (iV i), some (iV k), none] [] M2 := by
          intro fu
          induction fu with
          | zero => intro _ _ _ _ _ _ hm; exact absurd hm (Nat.not_lt_zero _)
          | succ fu ih =>
            intro k M2 hF12 hk9 g2 g3 hm
            have ih_12 := ih
            have hm_12 := hm
            refine pw_iload8 C dX11_edits_12 ?_
            refine pw_iload6 C dX11_edits_14 ?_
            refine pw_icmp_gt (tgt := 171) C dX11_edits_16 (by decide) (by omega) (by omega) (fun h16 => ?_) (fun h16 => ?_)
            · refine pw_iinc7 C (by decide) dX11_edits_171 ?_
              refine pw_goto (tgt := 3) C dX11_edits_174 (by decide) ?_
              refine pw_fgt (fgt_k (fgt_k (fgt_k (fgt_k (fgt_k (fgt_k (fgt_k (fgt_k (fgt_no (fgt_no fgt_nil)))))))))) ?_
              exact ih_3 _ _ (Sm_trans Sm_refl hF12 (by decide)) (by omega) (by
                    intro u y1 y2 k2 z1 z2
                    by_cases e : u = i
                    · rw [e]; exact g3 k2 z1 (by omega)
                    · exact g2 u y1 (by omega) k2 z1 z2) (by omega)
            · have he1 := hrg i (by omega) (by omega) k (by omega) (by omega)
              have cut_93 : ∀  (v : Int), ((0 < i ∧ 0 < k ∧ v = edI (M 44) (M 43 4) (fun t => M q1 (fr + t)) (fun t => M q2 (st + t)) (i - 1) (k - 1) + M 44 (M q1 (fr + (i - 1)) * 4 + M q2 (st + (k - 1)))) ∨ (¬ (0 < i ∧ 0 < k) ∧ v = edI (M 44) (M 43 4) (fun t => M q1 (fr + t)) (fun t => M q2 (st + t)) i k)) → PW X K LAY 10 (0, 0) (Zi X K LAY (fun r M' => (r = edI (M 44) (M 43 4) (fun t => M q1 (fr + t)) (fun t => M q2 (st + t)) n m) ∧ Sm [56] M M')) 93 [some (rV K 43), some (rV K q1), some (iV fr), some (iV n), some (rV K q2), some (iV st), some (iV m), some (iV i), some (iV k), none] [iV v] M2 := by
                intro v hv
                refine pw_istore9 C (by decide) dX11_edits_93 ?_
                have cut_150 : ∀  (v2 : Int), (v2 = edI (M 44) (M 43 4) (fun t => M q1 (fr + t)) (fun t => M q2 (st + t)) i k) → PW X K LAY 10 (0, 0) (Zi X K LAY (fun r M' => (r = edI (M 44) (M 43 4) (fun t => M q1 (fr + t)) (fun t => M q2 (st + t)) n m) ∧ Sm [56] M M')) 150 [some (rV K 43), some (rV K q1), some (iV fr), some (iV n), some (rV K q2), some (iV st), some (iV m), some (iV i), some (iV k), some (iV v2)] [] M2 := by
                  intro v2 hv2
                  refine pw_aload0 C dX11_edits_150 ?_
                  refine g_43_26 C fl_X11_59 dX11_edits_151 ?_
                  refine pw_bipush C dX11_edits_154 (by decide) ?_
                  refine pw_iload7 C dX11_edits_156 ?_
                  refine pw_imul C dX11_edits_158 ?_
                  refine pw_iload8 C dX11_edits_159 ?_
                  refine pw_iadd C dX11_edits_161 ?_
                  refine pw_iload9 C dX11_edits_162 ?_
                  refine pw_iastore C lay_56 (by omega) (by decide) dX11_edits_164 ?_
                  refine pw_iinc8 C (by decide) dX11_edits_165 ?_
                  refine pw_goto (tgt := 12) C dX11_edits_168 (by decide) ?_
                  refine pw_fgt (fgt_k (fgt_k (fgt_k (fgt_k (fgt_k (fgt_k (fgt_k (fgt_k (fgt_k (fgt_no fgt_nil)))))))))) ?_
                  exact ih_12 _ _ (Sm_up (Sm_trans Sm_refl hF12 (by decide)) (by decide)) (by omega) (by
                        intro u y1 y2 k2 z1 z2
                        rw [rd_ne (by omega)]
                        exact g2 u y1 y2 k2 z1 z2) (by
                        intro t y1 y2
                        by_cases e : t = k
                        · rw [e, rd_eq]; exact hv2
                        · rw [rd_ne (by omega)]; exact g3 t y1 (by omega)) (by omega)
                refine pw_iload7 C dX11_edits_95 ?_
                refine pw_if_le (tgt := 150) C dX11_edits_97 (by decide) (by omega) (fun h97 => ?_) (fun h97 => ?_)
                · exact cut_150 _ (by exact hv.elim (fun h => absurd h (by omega)) (fun h => h.2))
                · refine pw_iload8 C dX11_edits_100 ?_
                  refine pw_if_le (tgt := 150) C dX11_edits_102 (by decide) (by omega) (fun h102 => ?_) (fun h102 => ?_)
                  · exact cut_150 _ (by exact hv.elim (fun h => absurd h (by omega)) (fun h => h.2))
                  · have he2 := hrg (i - 1) (by omega) (by omega) (k - 1) (by omega) (by omega)
                    have he3 := hrg (i - 1) (by omega) (by omega) k (by omega) (by omega)
                    have he4 := hrg i (by omega) (by omega) (k - 1) (by omega) (by omega)
                    have hxi := hx (i - 1) (by omega) (by omega)
                    have hyk := hy (k - 1) (by omega) (by omega)
                    have hpc := hpr (M q1 (fr + (i - 1)) * 4 + M q2 (st + (k - 1))) (by omega) (by omega)
                    have hv9 : v = edI (M 44) (M 43 4) (fun t => M q1 (fr + t)) (fun t => M q2 (st + t)) (i - 1) (k - 1) + M 44 (M q1 (fr + (i - 1)) * 4 + M q2 (st + (k - 1))) := hv.elim (fun h => h.2.2) (fun h => absurd ⟨by omega, by omega⟩ h.1)
                    refine pw_iload9 C dX11_edits_105 ?_
                    refine pw_aload0 C dX11_edits_107 ?_
                    refine g_43_4 C fl_X11_20 dX11_edits_108 ?_
                    refine pw_top C _ (congrFun (hF12 43 (by decide)) _) ?_
                    refine pw_aload0 C dX11_edits_111 ?_
                    refine g_43_26 C fl_X11_59 dX11_edits_112 ?_
                    refine pw_bipush C dX11_edits_115 (by decide) ?_
                    refine pw_iload7 C dX11_edits_117 ?_
                    refine pw_iconst C dX11_edits_119 ?_
                    refine pw_isub C dX11_edits_120 ?_
                    refine pw_imul C dX11_edits_121 ?_
                    refine pw_iload8 C dX11_edits_122 ?_
                    refine pw_iadd C dX11_edits_124 ?_
                    refine pw_iaload C lay_56 (by omega) (by decide) dX11_edits_125 ?_
                    refine pw_top C (edI (M 44) (M 43 4) (fun t => M q1 (fr + t)) (fun t => M q2 (st + t)) (i - 1) k) (g2 (i - 1) (by omega) (by omega) k (by omega) (by omega)) ?_
                    refine pw_aload0 C dX11_edits_126 ?_
                    refine g_43_26 C fl_X11_59 dX11_edits_127 ?_
                    refine pw_bipush C dX11_edits_130 (by decide) ?_
                    refine pw_iload7 C dX11_edits_132 ?_
                    refine pw_imul C dX11_edits_134 ?_
                    refine pw_iload8 C dX11_edits_135 ?_
                    refine pw_iadd C dX11_edits_137 ?_
                    refine pw_iconst C dX11_edits_138 ?_
                    refine pw_isub C dX11_edits_139 ?_
                    refine pw_iaload C lay_56 (by omega) (by decide) dX11_edits_140 ?_
                    refine pw_top C (edI (M 44) (M 43 4) (fun t => M q1 (fr + t)) (fun t => M q2 (st + t)) i (k - 1)) (by rw [show 9 * i + k - 1 = 9 * i + (k - 1) by omega]; exact g3 (k - 1) (by omega) (by omega)) ?_
                    refine pw_mmin C (by omega) (by omega) (Nat.le_of_ble_eq_true rfl) ml_X11_117 dX11_edits_141 ?_
                    refine pw_iadd C dX11_edits_144 ?_
                    refine pw_mmin C (by omega) (by split <;> omega) (Nat.le_of_ble_eq_true rfl) ml_X11_117 dX11_edits_145 ?_
                    refine pw_istore9 C (by decide) dX11_edits_148 ?_
                    exact cut_150 _ (by
                          have hs := edI_ss (c := M 44) (dr := M 43 4) (x := (fun t => M q1 (fr + t))) (y := fun t => M q2 (st + t)) (i := i - 1) (k := k - 1) (by omega) (by omega)
                          rw [show i - 1 + 1 = i by omega, show k - 1 + 1 = k by omega] at hs
                          rw [hs, hv9]
                          unfold mn
                          split <;> split <;> omega)
              refine pw_iload7 C dX11_edits_19 ?_
              refine pw_if_ne (tgt := 34) C dX11_edits_21 (by decide) (by omega) (fun h21 => ?_) (fun h21 => ?_)
              · refine pw_iload8 C dX11_edits_34 ?_
                refine pw_if_ne (tgt := 49) C dX11_edits_36 (by decide) (by omega) (fun h36 => ?_) (fun h36 => ?_)
                · have hxi := hx (i - 1) (by omega) (by omega)
                  have hyk := hy (k - 1) (by omega) (by omega)
                  have hpc := hpr (M q1 (fr + (i - 1)) * 4 + M q2 (st + (k - 1))) (by omega) (by omega)
                  refine pw_aload0 C dX11_edits_49 ?_
                  refine g_43_26 C fl_X11_59 dX11_edits_50 ?_
                  refine pw_bipush C dX11_edits_53 (by decide) ?_
                  refine pw_iload7 C dX11_edits_55 ?_
                  refine pw_iconst C dX11_edits_57 ?_
                  refine pw_isub C dX11_edits_58 ?_
                  refine pw_imul C dX11_edits_59 ?_
                  refine pw_iload8 C dX11_edits_60 ?_
                  refine pw_iadd C dX11_edits_62 ?_
                  refine pw_iconst C dX11_edits_63 ?_
                  refine pw_isub C dX11_edits_64 ?_
                  refine pw_iaload C lay_56 (by omega) (by decide) dX11_edits_65 ?_
                  refine pw_top C (edI (M 44) (M 43 4) (fun t => M q1 (fr + t)) (fun t => M q2 (st + t)) (i - 1) (k - 1)) (by rw [show 9 * (i - 1) + k - 1 = 9 * (i - 1) + (k - 1) by omega]; exact g2 (i - 1) (by omega) (by omega) (k - 1) (by omega) (by omega)) ?_
                  refine pw_aload0 C dX11_edits_66 ?_
                  refine g_43_2 C fl_X11_16 dX11_edits_67 ?_
                  refine pw_iconst C dX11_edits_70 ?_
                  refine pw_aload1 C dX11_edits_71 ?_
                  refine pw_iload2 C dX11_edits_72 ?_
                  refine pw_iload7 C dX11_edits_73 ?_
                  refine pw_iadd C dX11_edits_75 ?_
                  refine pw_iconst C dX11_edits_76 ?_
                  refine pw_isub C dX11_edits_77 ?_
                  refine pw_baload C hq1 (by omega) (hnq1) dX11_edits_78 ?_
                  refine pw_top C _ (congrFun (hF12 q1 (by simpa using hc1)) _) ?_
                  refine pw_top C (M q1 (fr + (i - 1))) (by rw [show fr + i - 1 = fr + (i - 1) by omega]) ?_
                  refine pw_imul C dX11_edits_79 ?_
                  refine pw_top C (M q1 (fr + (i - 1)) * 4) (Int.mul_comm _ _) ?_
                  refine pw_aload4 C dX11_edits_80 ?_
                  refine pw_iload5 C dX11_edits_82 ?_
                  refine pw_iload8 C dX11_edits_84 ?_
                  refine pw_iadd C dX11_edits_86 ?_
                  refine pw_iconst C dX11_edits_87 ?_
                  refine pw_isub C dX11_edits_88 ?_
                  refine pw_baload C hq2 (by omega) (hnq2) dX11_edits_89 ?_
                  refine pw_top C _ (congrFun (hF12 q2 (by simpa using hc2)) _) ?_
                  refine pw_top C (M q2 (st + (k - 1))) (by rw [show st + k - 1 = st + (k - 1) by omega]) ?_
                  refine pw_iadd C dX11_edits_90 ?_
                  refine pw_iaload C lay_44 (by omega) (by decide) dX11_edits_91 ?_
                  refine pw_top C _ (congrFun (hF12 44 (by decide)) _) ?_
                  refine pw_iadd C dX11_edits_92 ?_
                  exact cut_93 _ (by exact Or.inl ⟨by omega, by omega, rfl⟩)
                · refine pw_aload0 C dX11_edits_39 ?_
                  refine g_43_4 C fl_X11_20 dX11_edits_40 ?_
                  refine pw_top C _ (congrFun (hF12 43 (by decide)) _) ?_
                  refine pw_iload7 C dX11_edits_43 ?_
                  refine pw_imul C dX11_edits_45 ?_
                  refine pw_goto (tgt := 93) C dX11_edits_46 (by decide) ?_
                  exact cut_93 _ (by exact Or.inr ⟨by omega, by rw [h36]; exact ed_mulc (by omega)⟩)
              · refine pw_aload0 C dX11_edits_24 ?_
                refine g_43_4 C fl_X11_20 dX11_edits_25 ?_
                refine pw_top C _ (congrFun (hF12 43 (by decide)) _) ?_
                refine pw_iload8 C dX11_edits_28 ?_
                refine pw_imul C dX11_edits_30 ?_
                refine pw_goto (tgt := 93) C dX11_edits_31 (by decide) ?_
                exact cut_93 _ (by exact Or.inr ⟨by omega, by rw [h21]; exact ed_mul0⟩)
        exact cut_12 _ _ _ (Sm_trans Sm_refl hF3 (by decide)) (by omega) (by exact g) (by intro t z1 z2; omega) (Nat.lt_succ_self _)
  exact cut_3 _ _ _ Sm_refl (by omega) (by intro u z1 z2; omega) (Nat.lt_succ_self _)
set_option maxHeartbeats 4000000 in
set_option maxRecDepth 100000 in
theorem c_X11_edits_ (l : Launch) (K : KX) (M : Mem) (a b : Int) (hW : WfK (cfM M)) (ha : -2147483648 ≤ a ∧ a ≤ 2147483647) (hb : -2147483648 ≤ b ∧ b ≤ 2147483647) : MCi l K LAY yX11_edits_ cX11_edits_ 3 (some .int) 3 [rV K 43, iV a, iV b] M (fun r M' => (M' 43 0 = 0) ∧ (PEd (cfM M) a b r) ∧ Sm [43, 56] M M' ∧ Fm [0] M M') := by
  refine mci_intro RX11 rfl [some (rV K 43), some (iV a), some (iV b)] rfl (by decide +kernel) (cat_r (cat_i (cat_i cat_nil))) (Nat.le_of_ble_eq_true rfl) (fun X hX C => ?_)
  subst hX
  have w_let := wm_let hW
  have w_sw := wm_sw hW
  have w_dr := wm_dr hW
  have w_w := wm_w hW
  have w_l := wm_l hW
  have w_l1 := wm_l1 hW
  refine pw_aload0 C dX11_edits__0 ?_
  refine pw_iconst C dX11_edits__1 ?_
  refine p_43_0 C fl_X11_1 dX11_edits__2 ?_
  refine pw_aload0 C dX11_edits__5 ?_
  refine pw_iload1 C dX11_edits__6 ?_
  refine pw_cVi1 C (c_X11_isWord _ K _ _ (by omega) (by rw [rd_ne (by decide)]; omega)) cb_X11_isWord lay_43 kc_11 rfl ml_X11_113 dX11_edits__7 (by decide) (Nat.le_of_ble_eq_true rfl) (fun r7 M7 hQ => ?_)
  obtain ⟨rfl, hMe⟩ := hQ
  replace hMe := hMe.symm
  subst hMe
  rw [rd_ne (by decide)]
  refine pw_if_eq (tgt := 52) C dX11_edits__10 (by decide) (by split <;> omega) (fun h10 => ?_) (fun h10 => ?_)
  · have e10 : ¬ (0 ≤ a ∧ a < M 43 6) := fun h => by rw [if_pos h] at h10; omega
    refine pw_iconst C dX11_edits__52 ?_
    exact pw_iretI C dX11_edits__53 (⟨by first | exact rd_eq | (rw [hF46 43 (by decide)]; exact rd_eq), by
          show _ = if (0 ≤ a ∧ a < M 43 6) ∧ (0 ≤ b ∧ b < M 43 6) then _ else _
          first
            | rw [if_neg (by omega)]
            | (rw [if_pos ⟨e10, e18⟩, h1_46, rd_ne (by decide), up2_ne (by decide), up2_ne (by decide), Int.mul_comm 7 a, Int.mul_comm 7 b]; rfl), (Sm_up Sm_refl (by decide)), (Fm_up Fm_refl (by decide))⟩)
  · have e10 : (0 ≤ a ∧ a < M 43 6) := Decidable.byContradiction fun h => by rw [if_neg h] at h10; omega
    refine pw_aload0 C dX11_edits__13 ?_
    refine pw_iload2 C dX11_edits__14 ?_
    refine pw_cVi1 C (c_X11_isWord _ K _ _ (by omega) (by rw [rd_ne (by decide)]; omega)) cb_X11_isWord lay_43 kc_11 rfl ml_X11_113 dX11_edits__15 (by decide) (Nat.le_of_ble_eq_true rfl) (fun r15 M15 hQ => ?_)
    obtain ⟨rfl, hMe⟩ := hQ
    replace hMe := hMe.symm
    subst hMe
    rw [rd_ne (by decide)]
    refine pw_if_eq (tgt := 52) C dX11_edits__18 (by decide) (by split <;> omega) (fun h18 => ?_) (fun h18 => ?_)
    · have e18 : ¬ (0 ≤ b ∧ b < M 43 6) := fun h => by rw [if_pos h] at h18; omega
      refine pw_iconst C dX11_edits__52 ?_
      exact pw_iretI C dX11_edits__53 (⟨by first | exact rd_eq | (rw [hF46 43 (by decide)]; exact rd_eq), by
            show _ = if (0 ≤ a ∧ a < M 43 6) ∧ (0 ≤ b ∧ b < M 43 6) then _ else _
            first
              | rw [if_neg (by omega)]
              | (rw [if_pos ⟨e10, e18⟩, h1_46, rd_ne (by decide), up2_ne (by decide), up2_ne (by decide), Int.mul_comm 7 a, Int.mul_comm 7 b]; rfl), (Sm_up Sm_refl (by decide)), (Fm_up Fm_refl (by decide))⟩)
    · have e18 : (0 ≤ b ∧ b < M 43 6) := Decidable.byContradiction fun h => by rw [if_neg h] at h18; omega
      refine pw_aload0 C dX11_edits__21 ?_
      refine pw_aload0 C dX11_edits__22 ?_
      refine g_43_8 C fl_X11_23 dX11_edits__23 ?_
      refine pw_bipush C dX11_edits__26 (by decide) ?_
      refine pw_iload1 C dX11_edits__28 ?_
      refine pw_imul C dX11_edits__29 ?_
      refine pw_aload0 C dX11_edits__30 ?_
      refine g_43_7 C fl_X11_110 dX11_edits__31 ?_
      refine pw_top C _ (rd_ne (by decide)) ?_
      refine pw_aload0 C dX11_edits__34 ?_
      refine g_43_8 C fl_X11_23 dX11_edits__35 ?_
      refine pw_bipush C dX11_edits__38 (by decide) ?_
      refine pw_iload2 C dX11_edits__40 ?_
      refine pw_imul C dX11_edits__41 ?_
      refine pw_aload0 C dX11_edits__42 ?_
      refine g_43_7 C fl_X11_110 dX11_edits__43 ?_
      refine pw_top C _ (rd_ne (by decide)) ?_
      have nz46_44 : (up2 M 43 0 0) 44 = M 44 := (up2_ne (by decide))
      refine pw_cVi6 C (c_X11_edits _ K _ 45 45 _ _ _ _ _ _ (lay_45) (lay_45) (by decide) (by decide) (by decide) (by decide) (by omega) (by omega) (by omega) (by omega) (by rw [up2_ne (by decide)]; intro p h1 h2; have := wm_wl hW a p (by omega) (by omega) h1 (by omega); rw [Int.mul_comm 7]; omega) (by rw [up2_ne (by decide)]; intro p h1 h2; have := wm_wl hW b p (by omega) (by omega) h1 (by omega); rw [Int.mul_comm 7]; omega) (by rw [up2_ne (by decide)]; exact wm_pr hW) (by rw [rd_ne (by decide)]; omega)) cb_X11_edits lay_43 kc_11 rfl ml_X11_191 dX11_edits__46 (by decide) (Nat.le_of_ble_eq_true rfl) (fun r46 M46 hQ => ?_)
      obtain ⟨h1_46, hF46⟩ := hQ
      refine pw_goto (tgt := 53) C dX11_edits__49 (by decide) ?_
      exact pw_iretI C dX11_edits__53 (⟨by first | exact rd_eq | (rw [hF46 43 (by decide)]; exact rd_eq), by
            show _ = if (0 ≤ a ∧ a < M 43 6) ∧ (0 ≤ b ∧ b < M 43 6) then _ else _
            first
              | rw [if_neg (by omega)]
              | (rw [if_pos ⟨e10, e18⟩, h1_46, rd_ne (by decide), up2_ne (by decide), up2_ne (by decide), Int.mul_comm 7 a, Int.mul_comm 7 b]; rfl), (Sm_trans (Sm_up Sm_refl (by decide)) hF46 (by decide)), (Fm_fr (Fm_up Fm_refl (by decide)) hF46 (by decide))⟩)
