theorem cfM_e {M M' : Mem} (a1 : M' 43 1 = M 43 1) (a3 : M' 43 3 = M 43 3) (a4 : M' 43 4 = M 43 4) (a5 : M' 43 5 = M 43 5) (a6 : M' 43 6 = M 43 6) (a7 : M' 43 7 = M 43 7) (a10 : M' 43 10 = M 43 10) (b4 : M' 44 = M 44) (b5 : M' 45 = M 45) (b6 : M' 46 = M 46) (b7 : M' 47 = M 47) (b8 : M' 48 = M 48) : cfM M' = cfM M := by
  unfold cfM
  rw [a1, a3, a4, a5, a6, a7, a10, b4, b5, b6, b7, b8]
theorem many_nz {c : Cfg} (hW : WfK c) : mny (kP c) 1 (kW c) = 0 ↔ nrB c = 0 := (bs_nz hW.2.2.2.2.2.1).symm
set_option maxHeartbeats 4000000 in
set_option maxRecDepth 100000 in
theorem c_X11_sumOf (l : Launch) (K : KX) (M : Mem) (k : Int) (hW : WfK (cfM M)) (hKn : KnOK (cfM M) M) (hk : 0 ≤ k ∧ k < nK (cfM M)) : MCi l K LAY yX11_sumOf cX11_sumOf 4 (some .int) 1 [rV K 43, iV k] M (fun r M' => (r = suK (cfM M) k) ∧ M' = M) := by
  refine mci_intro RX11 rfl [some (rV K 43), some (iV k), none, none] rfl (by decide +kernel) (cat_r (cat_i cat_nil)) (Nat.le_of_ble_eq_true rfl) (fun X hX C => ?_)
  subst hX
  have w_let := wm_let hW
  have w_sw := wm_sw hW
  have w_dr := wm_dr hW
  have w_gp := wm_gp hW
  have w_w := wm_w hW
  have w_l := wm_l hW
  have w_l1 := wm_l1 hW
  have w_t := wm_t hW
  have hK0 := nK_pos hW
  have hK1 := nK_le hW
  refine pw_iconst C dX11_sumOf_0 ?_
  refine pw_istore2 C (by decide) dX11_sumOf_1 ?_
  refine pw_iconst C dX11_sumOf_2 ?_
  refine pw_istore3 C (by decide) dX11_sumOf_3 ?_
  have cut_4 : ∀ (fu : Nat) (v w : Int), (0 ≤ w ∧ w ≤ M 43 6) → (v = smW (Dw (cfM M) (rwX (cfM M) k)) (M 46) w.toNat) → (M 43 6 - w).toNat < fu → PW X K LAY 4 (0, 0) (Zi X K LAY (fun r M' => (r = suK (cfM M) k) ∧ M' = M)) 4 [some (rV K 43), some (iV k), some (iV v), some (iV w)] [] M := by
    intro fu
    induction fu with
    | zero => intro _ _ _ _ hm; exact absurd hm (Nat.not_lt_zero _)
    | succ fu ih =>
      intro v w hw hv hm
      have ih_4 := ih
      have hm_4 := hm
      refine pw_iload3 C dX11_sumOf_4 ?_
      refine pw_aload0 C dX11_sumOf_5 ?_
      refine g_43_6 C fl_X11_85 dX11_sumOf_6 ?_
      refine pw_icmp_ge (tgt := 42) C dX11_sumOf_9 (by decide) (by omega) (by omega) (fun h9 => ?_) (fun h9 => ?_)
      · refine pw_iload2 C dX11_sumOf_42 ?_
        exact pw_iretI C dX11_sumOf_43 (⟨by rw [hv]; show _ = smW (Dw (cfM M) (rwX (cfM M) k)) (M 46) (M 43 6).toNat; rw [show M 43 6 = w by omega], rfl⟩)
      · have hpw := wm_p hW w (by omega) (by omega)
        refine pw_aload0 C dX11_sumOf_12 ?_
        refine g_43_9 C fl_X11_27 dX11_sumOf_13 ?_
        refine pw_iload3 C dX11_sumOf_16 ?_
        refine pw_iaload C lay_46 (by omega) (by decide) dX11_sumOf_17 ?_
        refine pw_iconst C dX11_sumOf_18 ?_
        refine pw_icmp_ne (tgt := 36) C dX11_sumOf_19 (by decide) (by omega) (by omega) (fun h19 => ?_) (fun h19 => ?_)
        · refine pw_iinc3 C (by decide) dX11_sumOf_36 ?_
          refine pw_goto (tgt := 4) C dX11_sumOf_39 (by decide) ?_
          exact ih_4 _ _ (by omega) (by rw [smW_s (by omega), ← hv]; first | rw [if_pos h19] | rw [if_neg h19]) (by omega)
        · refine pw_iload2 C dX11_sumOf_22 ?_
          refine pw_aload0 C dX11_sumOf_23 ?_
          refine g_43_21 C fl_X11_46 dX11_sumOf_24 ?_
          refine pw_bipush C dX11_sumOf_27 (by decide) ?_
          refine pw_iload1 C dX11_sumOf_29 ?_
          refine pw_imul C dX11_sumOf_30 ?_
          refine pw_iload3 C dX11_sumOf_31 ?_
          refine pw_iadd C dX11_sumOf_32 ?_
          refine pw_baload C lay_52 (by omega) (by decide) dX11_sumOf_33 ?_
          have hkn := hKn k hk.1 hk.2 w (by omega) (by show w < M 43 6; omega)
          have hkr := KnOK_rng hW hKn (k := k) (w := w) hk (by constructor; omega; show w < M 43 6; omega)
          refine pw_top C (Dw (cfM M) (rwX (cfM M) k) w) hkn ?_
          rw [hkn] at hkr
          refine pw_iadd C dX11_sumOf_34 ?_
          refine pw_istore2 C (by decide) dX11_sumOf_35 ?_
          refine pw_iinc3 C (by decide) dX11_sumOf_36 ?_
          refine pw_goto (tgt := 4) C dX11_sumOf_39 (by decide) ?_
          exact ih_4 _ _ (by omega) (by rw [smW_s (by omega), ← hv]; first | rw [if_pos h19] | rw [if_neg h19]) (by omega)
  exact cut_4 _ _ _ (by omega) (by rfl) (Nat.lt_succ_self _)
set_option maxHeartbeats 4000000 in
set_option maxRecDepth 100000 in
theorem c_X11_radiusBut (l : Launch) (K : KX) (M : Mem) (k but : Int) (hW : WfK (cfM M)) (hKn : KnOK (cfM M) M) (hk : 0 ≤ k ∧ k < nK (cfM M)) (hbut : 0 ≤ but ∧ but ≤ 7) : MCi l K LAY yX11_radiusBut cX11_radiusBut 8 (some .int) 1 [rV K 43, iV k, iV but] M (fun r M' => (r = rbK (cfM M) but k) ∧ M' = M) := by
  refine mci_intro RX11 rfl [some (rV K 43), some (iV k), some (iV but), none, none, none, none, none] rfl (by decide +kernel) (cat_r (cat_i (cat_i cat_nil))) (Nat.le_of_ble_eq_true rfl) (fun X hX C => ?_)
  subst hX
  have w_let := wm_let hW
  have w_sw := wm_sw hW
  have w_dr := wm_dr hW
  have w_gp := wm_gp hW
  have w_w := wm_w hW
  have w_l := wm_l hW
  have w_l1 := wm_l1 hW
  have w_t := wm_t hW
  have hK0 := nK_pos hW
  have hK1 := nK_le hW
  refine pw_iconst C dX11_radiusBut_0 ?_
  refine pw_istore3 C (by decide) dX11_radiusBut_1 ?_
  refine pw_iconst C dX11_radiusBut_2 ?_
  refine pw_istore4 C (by decide) dX11_radiusBut_3 ?_
  have cut_5 : ∀ (fu : Nat) (f w : Int), (0 ≤ w ∧ w ≤ M 43 6) → (f = rbN (Dw (cfM M) (rwX (cfM M) k)) (M 46) (M 43 6) but w.toNat) → (M 43 6 - w).toNat < fu → PW X K LAY 8 (0, 0) (Zi X K LAY (fun r M' => (r = rbK (cfM M) but k) ∧ M' = M)) 5 [some (rV K 43), some (iV k), some (iV but), some (iV f), some (iV w), none, none, none] [] M := by
    intro fu
    induction fu with
    | zero => intro _ _ _ _ hm; exact absurd hm (Nat.not_lt_zero _)
    | succ fu ih =>
      intro f w hw hf hm
      have ih_5 := ih
      have hm_5 := hm
      refine pw_iload4 C dX11_radiusBut_5 ?_
      refine pw_aload0 C dX11_radiusBut_7 ?_
      refine g_43_6 C fl_X11_85 dX11_radiusBut_8 ?_
      refine pw_icmp_ge (tgt := 161) C dX11_radiusBut_11 (by decide) (by omega) (by omega) (fun h11 => ?_) (fun h11 => ?_)
      · refine pw_iload3 C dX11_radiusBut_161 ?_
        exact pw_iretI C dX11_radiusBut_162 (⟨by rw [hf]; show _ = rbN (Dw (cfM M) (rwX (cfM M) k)) (M 46) (M 43 6) but (M 43 6).toNat; rw [show M 43 6 = w by omega], rfl⟩)
      · have hpw := wm_p hW w (by omega) (by omega)
        have hDw := Dw_rng hW (x := rwX (cfM M) k) (w := w) ⟨by omega, by show w < M 43 6; omega⟩ (fun i _ _ => rwX_rng hW k i)
        refine pw_aload0 C dX11_radiusBut_14 ?_
        refine g_43_9 C fl_X11_27 dX11_radiusBut_15 ?_
        refine pw_iload4 C dX11_radiusBut_18 ?_
        refine pw_iaload C lay_46 (by omega) (by decide) dX11_radiusBut_20 ?_
        refine pw_iconst C dX11_radiusBut_21 ?_
        refine pw_icmp_eq (tgt := 28) C dX11_radiusBut_22 (by decide) (by omega) (by omega) (fun h22 => ?_) (fun h22 => ?_)
        · refine pw_iconst C dX11_radiusBut_28 ?_
          refine pw_istore5 C (by decide) dX11_radiusBut_29 ?_
          refine pw_iconst C dX11_radiusBut_31 ?_
          refine pw_istore6 C (by decide) dX11_radiusBut_32 ?_
          have cut_34 : ∀ (fu : Nat) (a o : Int), (0 ≤ o ∧ o ≤ M 43 6) → (a = cnI (ahB (Dw (cfM M) (rwX (cfM M) k)) (M 46) w) o) → (M 43 6 - o).toNat < fu → PW X K LAY 8 (0, 0) (Zi X K LAY (fun r M' => (r = rbK (cfM M) but k) ∧ M' = M)) 34 [some (rV K 43), some (iV k), some (iV but), some (iV f), some (iV w), some (iV a), some (iV o), none] [] M := by
            intro fu
            induction fu with
            | zero => intro _ _ _ _ hm; exact absurd hm (Nat.not_lt_zero _)
            | succ fu ih =>
              intro a o ho ha hm
              have ih_34 := ih
              have hm_34 := hm
              refine pw_iload6 C dX11_radiusBut_34 ?_
              refine pw_aload0 C dX11_radiusBut_36 ?_
              refine g_43_6 C fl_X11_85 dX11_radiusBut_37 ?_
              refine pw_icmp_ge (tgt := 136) C dX11_radiusBut_40 (by decide) (by omega) (by omega) (fun h40 => ?_) (fun h40 => ?_)
              · have hcr := cnI_rng (p := ahB (Dw (cfM M) (rwX (cfM M) k)) (M 46) w) o (by omega)
                refine pw_iload5 C dX11_radiusBut_136 ?_
                refine pw_iload2 C dX11_radiusBut_138 ?_
                refine pw_icmp_ne (tgt := 155) C dX11_radiusBut_139 (by decide) (by omega) (by omega) (fun h139 => ?_) (fun h139 => ?_)
                · refine pw_iinc4 C (by decide) dX11_radiusBut_155 ?_
                  refine pw_goto (tgt := 5) C dX11_radiusBut_158 (by decide) ?_
                  refine pw_fgt (fgt_k (fgt_k (fgt_k (fgt_k (fgt_k (fgt_no (fgt_no (fgt_no fgt_nil)))))))) ?_
                  exact ih_5 _ _ (by omega) (by
                        rw [rbN_s (by omega), ← hf]
                        by_cases q : M 46 w = 1 ∧ ahI (Dw (cfM M) (rwX (cfM M) k)) (M 46) (M 43 6) w = but
                        · rw [if_pos q] <;> first | exact absurd q.1 h22 | exact absurd (by rw [ha, show o = M 43 6 by omega]; exact q.2) h139
                        · rw [if_neg q] <;> exact absurd ⟨h22, by rw [← h139, ha, show o = M 43 6 by omega]; rfl⟩ q) (by omega)
                · refine pw_aload0 C dX11_radiusBut_142 ?_
                  refine g_43_21 C fl_X11_46 dX11_radiusBut_143 ?_
                  refine pw_bipush C dX11_radiusBut_146 (by decide) ?_
                  refine pw_iload1 C dX11_radiusBut_148 ?_
                  refine pw_imul C dX11_radiusBut_149 ?_
                  refine pw_iload4 C dX11_radiusBut_150 ?_
                  refine pw_iadd C dX11_radiusBut_152 ?_
                  refine pw_baload C lay_52 (by omega) (by decide) dX11_radiusBut_153 ?_
                  have hkne := hKn k hk.1 hk.2 w (by omega) (by show w < M 43 6; omega)
                  have hkre := KnOK_rng hW hKn (k := k) (w := w) hk (by constructor; omega; show w < M 43 6; omega)
                  refine pw_top C (Dw (cfM M) (rwX (cfM M) k) w) hkne ?_
                  rw [hkne] at hkre
                  refine pw_istore3 C (by decide) dX11_radiusBut_154 ?_
                  refine pw_iinc4 C (by decide) dX11_radiusBut_155 ?_
                  refine pw_goto (tgt := 5) C dX11_radiusBut_158 (by decide) ?_
                  refine pw_fgt (fgt_k (fgt_k (fgt_k (fgt_k (fgt_k (fgt_no (fgt_no (fgt_no fgt_nil)))))))) ?_
                  exact ih_5 _ _ (by omega) (by
                        rw [rbN_s (by omega), ← hf]
                        by_cases q : M 46 w = 1 ∧ ahI (Dw (cfM M) (rwX (cfM M) k)) (M 46) (M 43 6) w = but
                        · rw [if_pos q] <;> first | exact absurd q.1 h22 | exact absurd (by rw [ha, show o = M 43 6 by omega]; exact q.2) h139
                        · rw [if_neg q] <;> exact absurd ⟨h22, by rw [← h139, ha, show o = M 43 6 by omega]; rfl⟩ q) (by omega)
              · have hpo := wm_p hW o (by omega) (by omega)
                have hDo := Dw_rng hW (x := rwX (cfM M) k) (w := o) ⟨by omega, by show o < M 43 6; omega⟩ (fun i _ _ => rwX_rng hW k i)
                have hcr := cnI_rng (p := ahB (Dw (cfM M) (rwX (cfM M) k)) (M 46) w) o (by omega)
                have cut_120 : ∀  (z : Int), ((ahB (Dw (cfM M) (rwX (cfM M) k)) (M 46) w o = true ∧ z = 1) ∨ (¬ ahB (Dw (cfM M) (rwX (cfM M) k)) (M 46) w o = true ∧ z = 0)) → PW X K LAY 8 (0, 0) (Zi X K LAY (fun r M' => (r = rbK (cfM M) but k) ∧ M' = M)) 120 [some (rV K 43), some (iV k), some (iV but), some (iV f), some (iV w), some (iV a), some (iV o), none] [iV z] M := by
                  intro z hz
                  have hz01 : z = 0 ∨ z = 1 := hz.elim (fun h => Or.inr h.2) (fun h => Or.inl h.2)
                  refine pw_istore7 C (by decide) dX11_radiusBut_120 ?_
                  refine pw_iload7 C dX11_radiusBut_122 ?_
                  refine pw_if_eq (tgt := 130) C dX11_radiusBut_124 (by decide) (by omega) (fun h124 => ?_) (fun h124 => ?_)
                  · refine pw_iinc6 C (by decide) dX11_radiusBut_130 ?_
                    refine pw_goto (tgt := 34) C dX11_radiusBut_133 (by decide) ?_
                    refine pw_fgt (fgt_k (fgt_k (fgt_k (fgt_k (fgt_k (fgt_k (fgt_k (fgt_no fgt_nil)))))))) ?_
                    exact ih_34 _ _ (by omega) (by
                          rw [cnI_s (by omega), ← ha]
                          rcases hz with q | q
                          · have q2 := q.2
                            rw [if_pos q.1] <;> omega
                          · have q2 := q.2
                            rw [if_neg q.1] <;> omega) (by omega)
                  · refine pw_iinc5 C (by decide) dX11_radiusBut_127 ?_
                    refine pw_iinc6 C (by decide) dX11_radiusBut_130 ?_
                    refine pw_goto (tgt := 34) C dX11_radiusBut_133 (by decide) ?_
                    refine pw_fgt (fgt_k (fgt_k (fgt_k (fgt_k (fgt_k (fgt_k (fgt_k (fgt_no fgt_nil)))))))) ?_
                    exact ih_34 _ _ (by omega) (by
                          rw [cnI_s (by omega), ← ha]
                          rcases hz with q | q
                          · have q2 := q.2
                            rw [if_pos q.1] <;> omega
                          · have q2 := q.2
                            rw [if_neg q.1] <;> omega) (by omega)
                refine pw_aload0 C dX11_radiusBut_43 ?_
                refine g_43_9 C fl_X11_27 dX11_radiusBut_44 ?_
                refine pw_iload6 C dX11_radiusBut_47 ?_
                refine pw_iaload C lay_46 (by omega) (by decide) dX11_radiusBut_49 ?_
                refine pw_iconst C dX11_radiusBut_50 ?_
                refine pw_icmp_ne (tgt := 119) C dX11_radiusBut_51 (by decide) (by omega) (by omega) (fun h51 => ?_) (fun h51 => ?_)
                · refine pw_iconst C dX11_radiusBut_119 ?_
                  exact cut_120 _ (by
                        first
                          | exact Or.inl ⟨by unfold ahB; simp only [Bool.and_eq_true, Bool.or_eq_true, decide_eq_true_eq]; exact ⟨h51, by omega⟩, rfl⟩
                          | exact Or.inr ⟨by unfold ahB; intro h; simp only [Bool.and_eq_true, Bool.or_eq_true, decide_eq_true_eq] at h; have h9 := h.2; omega, rfl⟩
                          | exact Or.inr ⟨by unfold ahB; intro h; simp only [Bool.and_eq_true, Bool.or_eq_true, decide_eq_true_eq] at h; exact h51 h.1, rfl⟩)
                · refine pw_aload0 C dX11_radiusBut_54 ?_
                  refine g_43_21 C fl_X11_46 dX11_radiusBut_55 ?_
                  refine pw_bipush C dX11_radiusBut_58 (by decide) ?_
                  refine pw_iload1 C dX11_radiusBut_60 ?_
                  refine pw_imul C dX11_radiusBut_61 ?_
                  refine pw_iload6 C dX11_radiusBut_62 ?_
                  refine pw_iadd C dX11_radiusBut_64 ?_
                  refine pw_baload C lay_52 (by omega) (by decide) dX11_radiusBut_65 ?_
                  have hkna := hKn k hk.1 hk.2 o (by omega) (by show o < M 43 6; omega)
                  have hkra := KnOK_rng hW hKn (k := k) (w := o) hk (by constructor; omega; show o < M 43 6; omega)
                  refine pw_top C (Dw (cfM M) (rwX (cfM M) k) o) hkna ?_
                  rw [hkna] at hkra
                  refine pw_aload0 C dX11_radiusBut_66 ?_
                  refine g_43_21 C fl_X11_46 dX11_radiusBut_67 ?_
                  refine pw_bipush C dX11_radiusBut_70 (by decide) ?_
                  refine pw_iload1 C dX11_radiusBut_72 ?_
                  refine pw_imul C dX11_radiusBut_73 ?_
                  refine pw_iload4 C dX11_radiusBut_74 ?_
                  refine pw_iadd C dX11_radiusBut_76 ?_
                  refine pw_baload C lay_52 (by omega) (by decide) dX11_radiusBut_77 ?_
                  have hknb := hKn k hk.1 hk.2 w (by omega) (by show w < M 43 6; omega)
                  have hkrb := KnOK_rng hW hKn (k := k) (w := w) hk (by constructor; omega; show w < M 43 6; omega)
                  refine pw_top C (Dw (cfM M) (rwX (cfM M) k) w) hknb ?_
                  rw [hknb] at hkrb
                  refine pw_icmp_gt (tgt := 115) C dX11_radiusBut_78 (by decide) (by omega) (by omega) (fun h78 => ?_) (fun h78 => ?_)
                  · refine pw_iconst C dX11_radiusBut_115 ?_
                    refine pw_goto (tgt := 120) C dX11_radiusBut_116 (by decide) ?_
                    exact cut_120 _ (by
                          first
                            | exact Or.inl ⟨by unfold ahB; simp only [Bool.and_eq_true, Bool.or_eq_true, decide_eq_true_eq]; exact ⟨h51, by omega⟩, rfl⟩
                            | exact Or.inr ⟨by unfold ahB; intro h; simp only [Bool.and_eq_true, Bool.or_eq_true, decide_eq_true_eq] at h; have h9 := h.2; omega, rfl⟩
                            | exact Or.inr ⟨by unfold ahB; intro h; simp only [Bool.and_eq_true, Bool.or_eq_true, decide_eq_true_eq] at h; exact h51 h.1, rfl⟩)
                  · refine pw_aload0 C dX11_radiusBut_81 ?_
                    refine g_43_21 C fl_X11_46 dX11_radiusBut_82 ?_
                    refine pw_bipush C dX11_radiusBut_85 (by decide) ?_
                    refine pw_iload1 C dX11_radiusBut_87 ?_
                    refine pw_imul C dX11_radiusBut_88 ?_
                    refine pw_iload6 C dX11_radiusBut_89 ?_
                    refine pw_iadd C dX11_radiusBut_91 ?_
                    refine pw_baload C lay_52 (by omega) (by decide) dX11_radiusBut_92 ?_
                    have hknc := hKn k hk.1 hk.2 o (by omega) (by show o < M 43 6; omega)
                    have hkrc := KnOK_rng hW hKn (k := k) (w := o) hk (by constructor; omega; show o < M 43 6; omega)
                    refine pw_top C (Dw (cfM M) (rwX (cfM M) k) o) hknc ?_
                    rw [hknc] at hkrc
                    refine pw_aload0 C dX11_radiusBut_93 ?_
                    refine g_43_21 C fl_X11_46 dX11_radiusBut_94 ?_
                    refine pw_bipush C dX11_radiusBut_97 (by decide) ?_
                    refine pw_iload1 C dX11_radiusBut_99 ?_
                    refine pw_imul C dX11_radiusBut_100 ?_
                    refine pw_iload4 C dX11_radiusBut_101 ?_
                    refine pw_iadd C dX11_radiusBut_103 ?_
                    refine pw_baload C lay_52 (by omega) (by decide) dX11_radiusBut_104 ?_
                    have hknd := hKn k hk.1 hk.2 w (by omega) (by show w < M 43 6; omega)
                    have hkrd := KnOK_rng hW hKn (k := k) (w := w) hk (by constructor; omega; show w < M 43 6; omega)
                    refine pw_top C (Dw (cfM M) (rwX (cfM M) k) w) hknd ?_
                    rw [hknd] at hkrd
                    refine pw_icmp_ne (tgt := 119) C dX11_radiusBut_105 (by decide) (by omega) (by omega) (fun h105 => ?_) (fun h105 => ?_)
                    · refine pw_iconst C dX11_radiusBut_119 ?_
                      exact cut_120 _ (by
                            first
                              | exact Or.inl ⟨by unfold ahB; simp only [Bool.and_eq_true, Bool.or_eq_true, decide_eq_true_eq]; exact ⟨h51, by omega⟩, rfl⟩
                              | exact Or.inr ⟨by unfold ahB; intro h; simp only [Bool.and_eq_true, Bool.or_eq_true, decide_eq_true_eq] at h; have h9 := h.2; omega, rfl⟩
                              | exact Or.inr ⟨by unfold ahB; intro h; simp only [Bool.and_eq_true, Bool.or_eq_true, decide_eq_true_eq] at h; exact h51 h.1, rfl⟩)
                    · refine pw_iload6 C dX11_radiusBut_108 ?_
                      refine pw_iload4 C dX11_radiusBut_110 ?_
                      refine pw_icmp_ge (tgt := 119) C dX11_radiusBut_112 (by decide) (by omega) (by omega) (fun h112 => ?_) (fun h112 => ?_)
                      · refine pw_iconst C dX11_radiusBut_119 ?_
                        exact cut_120 _ (by
                              first
                                | exact Or.inl ⟨by unfold ahB; simp only [Bool.and_eq_true, Bool.or_eq_true, decide_eq_true_eq]; exact ⟨h51, by omega⟩, rfl⟩
                                | exact Or.inr ⟨by unfold ahB; intro h; simp only [Bool.and_eq_true, Bool.or_eq_true, decide_eq_true_eq] at h; have h9 := h.2; omega, rfl⟩
                                | exact Or.inr ⟨by unfold ahB; intro h; simp only [Bool.and_eq_true, Bool.or_eq_true, decide_eq_true_eq] at h; exact h51 h.1, rfl⟩)
                      · refine pw_iconst C dX11_radiusBut_115 ?_
                        refine pw_goto (tgt := 120) C dX11_radiusBut_116 (by decide) ?_
                        exact cut_120 _ (by
                              first
                                | exact Or.inl ⟨by unfold ahB; simp only [Bool.and_eq_true, Bool.or_eq_true, decide_eq_true_eq]; exact ⟨h51, by omega⟩, rfl⟩
                                | exact Or.inr ⟨by unfold ahB; intro h; simp only [Bool.and_eq_true, Bool.or_eq_true, decide_eq_true_eq] at h; have h9 := h.2; omega, rfl⟩
                                | exact Or.inr ⟨by unfold ahB; intro h; simp only [Bool.and_eq_true, Bool.or_eq_true, decide_eq_true_eq] at h; exact h51 h.1, rfl⟩)
          exact cut_34 _ _ _ (by omega) (by exact cnI_0.symm) (Nat.lt_succ_self _)
        · refine pw_goto (tgt := 155) C dX11_radiusBut_25 (by decide) ?_
          refine pw_iinc4 C (by decide) dX11_radiusBut_155 ?_
          refine pw_goto (tgt := 5) C dX11_radiusBut_158 (by decide) ?_
          exact ih_5 _ _ (by omega) (by
                rw [rbN_s (by omega), ← hf]
                by_cases q : M 46 w = 1 ∧ ahI (Dw (cfM M) (rwX (cfM M) k)) (M 46) (M 43 6) w = but
                · rw [if_pos q] <;> first | exact absurd q.1 h22 | exact absurd (by rw [ha, show o = M 43 6 by omega]; exact q.2) h139
                · rw [if_neg q] <;> exact absurd ⟨h22, by rw [← h139, ha, show o = M 43 6 by omega]; rfl⟩ q) (by omega)
  exact cut_5 _ _ _ (by omega) (by rfl) (Nat.lt_succ_self _)
def nfK (c : Cfg) (but k : Int) : Int := if but = 0 then rdK c k else rbK c but k
theorem nfK_rng {c : Cfg} (hW : WfK c) (but k : Int) : 0 ≤ nfK c but k ∧ nfK c but k ≤ 63 := by
  have z1 := (rdK_rng hW k).1
  have z2 := rbK_rng hW but k
  unfold nfK
  split <;> omega
set_option maxHeartbeats 4000000 in
set_option maxRecDepth 100000 in
theorem c_X11_nearest (l : Launch) (K : KX) (M : Mem) (but : Int) (hW : WfK (cfM M)) (hKn : M 43 13 = 0 ∨ (M 43 13 = 1 ∧ KnOK (cfM M) M)) (hbut : 0 ≤ but ∧ but ≤ 7) : MCi l K LAY yX11_nearest cX11_nearest 6 (some .int) 4 [rV K 43, iV but] M (fun r M' => (M' 43 13 = 0 ∨ (M' 43 13 = 1 ∧ KnOK (cfM M) M')) ∧ ((nrB (cfM M) = 0 ∧ r = -1) ∨ (nrB (cfM M) ≠ 0 ∧ KnOK (cfM M) M' ∧ (((∀ j, 0 ≤ j → j < nK (cfM M) → cdK (cfM M) j = false) ∧ r = -1) ∨ (0 ≤ r ∧ FM (cdK (cfM M)) (nfK (cfM M) but) (nK (cfM M)) r)))) ∧ Sm [43, 51, 52, 53] M M' ∧ Fm [13] M M') := by
  refine mci_intro RX11 rfl [some (rV K 43), some (iV but), none, none, none, none] rfl (by decide +kernel) (cat_r (cat_i cat_nil)) (Nat.le_of_ble_eq_true rfl) (fun X hX C => ?_)
  subst hX
  have w_let := wm_let hW
  have w_sw := wm_sw hW
  have w_dr := wm_dr hW
  have w_gp := wm_gp hW
  have w_w := wm_w hW
  have w_l := wm_l hW
  have w_l1 := wm_l1 hW
  have w_t := wm_t hW
  have hK0 := nK_pos hW
  have hK1 := nK_le hW
  have hmr := mny_rng (p := M 46) (v := 1) (M 43 6) w_w.1
  have hmz : mny (M 46) 1 (M 43 6) = 0 ↔ nrB (cfM M) = 0 := many_nz hW
  refine pw_aload0 C dX11_nearest_0 ?_
  refine pw_iconst C dX11_nearest_1 ?_
  refine pw_cVi1 C (c_X11_many _ K _ _ (hW) (by omega)) cb_X11_many lay_43 kc_11 rfl ml_X11_141 dX11_nearest_2 (by decide) (Nat.le_of_ble_eq_true rfl) (fun r2 M2 hQ => ?_)
  obtain ⟨rfl, hMe⟩ := hQ
  replace hMe := hMe.symm
  subst hMe
  refine pw_if_ne (tgt := 10) C dX11_nearest_5 (by decide) (by omega) (fun h5 => ?_) (fun h5 => ?_)
  · refine pw_aload0 C dX11_nearest_10 ?_
    refine pw_cVv0 C (c_X11_knows _ K _ (hW) (hKn)) cb_X11_knows lay_43 kc_11 rfl ml_X11_145 dX11_nearest_11 (by decide) (Nat.le_of_ble_eq_true rfl) (fun M11 hQ => ?_)
    obtain ⟨h1_11, h2_11, hF11, hJ11⟩ := hQ
    have ec : cfM M11 = cfM M := cfM_e (hJ11 1 (by decide)) (hJ11 3 (by decide)) (hJ11 4 (by decide)) (hJ11 5 (by decide)) (hJ11 6 (by decide)) (hJ11 7 (by decide)) (hJ11 10 (by decide)) (hF11 44 (by decide)) (hF11 45 (by decide)) (hF11 46 (by decide)) (hF11 47 (by decide)) (hF11 48 (by decide))
    refine pw_iconst C dX11_nearest_14 ?_
    refine pw_istore2 C (by decide) dX11_nearest_15 ?_
    refine pw_iconst C dX11_nearest_16 ?_
    refine pw_istore3 C (by decide) dX11_nearest_17 ?_
    refine pw_iconst C dX11_nearest_18 ?_
    refine pw_istore4 C (by decide) dX11_nearest_19 ?_
    have cut_21 : ∀ (fu : Nat) (b v k : Int), (0 ≤ k ∧ k ≤ nK (cfM M)) → (((∀ j, 0 ≤ j → j < k → cdK (cfM M) j = false) ∧ b = -1 ∧ v = 0) ∨ (0 ≤ b ∧ b < k ∧ FM (cdK (cfM M)) (nfK (cfM M) but) k b ∧ v = nfK (cfM M) but b)) → (nK (cfM M) - k).toNat < fu → PW X K LAY 6 (0, 0) (Zi X K LAY (fun r M' => (M' 43 13 = 0 ∨ (M' 43 13 = 1 ∧ KnOK (cfM M) M')) ∧ ((nrB (cfM M) = 0 ∧ r = -1) ∨ (nrB (cfM M) ≠ 0 ∧ KnOK (cfM M) M' ∧ (((∀ j, 0 ≤ j → j < nK (cfM M) → cdK (cfM M) j = false) ∧ r = -1) ∨ (0 ≤ r ∧ FM (cdK (cfM M)) (nfK (cfM M) but) (nK (cfM M)) r)))) ∧ Sm [43, 51, 52, 53] M M' ∧ Fm [13] M M')) 21 [some (rV K 43), some (iV but), some (iV b), some (iV v), some (iV k), none] [] M11 := by
      intro fu
      induction fu with
      | zero => intro _ _ _ _ _ hm; exact absurd hm (Nat.not_lt_zero _)
      | succ fu ih =>
        intro b v k hk hb hm
        have ih_21 := ih
        have hm_21 := hm
        refine pw_iload4 C dX11_nearest_21 ?_
        refine pw_aload0 C dX11_nearest_23 ?_
        refine pw_cVi0 C (c_X11_rows _ K _ (by rw [ec]; exact hW)) cb_X11_rows lay_43 kc_11 rfl ml_X11_130 dX11_nearest_24 (by decide) (Nat.le_of_ble_eq_true rfl) (fun r24 M24 hQ => ?_)
        obtain ⟨rfl, hMe⟩ := hQ
        replace hMe := hMe.symm
        subst hMe
        rw [ec]
        refine pw_icmp_ge (tgt := 90) C dX11_nearest_27 (by decide) (by omega) (by omega) (fun h27 => ?_) (fun h27 => ?_)
        · refine pw_iload2 C dX11_nearest_90 ?_
          exact pw_iretI C dX11_nearest_91 (⟨by exact Or.inr ⟨h2_11, h1_11⟩, by refine Or.inr ⟨fun h => h5 (hmz.mpr h), h1_11, ?_⟩; rw [show nK (cfM M) = k by omega]; rcases hb with q | q; exact Or.inl ⟨q.1, q.2.1⟩; exact Or.inr ⟨q.1, q.2.2.1⟩, (Sm_trans Sm_refl hF11 (by decide)), (Fm_tr Fm_refl hJ11 (by decide))⟩)
        · have hur : ∀ j, 0 ≤ nfK (cfM M) but j ∧ nfK (cfM M) but j ≤ 63 := fun j => nfK_rng hW but j
          have hvr : 0 ≤ v ∧ v ≤ 63 := by rcases hb with q | q; omega; rw [q.2.2.2]; exact hur b
          have hbr : -1 ≤ b ∧ b ≤ 16384 := by rcases hb with q | q; omega; omega
          have hnx : ∀ j, j = k ∨ j ≠ k := fun j => Decidable.em _
          refine pw_aload0 C dX11_nearest_30 ?_
          refine pw_iload4 C dX11_nearest_31 ?_
          refine pw_cVi1 C (c_X11_isCandidate _ K _ _ (by rw [ec]; exact hW) (by rw [ec]; exact h1_11) (by rw [ec]; omega)) cb_X11_isCandidate lay_43 kc_11 rfl ml_X11_148 dX11_nearest_33 (by decide) (Nat.le_of_ble_eq_true rfl) (fun r33 M33 hQ => ?_)
          obtain ⟨rfl, hMe⟩ := hQ
          replace hMe := hMe.symm
          subst hMe
          rw [ec]
          refine pw_if_ne (tgt := 42) C dX11_nearest_36 (by decide) (by split <;> omega) (fun h36 => ?_) (fun h36 => ?_)
          · have e36 : cdK (cfM M) k = true := Decidable.byContradiction fun h => by rw [if_neg h] at h36; omega
            have cut_62 : ∀  (u : Int), (u = nfK (cfM M) but k) → PW X K LAY 6 (0, 0) (Zi X K LAY (fun r M' => (M' 43 13 = 0 ∨ (M' 43 13 = 1 ∧ KnOK (cfM M) M')) ∧ ((nrB (cfM M) = 0 ∧ r = -1) ∨ (nrB (cfM M) ≠ 0 ∧ KnOK (cfM M) M' ∧ (((∀ j, 0 ≤ j → j < nK (cfM M) → cdK (cfM M) j = false) ∧ r = -1) ∨ (0 ≤ r ∧ FM (cdK (cfM M)) (nfK (cfM M) but) (nK (cfM M)) r)))) ∧ Sm [43, 51, 52, 53] M M' ∧ Fm [13] M M')) 62 [some (rV K 43), some (iV but), some (iV b), some (iV v), some (iV k), none] [iV u] M11 := by
              intro u hu
              refine pw_istore5 C (by decide) dX11_nearest_62 ?_
              refine pw_iload2 C dX11_nearest_64 ?_
              refine pw_iconst C dX11_nearest_65 ?_
              refine pw_icmp_eq (tgt := 78) C dX11_nearest_66 (by decide) (by omega) (by omega) (fun h66 => ?_) (fun h66 => ?_)
              · refine pw_iload4 C dX11_nearest_78 ?_
                refine pw_istore2 C (by decide) dX11_nearest_80 ?_
                refine pw_iload5 C dX11_nearest_81 ?_
                refine pw_istore3 C (by decide) dX11_nearest_83 ?_
                refine pw_iinc4 C (by decide) dX11_nearest_84 ?_
                refine pw_goto (tgt := 21) C dX11_nearest_87 (by decide) ?_
                refine pw_fgt (fgt_k (fgt_k (fgt_k (fgt_k (fgt_k (fgt_no fgt_nil)))))) ?_
                exact ih_21 _ _ _ (by omega) (by
                      first
                        | (rcases hb with q | q
                           · exact Or.inl ⟨fun j q1 q2 => by rcases hnx j with z | z; rw [z]; exact e36; exact q.1 j q1 (by omega), q.2.1, q.2.2⟩
                           · exact Or.inr ⟨q.1, by omega, FM_keep q.2.2.1 (Or.inl e36), q.2.2.2⟩)
                        | (rcases hb with q | q
                           · exact Or.inr ⟨by omega, by omega, FM_first q.1 e36 (by omega), hu⟩
                           · first
                               | exact absurd h66 (by omega)
                               | exact Or.inr ⟨by omega, by omega, FM_new q.2.2.1 e36 (by rw [← hu, ← q.2.2.2]; omega) (by omega), hu⟩)
                        | (rcases hb with q | q
                           · exact absurd q.2.1 h66
                           · exact Or.inr ⟨q.1, by omega, FM_keep q.2.2.1 (Or.inr (by rw [← hu, ← q.2.2.2]; omega)), q.2.2.2⟩)) (by omega)
              · refine pw_iload5 C dX11_nearest_69 ?_
                refine pw_iload3 C dX11_nearest_71 ?_
                refine pw_icmp_lt (tgt := 78) C dX11_nearest_72 (by decide) (by have := hur k; rw [← hu] at this; omega) (by have := hur k; rw [← hu] at this; omega) (fun h72 => ?_) (fun h72 => ?_)
                · refine pw_iload4 C dX11_nearest_78 ?_
                  refine pw_istore2 C (by decide) dX11_nearest_80 ?_
                  refine pw_iload5 C dX11_nearest_81 ?_
                  refine pw_istore3 C (by decide) dX11_nearest_83 ?_
                  refine pw_iinc4 C (by decide) dX11_nearest_84 ?_
                  refine pw_goto (tgt := 21) C dX11_nearest_87 (by decide) ?_
                  refine pw_fgt (fgt_k (fgt_k (fgt_k (fgt_k (fgt_k (fgt_no fgt_nil)))))) ?_
                  exact ih_21 _ _ _ (by omega) (by
                        first
                          | (rcases hb with q | q
                             · exact Or.inl ⟨fun j q1 q2 => by rcases hnx j with z | z; rw [z]; exact e36; exact q.1 j q1 (by omega), q.2.1, q.2.2⟩
                             · exact Or.inr ⟨q.1, by omega, FM_keep q.2.2.1 (Or.inl e36), q.2.2.2⟩)
                          | (rcases hb with q | q
                             · exact Or.inr ⟨by omega, by omega, FM_first q.1 e36 (by omega), hu⟩
                             · first
                                 | exact absurd h66 (by omega)
                                 | exact Or.inr ⟨by omega, by omega, FM_new q.2.2.1 e36 (by rw [← hu, ← q.2.2.2]; omega) (by omega), hu⟩)
                          | (rcases hb with q | q
                             · exact absurd q.2.1 h66
                             · exact Or.inr ⟨q.1, by omega, FM_keep q.2.2.1 (Or.inr (by rw [← hu, ← q.2.2.2]; omega)), q.2.2.2⟩)) (by omega)
                · refine pw_goto (tgt := 84) C dX11_nearest_75 (by decide) ?_
                  refine pw_iinc4 C (by decide) dX11_nearest_84 ?_
                  refine pw_goto (tgt := 21) C dX11_nearest_87 (by decide) ?_
                  refine pw_fgt (fgt_k (fgt_k (fgt_k (fgt_k (fgt_k (fgt_no fgt_nil)))))) ?_
                  exact ih_21 _ _ _ (by omega) (by
                        first
                          | (rcases hb with q | q
                             · exact Or.inl ⟨fun j q1 q2 => by rcases hnx j with z | z; rw [z]; exact e36; exact q.1 j q1 (by omega), q.2.1, q.2.2⟩
                             · exact Or.inr ⟨q.1, by omega, FM_keep q.2.2.1 (Or.inl e36), q.2.2.2⟩)
                          | (rcases hb with q | q
                             · exact Or.inr ⟨by omega, by omega, FM_first q.1 e36 (by omega), hu⟩
                             · first
                                 | exact absurd h66 (by omega)
                                 | exact Or.inr ⟨by omega, by omega, FM_new q.2.2.1 e36 (by rw [← hu, ← q.2.2.2]; omega) (by omega), hu⟩)
                          | (rcases hb with q | q
                             · exact absurd q.2.1 h66
                             · exact Or.inr ⟨q.1, by omega, FM_keep q.2.2.1 (Or.inr (by rw [← hu, ← q.2.2.2]; omega)), q.2.2.2⟩)) (by omega)
            refine pw_iload1 C dX11_nearest_42 ?_
            refine pw_if_ne (tgt := 55) C dX11_nearest_43 (by decide) (by omega) (fun h43 => ?_) (fun h43 => ?_)
            · refine pw_aload0 C dX11_nearest_55 ?_
              refine pw_iload4 C dX11_nearest_56 ?_
              refine pw_iload1 C dX11_nearest_58 ?_
              refine pw_cVi2 C (c_X11_radiusBut _ K _ _ _ (by rw [ec]; exact hW) (by rw [ec]; exact h1_11) (by rw [ec]; omega) (by omega)) cb_X11_radiusBut lay_43 kc_11 rfl ml_X11_154 dX11_nearest_59 (by decide) (Nat.le_of_ble_eq_true rfl) (fun r59 M59 hQ => ?_)
              obtain ⟨rfl, hMe⟩ := hQ
              replace hMe := hMe.symm
              subst hMe
              rw [ec]
              exact cut_62 _ (by unfold nfK; rw [if_neg h43])
            · refine pw_aload0 C dX11_nearest_46 ?_
              refine pw_iload4 C dX11_nearest_47 ?_
              refine pw_cVi1 C (c_X11_radius _ K _ _ (by rw [ec]; exact hW) (by rw [ec]; exact h1_11) (by rw [ec]; omega)) cb_X11_radius lay_43 kc_11 rfl ml_X11_151 dX11_nearest_49 (by decide) (Nat.le_of_ble_eq_true rfl) (fun r49 M49 hQ => ?_)
              obtain ⟨rfl, hMe⟩ := hQ
              replace hMe := hMe.symm
              subst hMe
              rw [ec]
              refine pw_goto (tgt := 62) C dX11_nearest_52 (by decide) ?_
              exact cut_62 _ (by unfold nfK; rw [if_pos h43])
          · have e36 : cdK (cfM M) k = false := Bool.eq_false_iff.mpr (fun h => by rw [if_pos h] at h36; omega)
            refine pw_goto (tgt := 84) C dX11_nearest_39 (by decide) ?_
            refine pw_iinc4 C (by decide) dX11_nearest_84 ?_
            refine pw_goto (tgt := 21) C dX11_nearest_87 (by decide) ?_
            exact ih_21 _ _ _ (by omega) (by
                  first
                    | (rcases hb with q | q
                       · exact Or.inl ⟨fun j q1 q2 => by rcases hnx j with z | z; rw [z]; exact e36; exact q.1 j q1 (by omega), q.2.1, q.2.2⟩
                       · exact Or.inr ⟨q.1, by omega, FM_keep q.2.2.1 (Or.inl e36), q.2.2.2⟩)
                    | (rcases hb with q | q
                       · exact Or.inr ⟨by omega, by omega, FM_first q.1 e36 (by omega), hu⟩
                       · first
                           | exact absurd h66 (by omega)
                           | exact Or.inr ⟨by omega, by omega, FM_new q.2.2.1 e36 (by rw [← hu, ← q.2.2.2]; omega) (by omega), hu⟩)
                    | (rcases hb with q | q
                       · exact absurd q.2.1 h66
                       · exact Or.inr ⟨q.1, by omega, FM_keep q.2.2.1 (Or.inr (by rw [← hu, ← q.2.2.2]; omega)), q.2.2.2⟩)) (by omega)
    exact cut_21 _ _ _ _ (by omega) (by exact Or.inl ⟨fun j q1 q2 => by omega, rfl, rfl⟩) (Nat.lt_succ_self _)
  · refine pw_iconst C dX11_nearest_8 ?_
    exact pw_iretI C dX11_nearest_9 (⟨by exact hKn, by exact Or.inl ⟨hmz.mp h5, rfl⟩, Sm_refl, Fm_refl⟩)
set_option maxHeartbeats 4000000 in
set_option maxRecDepth 100000 in
theorem c_X11_letterOf (l : Launch) (K : KX) (M : Mem) (k i : Int) (hW : WfK (cfM M)) (hk : k = -1 ∨ (0 ≤ k ∧ k < nK (cfM M))) (hi : -2147483648 ≤ i ∧ i ≤ 2147483647) : MCi l K LAY yX11_letterOf cX11_letterOf 3 (some .int) 2 [rV K 43, iV k, iV i] M (fun r M' => (r = if k ≠ -1 ∧ 0 ≤ i ∧ i < M 43 7 then rwX (cfM M) k i else -1) ∧ Sm [53] M M') := by
  refine mci_intro RX11 rfl [some (rV K 43), some (iV k), some (iV i)] rfl (by decide +kernel) (cat_r (cat_i (cat_i cat_nil))) (Nat.le_of_ble_eq_true rfl) (fun X hX C => ?_)
  subst hX
  have w_let := wm_let hW
  have w_sw := wm_sw hW
  have w_dr := wm_dr hW
  have w_gp := wm_gp hW
  have w_w := wm_w hW
  have w_l := wm_l hW
  have w_l1 := wm_l1 hW
  have w_t := wm_t hW
  have hK0 := nK_pos hW
  have hK1 := nK_le hW
  refine pw_iload1 C dX11_letterOf_0 ?_
  refine pw_iconst C dX11_letterOf_1 ?_
  refine pw_icmp_eq (tgt := 17) C dX11_letterOf_2 (by decide) (by omega) (by omega) (fun h2 => ?_) (fun h2 => ?_)
  · refine pw_iconst C dX11_letterOf_17 ?_
    exact pw_iretI C dX11_letterOf_18 (⟨by rw [if_neg (by omega)], Sm_refl⟩)
  · refine pw_iload2 C dX11_letterOf_5 ?_
    refine pw_if_lt (tgt := 17) C dX11_letterOf_6 (by decide) (by omega) (fun h6 => ?_) (fun h6 => ?_)
    · refine pw_iconst C dX11_letterOf_17 ?_
      exact pw_iretI C dX11_letterOf_18 (⟨by rw [if_neg (by omega)], Sm_refl⟩)
    · refine pw_iload2 C dX11_letterOf_9 ?_
      refine pw_aload0 C dX11_letterOf_10 ?_
      refine g_43_7 C fl_X11_110 dX11_letterOf_11 ?_
      refine pw_icmp_lt (tgt := 19) C dX11_letterOf_14 (by decide) (by omega) (by omega) (fun h14 => ?_) (fun h14 => ?_)
      · refine pw_aload0 C dX11_letterOf_19 ?_
        refine pw_iload1 C dX11_letterOf_20 ?_
        refine pw_aload0 C dX11_letterOf_21 ?_
        refine g_43_7 C fl_X11_110 dX11_letterOf_22 ?_
        refine pw_cVv2 C (c_X11_lays _ K _ _ _ (by omega) (by omega) (by omega)) cb_X11_lays lay_43 kc_11 rfl ml_X11_134 dX11_letterOf_25 (by decide) (Nat.le_of_ble_eq_true rfl) (fun M25 hQ => ?_)
        obtain ⟨h1_25, hF25⟩ := hQ
        refine pw_aload0 C dX11_letterOf_28 ?_
        refine g_43_22 C fl_X11_49 dX11_letterOf_29 ?_
        refine pw_iload2 C dX11_letterOf_32 ?_
        refine pw_baload C lay_53 (by omega) (by decide) dX11_letterOf_33 ?_
        exact pw_iretI C dX11_letterOf_34 (⟨by rw [if_pos (by omega)]; exact h1_25 i (by omega) (by omega), (Sm_trans Sm_refl hF25 (by decide))⟩)
      · refine pw_iconst C dX11_letterOf_17 ?_
        exact pw_iretI C dX11_letterOf_18 (⟨by rw [if_neg (by omega)], Sm_refl⟩)
