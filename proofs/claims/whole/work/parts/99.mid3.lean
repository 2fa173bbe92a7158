def MdR (c : Cfg) (M : Mem) : Prop := (nrB c = 0 ∧ M 29 1 = -1) ∨ (nrB c ≠ 0 ∧ MdS c (M 29 1) (M 29 2) (M 30))
theorem MdR_c {c : Cfg} {M M' : Mem} (h1 : M' 29 = M 29) (h2 : M' 30 = M 30) (h : MdR c M) : MdR c M' := by
  unfold MdR at h ⊢
  rw [h1, h2]
  exact h
theorem MdR_rng {c : Cfg} (hW : WfK c) {M : Mem} (h : MdR c M) : (-1 ≤ M 29 1 ∧ M 29 1 ≤ 1080) ∧ (M 29 1 ≠ -1 → 1 ≤ M 29 2 ∧ M 29 2 ≤ 8) := by
  rcases h with ⟨a, b⟩ | ⟨a, b⟩
  · omega
  · have := MdS_rng hW b
    omega
theorem MdR_s {c : Cfg} {M : Mem} (h : MdR c M) : PMs c (M 29 1) := h.elim Or.inl (fun h => Or.inr ⟨h.1, _, _, h.2⟩)
theorem MdR_l {c : Cfg} (hW : WfK c) {M : Mem} (h : MdR c M) : PMl c (if M 29 1 = -1 then -1 else M 29 2) := by
  rcases h with ⟨a, b⟩ | ⟨a, b⟩
  · exact Or.inl ⟨a, by rw [if_pos b]⟩
  · have := MdS_rng hW b
    rw [if_neg (by omega)]
    exact Or.inr ⟨a, _, _, b⟩
theorem MdR_a {c : Cfg} (hW : WfK c) {M : Mem} {i : Int} (h : MdR c M) : PMa c i (if M 29 1 ≠ -1 ∧ 0 ≤ i ∧ i < M 29 2 then M 30 i else -1) := by
  rcases h with ⟨a, b⟩ | ⟨a, b⟩
  · exact Or.inl ⟨a, by rw [if_neg (fun h => h.1 b)]⟩
  · have := MdS_rng hW b
    refine Or.inr ⟨a, _, _, _, b, ?_⟩
    by_cases e : 0 ≤ i ∧ i < M 29 2
    · rw [if_pos e, if_pos ⟨by omega, e⟩]
    · rw [if_neg e, if_neg (fun h => e h.2)]
set_option maxHeartbeats 4000000 in
set_option maxRecDepth 100000 in
theorem c_X1_refresh (l : Launch) (K : KX) (M : Mem) (hW : WfK (cf M)) (hfr : M 29 0 = 0 ∨ (M 29 0 = 1 ∧ MdR (cf M) M)) : MCv l K LAY yX1_refresh cX1_refresh 2 none 6 [rV K 29] M (fun M' => (MdR (cf M) M') ∧ (M' 29 0 = 1) ∧ Sm [29, 30, 31, 32] M M') := by
  refine mcv_intro RX1 rfl [some (rV K 29), none] rfl (by decide +kernel) (cat_r cat_nil) (Nat.le_of_ble_eq_true rfl) (fun X hX C => ?_)
  subst hX
  have w_let := wf_let hW
  have w_sw := wf_sw hW
  have w_dr := wf_dr hW
  have w_w := wf_w hW
  have w_l := wf_l hW
  have w_l1 := wf_l1 hW
  refine pw_aload0 C dX1_refresh_0 ?_
  refine g_29_0 C fl_X1_11 dX1_refresh_1 ?_
  refine pw_if_eq (tgt := 8) C dX1_refresh_4 (by decide) (by omega) (fun h4 => ?_) (fun h4 => ?_)
  · refine pw_aload0 C dX1_refresh_8 ?_
    refine pw_iconst C dX1_refresh_9 ?_
    refine p_29_0 C (by decide) fl_X1_11 dX1_refresh_10 ?_
    refine pw_aload0 C dX1_refresh_13 ?_
    refine pw_iconst C dX1_refresh_14 ?_
    refine p_29_1 C fl_X1_15 dX1_refresh_15 ?_
    refine pw_aload0 C dX1_refresh_18 ?_
    refine g_29_5 C fl_X1_36 dX1_refresh_19 ?_
    have nz22_6 : (up2 (up2 M 29 0 1) 29 1 (-1)) 6 = M 6 := ((up2_ne (by decide)).trans (up2_ne (by decide)))
    have nz22_8 : (up2 (up2 M 29 0 1) 29 1 (-1)) 8 = M 8 := ((up2_ne (by decide)).trans (up2_ne (by decide)))
    refine pw_cVi0 C (c_X9_hasNear _ K _ (by rw [nz22_6]; omega) (by rw [nz22_6, nz22_8]; exact wf_p hW)) cb_X9_hasNear lay_6 kc_9 rfl ml_X1_66 dX1_refresh_22 (by decide) (Nat.le_of_ble_eq_true rfl) (fun r22 M22 hQ => ?_)
    obtain ⟨rfl, hMe⟩ := hQ
    replace hMe := hMe.symm
    subst hMe
    refine pw_top C (if nrB (cf M) = 0 then 0 else 1) (by rw [nz22_8, nz22_6]; rfl) ?_
    refine pw_if_eq (tgt := 81) C dX1_refresh_25 (by decide) (by split <;> omega) (fun h25 => ?_) (fun h25 => ?_)
    · have hb0 : nrB (cf M) = 0 := Decidable.byContradiction fun h => by rw [if_neg h] at h25; omega
      exact pw_vretV C dX1_refresh_81 (⟨by
            first
              | exact Or.inl ⟨hb0, rd_eq⟩
              | (obtain ⟨b, hb1, hb2⟩ := h1_30
                 have hwr := word_row hW (w := b) hb1
                 rw [show n = 9 by omega] at hmi
                 refine Or.inr ⟨hb0, MiC_end hmi hwr.1 ?_⟩
                 rw [hwr.2]
                 have e5 : r30 = meX (cf M) (fun i => kWl (cf M) (b * 7 + i)) (kL (cf M)) := hb2
                 omega), by first | exact m0 | (rw [rd_ne (by decide)]; exact rd_eq), (Sm_up (Sm_up Sm_refl (by decide)) (by decide))⟩)
    · have hb0 : nrB (cf M) ≠ 0 := fun h => by rw [if_pos h] at h25; omega
      have ecA : cf (up2 (up2 M 29 0 1) 29 1 (-1)) = cf M := by unfold cf; simp only [up2_ne (show (1 : Nat) ≠ 29 by decide), up2_ne (show (2 : Nat) ≠ 29 by decide), up2_ne (show (6 : Nat) ≠ 29 by decide), up2_ne (show (7 : Nat) ≠ 29 by decide), up2_ne (show (8 : Nat) ≠ 29 by decide), up2_ne (show (9 : Nat) ≠ 29 by decide), up2_ne (show (10 : Nat) ≠ 29 by decide), up2_ne (show (11 : Nat) ≠ 29 by decide)]
      refine pw_aload0 C dX1_refresh_28 ?_
      refine pw_aload0 C dX1_refresh_29 ?_
      refine pw_cVi0 C (c_X1_leastOfNear _ K _ (by rw [ecA]; exact hW) (by rw [ecA]; exact hb0)) cb_X1_leastOfNear lay_29 kc_1 rfl ml_X1_70 dX1_refresh_30 (by decide) (Nat.le_of_ble_eq_true rfl) (fun r30 M30 hQ => ?_)
      obtain ⟨h1_30, hr_30, hF30⟩ := hQ
      rw [ecA] at h1_30
      simp only [up2_ne (show (6 : Nat) ≠ 29 by decide), up2_ne (show (7 : Nat) ≠ 29 by decide)] at h1_30
      refine pw_iconst C dX1_refresh_33 ?_
      refine pw_iadd C dX1_refresh_34 ?_
      refine p_29_1 C fl_X1_15 dX1_refresh_35 ?_
      refine pw_iconst C dX1_refresh_38 ?_
      refine pw_istore1 C (by decide) dX1_refresh_39 ?_
      have cut_40 : ∀ (fu : Nat) (w : Int) (M2 : Mem), Sm [29, 32] M M2 → (0 ≤ w ∧ w ≤ M 6 0) → (M2 29 0 = 1) → (M2 29 1 = r30 + 1) → (∀ u, 0 ≤ u → u < w → ∀ j, 0 ≤ j → j ≤ M 6 1 → M2 32 (u * 8 + j) = j * M 1 2) → (M 6 0 - w).toNat < fu → PW X K LAY 2 (0, 0) (Zv X K LAY (fun M' => (MdR (cf M) M') ∧ (M' 29 0 = 1) ∧ Sm [29, 30, 31, 32] M M')) 40 [some (rV K 29), some (iV w)] [] M2 := by
        intro fu
        induction fu with
        | zero => intro _ _ _ _ _ _ _ hm; exact absurd hm (Nat.not_lt_zero _)
        | succ fu ih =>
          intro w M2 hF40 hw n0 n1 g hm
          have ih_40 := ih
          have hm_40 := hm
          have ecM2 : cf M2 = cf M := by unfold cf; rw [hF40 1 (by decide), hF40 2 (by decide), hF40 6 (by decide), hF40 7 (by decide), hF40 8 (by decide), hF40 9 (by decide), hF40 10 (by decide), hF40 11 (by decide)]
          refine pw_iload1 C dX1_refresh_40 ?_
          refine pw_aload0 C dX1_refresh_41 ?_
          refine g_29_5 C fl_X1_36 dX1_refresh_42 ?_
          refine g_6_0 C fl_X1_74 dX1_refresh_45 ?_
          refine pw_top C _ (congrFun (hF40 6 (by decide)) _) ?_
          refine pw_icmp_ge (tgt := 62) C dX1_refresh_48 (by decide) (by omega) (by omega) (fun h48 => ?_) (fun h48 => ?_)
          · refine pw_iconst C dX1_refresh_62 ?_
            refine pw_istore1 C (by decide) dX1_refresh_63 ?_
            have cut_64 : ∀ (fu : Nat) (n : Int) (M3 : Mem), Sm [29, 30, 31, 32] M M3 → (1 ≤ n ∧ n ≤ 9) → (M3 29 0 = 1) → (LnC (cf M) (M3 31) (M3 32) 0) → (MiC (cf M) (r30 + 1) (M3 29 1) (M3 29 2) (M3 30) n 0) → (9 - n).toNat < fu → PW X K LAY 2 (0, 0) (Zv X K LAY (fun M' => (MdR (cf M) M') ∧ (M' 29 0 = 1) ∧ Sm [29, 30, 31, 32] M M')) 64 [some (rV K 29), some (iV n)] [] M3 := by
              intro fu
              induction fu with
              | zero => intro _ _ _ _ _ _ _ hm; exact absurd hm (Nat.not_lt_zero _)
              | succ fu ih =>
                intro n M3 hF64 hn m0 hl3 hmi hm
                have ih_64 := ih
                have hm_64 := hm
                have ecM3 : cf M3 = cf M := by unfold cf; rw [hF64 1 (by decide), hF64 2 (by decide), hF64 6 (by decide), hF64 7 (by decide), hF64 8 (by decide), hF64 9 (by decide), hF64 10 (by decide), hF64 11 (by decide)]
                refine pw_iload1 C dX1_refresh_64 ?_
                refine pw_bipush C dX1_refresh_65 (by decide) ?_
                refine pw_icmp_gt (tgt := 81) C dX1_refresh_67 (by decide) (by omega) (by omega) (fun h67 => ?_) (fun h67 => ?_)
                · exact pw_vretV C dX1_refresh_81 (⟨by
                        first
                          | exact Or.inl ⟨hb0, rd_eq⟩
                          | (obtain ⟨b, hb1, hb2⟩ := h1_30
                             have hwr := word_row hW (w := b) hb1
                             rw [show n = 9 by omega] at hmi
                             refine Or.inr ⟨hb0, MiC_end hmi hwr.1 ?_⟩
                             rw [hwr.2]
                             have e5 : r30 = meX (cf M) (fun i => kWl (cf M) (b * 7 + i)) (kL (cf M)) := hb2
                             omega), by first | exact m0 | (rw [rd_ne (by decide)]; exact rd_eq), (Sm_trans Sm_refl hF64 (by decide))⟩)
                · refine pw_aload0 C dX1_refresh_70 ?_
                  refine pw_iload1 C dX1_refresh_71 ?_
                  refine pw_cVv1 C (c_X1_search _ K _ _ (r30 + 1) (by rw [ecM3]; exact hW) (by omega) (by rw [ecM3]; exact hl3) (by omega) (by rw [ecM3]; exact hmi)) cb_X1_search lay_29 kc_1 rfl ml_X1_77 dX1_refresh_72 (by decide) (Nat.le_of_ble_eq_true rfl) (fun M72 hQ => ?_)
                  obtain ⟨hl_72, hm_72, h0_72, hF72⟩ := hQ
                  rw [ecM3] at hm_72 hl_72
                  refine pw_iinc1 C (by decide) dX1_refresh_75 ?_
                  refine pw_goto (tgt := 64) C dX1_refresh_78 (by decide) ?_
                  exact ih_64 _ _ (Sm_trans (Sm_trans Sm_refl hF64 (by decide)) hF72 (by decide)) (by omega) (by rw [h0_72]; exact m0) (by exact hl_72) (by exact hm_72) (by omega)
            exact cut_64 _ _ _ (Sm_trans Sm_refl hF40 (by decide)) (by omega) (by exact n0) (by
                  intro i q1 q2 u u1 u2 u3 j j1 j2
                  have e1 : kW (cf M) = M 6 0 := rfl
                  rw [show i = 0 by omega, show 0 * 64 + u * 8 + j = u * 8 + j by omega, g u u1 (by omega) j j1 j2]
                  rfl) (by rw [n1]; exact MiC_0) (Nat.lt_succ_self _)
          · refine pw_aload0 C dX1_refresh_51 ?_
            refine pw_iload1 C dX1_refresh_52 ?_
            have nz53_6 : M2 6 = M 6 := (hF40 6 (by decide))
            refine pw_cVv1 C (c_X1_firstLine _ K _ _ (by rw [ecM2]; exact hW) (by rw [hF40 6 (by decide)]; omega)) cb_X1_firstLine lay_29 kc_1 rfl ml_X1_40 dX1_refresh_53 (by decide) (Nat.le_of_ble_eq_true rfl) (fun M53 hQ => ?_)
            obtain ⟨h1_53, hF53⟩ := hQ
            refine pw_iinc1 C (by decide) dX1_refresh_56 ?_
            refine pw_goto (tgt := 40) C dX1_refresh_59 (by decide) ?_
            exact ih_40 _ _ (Sm_trans (Sm_trans Sm_refl hF40 (by decide)) hF53 (by decide)) (by omega) (by rw [hF53 29 (by decide)]; exact n0) (by rw [hF53 29 (by decide)]; exact n1) (by
                  intro u q1 q2 j j1 j2
                  rw [h1_53, hF40 6 (by decide), hF40 1 (by decide)]
                  by_cases e : u = w
                  · rw [e, if_pos (by omega), show w * 8 + j - w * 8 = j by omega]
                  · rw [if_neg (by omega)]; exact g u q1 (by omega) j j1 j2) (by omega)
      exact cut_40 _ _ _ (Sm_up (Sm_trans (Sm_up (Sm_up Sm_refl (by decide)) (by decide)) hF30 (by decide)) (by decide)) (by omega) (by rw [rd_ne (by decide), hF30 29 (by decide), rd_ne (by decide), rd_eq]) (by exact rd_eq) (by intro u q1 q2; omega) (Nat.lt_succ_self _)
  · exact pw_vretV C dX1_refresh_7 (⟨by exact hfr.elim (fun h => absurd h h4) (fun h => h.2), by exact hfr.elim (fun h => absurd h h4) (fun h => h.1), Sm_refl⟩)
set_option maxHeartbeats 4000000 in
set_option maxRecDepth 100000 in
theorem c_X10_middle (l : Launch) (K : KX) (M : Mem) (hW : WfK (cf M)) (hfr : M 29 0 = 0 ∨ (M 29 0 = 1 ∧ MdR (cf M) M)) : MCi l K LAY yX10_middle cX10_middle 1 (some .int) 7 [rV K 0] M (fun r M' => (PMs (cf M) r) ∧ (MdR (cf M) M') ∧ (M' 29 0 = 1) ∧ Sm [29, 30, 31, 32] M M') := by
  refine mci_intro RX10 rfl [some (rV K 0)] rfl (by decide +kernel) (cat_r cat_nil) (Nat.le_of_ble_eq_true rfl) (fun X hX C => ?_)
  subst hX
  have w_let := wf_let hW
  have w_sw := wf_sw hW
  have w_dr := wf_dr hW
  have w_w := wf_w hW
  have w_l := wf_l hW
  have w_l1 := wf_l1 hW
  refine pw_aload0 C dX10_middle_0 ?_
  refine g_0_7 C fl_X10_65 dX10_middle_1 ?_
  refine pw_cVv0 C (c_X1_refresh _ K _ (hW) (hfr)) cb_X1_refresh lay_29 kc_1 rfl ml_X10_221 dX10_middle_4 (by decide) (Nat.le_of_ble_eq_true rfl) (fun M4 hQ => ?_)
  obtain ⟨hS_4, h0_4, hF4⟩ := hQ
  refine pw_aload0 C dX10_middle_7 ?_
  refine g_0_7 C fl_X10_65 dX10_middle_8 ?_
  refine g_29_1 C fl_X10_222 dX10_middle_11 ?_
  exact pw_iretI C dX10_middle_14 (⟨by exact MdR_s hS_4, by exact hS_4, by exact h0_4, (Sm_trans Sm_refl hF4 (by decide))⟩)
set_option maxHeartbeats 4000000 in
set_option maxRecDepth 100000 in
theorem c_X10_middleLength (l : Launch) (K : KX) (M : Mem) (hW : WfK (cf M)) (hfr : M 29 0 = 0 ∨ (M 29 0 = 1 ∧ MdR (cf M) M)) : MCi l K LAY yX10_middleLength cX10_middleLength 1 (some .int) 7 [rV K 0] M (fun r M' => (PMl (cf M) r) ∧ (MdR (cf M) M') ∧ (M' 29 0 = 1) ∧ Sm [29, 30, 31, 32] M M') := by
  refine mci_intro RX10 rfl [some (rV K 0)] rfl (by decide +kernel) (cat_r cat_nil) (Nat.le_of_ble_eq_true rfl) (fun X hX C => ?_)
  subst hX
  have w_let := wf_let hW
  have w_sw := wf_sw hW
  have w_dr := wf_dr hW
  have w_w := wf_w hW
  have w_l := wf_l hW
  have w_l1 := wf_l1 hW
  refine pw_aload0 C dX10_middleLength_0 ?_
  refine g_0_7 C fl_X10_65 dX10_middleLength_1 ?_
  refine pw_cVv0 C (c_X1_refresh _ K _ (hW) (hfr)) cb_X1_refresh lay_29 kc_1 rfl ml_X10_221 dX10_middleLength_4 (by decide) (Nat.le_of_ble_eq_true rfl) (fun M4 hQ => ?_)
  obtain ⟨hS_4, h0_4, hF4⟩ := hQ
  have hrg := MdR_rng hW hS_4
  have hq := MdR_l hW hS_4
  refine pw_aload0 C dX10_middleLength_7 ?_
  refine g_0_7 C fl_X10_65 dX10_middleLength_8 ?_
  refine g_29_1 C fl_X10_222 dX10_middleLength_11 ?_
  refine pw_iconst C dX10_middleLength_14 ?_
  refine pw_icmp_ne (tgt := 22) C dX10_middleLength_15 (by decide) (by omega) (by omega) (fun h15 => ?_) (fun h15 => ?_)
  · refine pw_aload0 C dX10_middleLength_22 ?_
    refine g_0_7 C fl_X10_65 dX10_middleLength_23 ?_
    refine g_29_2 C fl_X10_225 dX10_middleLength_26 ?_
    exact pw_iretI C dX10_middleLength_29 (⟨by first | (rw [if_pos h15] at hq; exact hq) | (rw [if_neg h15] at hq; exact hq), by exact hS_4, by exact h0_4, (Sm_trans Sm_refl hF4 (by decide))⟩)
  · refine pw_iconst C dX10_middleLength_18 ?_
    refine pw_goto (tgt := 29) C dX10_middleLength_19 (by decide) ?_
    exact pw_iretI C dX10_middleLength_29 (⟨by first | (rw [if_pos h15] at hq; exact hq) | (rw [if_neg h15] at hq; exact hq), by exact hS_4, by exact h0_4, (Sm_trans Sm_refl hF4 (by decide))⟩)
set_option maxHeartbeats 4000000 in
set_option maxRecDepth 100000 in
theorem c_X10_middleAt (l : Launch) (K : KX) (M : Mem) (i : Int) (hW : WfK (cf M)) (hfr : M 29 0 = 0 ∨ (M 29 0 = 1 ∧ MdR (cf M) M)) (hi : -2147483648 ≤ i ∧ i ≤ 2147483647) : MCi l K LAY yX10_middleAt cX10_middleAt 2 (some .int) 7 [rV K 0, iV i] M (fun r M' => (PMa (cf M) i r) ∧ (MdR (cf M) M') ∧ (M' 29 0 = 1) ∧ Sm [29, 30, 31, 32] M M') := by
  refine mci_intro RX10 rfl [some (rV K 0), some (iV i)] rfl (by decide +kernel) (cat_r (cat_i cat_nil)) (Nat.le_of_ble_eq_true rfl) (fun X hX C => ?_)
  subst hX
  have w_let := wf_let hW
  have w_sw := wf_sw hW
  have w_dr := wf_dr hW
  have w_w := wf_w hW
  have w_l := wf_l hW
  have w_l1 := wf_l1 hW
  refine pw_aload0 C dX10_middleAt_0 ?_
  refine g_0_7 C fl_X10_65 dX10_middleAt_1 ?_
  refine pw_cVv0 C (c_X1_refresh _ K _ (hW) (hfr)) cb_X1_refresh lay_29 kc_1 rfl ml_X10_221 dX10_middleAt_4 (by decide) (Nat.le_of_ble_eq_true rfl) (fun M4 hQ => ?_)
  obtain ⟨hS_4, h0_4, hF4⟩ := hQ
  have hrg := MdR_rng hW hS_4
  have hq := MdR_a (i := i) hW hS_4
  refine pw_aload0 C dX10_middleAt_7 ?_
  refine g_0_7 C fl_X10_65 dX10_middleAt_8 ?_
  refine g_29_1 C fl_X10_222 dX10_middleAt_11 ?_
  refine pw_iconst C dX10_middleAt_14 ?_
  refine pw_icmp_eq (tgt := 39) C dX10_middleAt_15 (by decide) (by omega) (by omega) (fun h15 => ?_) (fun h15 => ?_)
  · refine pw_iconst C dX10_middleAt_39 ?_
    exact pw_iretI C dX10_middleAt_40 (⟨by first | (rw [if_pos (by omega)] at hq; exact hq) | (rw [if_neg (by omega)] at hq; exact hq), by exact hS_4, by exact h0_4, (Sm_trans Sm_refl hF4 (by decide))⟩)
  · have hrl := hrg.2 h15
    refine pw_iload1 C dX10_middleAt_18 ?_
    refine pw_if_lt (tgt := 39) C dX10_middleAt_19 (by decide) (by omega) (fun h19 => ?_) (fun h19 => ?_)
    · refine pw_iconst C dX10_middleAt_39 ?_
      exact pw_iretI C dX10_middleAt_40 (⟨by first | (rw [if_pos (by omega)] at hq; exact hq) | (rw [if_neg (by omega)] at hq; exact hq), by exact hS_4, by exact h0_4, (Sm_trans Sm_refl hF4 (by decide))⟩)
    · refine pw_iload1 C dX10_middleAt_22 ?_
      refine pw_aload0 C dX10_middleAt_23 ?_
      refine g_0_7 C fl_X10_65 dX10_middleAt_24 ?_
      refine g_29_2 C fl_X10_225 dX10_middleAt_27 ?_
      refine pw_icmp_ge (tgt := 39) C dX10_middleAt_30 (by decide) (by omega) (by omega) (fun h30 => ?_) (fun h30 => ?_)
      · refine pw_iconst C dX10_middleAt_39 ?_
        exact pw_iretI C dX10_middleAt_40 (⟨by first | (rw [if_pos (by omega)] at hq; exact hq) | (rw [if_neg (by omega)] at hq; exact hq), by exact hS_4, by exact h0_4, (Sm_trans Sm_refl hF4 (by decide))⟩)
      · refine pw_iload1 C dX10_middleAt_33 ?_
        refine pw_bipush C dX10_middleAt_34 (by decide) ?_
        refine pw_icmp_lt (tgt := 41) C dX10_middleAt_36 (by decide) (by omega) (by omega) (fun h36 => ?_) (fun h36 => ?_)
        · refine pw_aload0 C dX10_middleAt_41 ?_
          refine g_0_7 C fl_X10_65 dX10_middleAt_42 ?_
          refine g_29_3 C fl_X10_226 dX10_middleAt_45 ?_
          refine pw_iload1 C dX10_middleAt_48 ?_
          refine pw_iaload C lay_30 (by omega) (by decide) dX10_middleAt_49 ?_
          exact pw_iretI C dX10_middleAt_50 (⟨by first | (rw [if_pos (by omega)] at hq; exact hq) | (rw [if_neg (by omega)] at hq; exact hq), by exact hS_4, by exact h0_4, (Sm_trans Sm_refl hF4 (by decide))⟩)
        · refine pw_iconst C dX10_middleAt_39 ?_
          exact pw_iretI C dX10_middleAt_40 (⟨by first | (rw [if_pos (by omega)] at hq; exact hq) | (rw [if_neg (by omega)] at hq; exact hq), by exact hS_4, by exact h0_4, (Sm_trans Sm_refl hF4 (by decide))⟩)
def PEd (c : Cfg) (a b r : Int) : Prop := r = if (0 ≤ a ∧ a < kW c) ∧ (0 ≤ b ∧ b < kW c) then edW c (fun t => kWl c (a * 7 + t)) b (kL c) (kL c) else -1
def PEf (c : Cfg) (s : Int) (by9 : Int → Int) (w r : Int) : Prop := ((allL by9 (kN c) s ∧ (0 ≤ w ∧ w < kW c) ∧ (1 ≤ s ∧ s ≤ 8)) ∧ r = edW c (fun p => by9 p - 97) w s (kL c)) ∨ (¬ (allL by9 (kN c) s ∧ (0 ≤ w ∧ w < kW c) ∧ (1 ≤ s ∧ s ≤ 8)) ∧ r = -1)
theorem PEf_one {c : Cfg} {s w r1 r2 : Int} {by9 : Int → Int} (h : PEf c s by9 w r1) (h2 : PEf c s by9 w r2) : r1 = r2 := by
  rcases h with ⟨a, b⟩ | ⟨a, b⟩ <;> rcases h2 with ⟨d, e⟩ | ⟨d, e⟩
  · rw [b, e]
  · exact absurd a d
  · exact absurd d a
  · rw [b, e]
set_option maxHeartbeats 4000000 in
set_option maxRecDepth 100000 in
theorem c_X10_edits (l : Launch) (K : KX) (M : Mem) (a b : Int) (hW : WfK (cf M)) (ha : -2147483648 ≤ a ∧ a ≤ 2147483647) (hb : -2147483648 ≤ b ∧ b ≤ 2147483647) : MCi l K LAY yX10_edits cX10_edits 3 (some .int) 4 [rV K 0, iV a, iV b] M (fun r M' => (PEd (cf M) a b r) ∧ Sm [32] M M') := by
  refine mci_intro RX10 rfl [some (rV K 0), some (iV a), some (iV b)] rfl (by decide +kernel) (cat_r (cat_i (cat_i cat_nil))) (Nat.le_of_ble_eq_true rfl) (fun X hX C => ?_)
  subst hX
  have w_let := wf_let hW
  have w_sw := wf_sw hW
  have w_dr := wf_dr hW
  have w_w := wf_w hW
  have w_l := wf_l hW
  have w_l1 := wf_l1 hW
  refine pw_aload0 C dX10_edits_0 ?_
  refine g_0_2 C fl_X10_26 dX10_edits_1 ?_
  refine pw_iload1 C dX10_edits_4 ?_
  refine pw_cVi1 C (c_X9_has _ K _ _ (by omega) (by omega)) cb_X9_has lay_6 kc_9 rfl ml_X10_139 dX10_edits_5 (by decide) (Nat.le_of_ble_eq_true rfl) (fun r5 M5 hQ => ?_)
  obtain ⟨rfl, hMe⟩ := hQ
  replace hMe := hMe.symm
  subst hMe
  refine pw_if_eq (tgt := 22) C dX10_edits_8 (by decide) (by split <;> omega) (fun h8 => ?_) (fun h8 => ?_)
  · have e8 : ¬ (0 ≤ a ∧ a < M 6 0) := fun h => by rw [if_pos h] at h8; omega
    refine pw_iconst C dX10_edits_22 ?_
    exact pw_iretI C dX10_edits_23 (⟨by show _ = if (0 ≤ a ∧ a < M 6 0) ∧ (0 ≤ b ∧ b < M 6 0) then _ else _; rw [if_neg (by omega)], Sm_refl⟩)
  · have e8 : (0 ≤ a ∧ a < M 6 0) := Decidable.byContradiction fun h => by rw [if_neg h] at h8; omega
    refine pw_aload0 C dX10_edits_11 ?_
    refine g_0_2 C fl_X10_26 dX10_edits_12 ?_
    refine pw_iload2 C dX10_edits_15 ?_
    refine pw_cVi1 C (c_X9_has _ K _ _ (by omega) (by omega)) cb_X9_has lay_6 kc_9 rfl ml_X10_139 dX10_edits_16 (by decide) (Nat.le_of_ble_eq_true rfl) (fun r16 M16 hQ => ?_)
    obtain ⟨rfl, hMe⟩ := hQ
    replace hMe := hMe.symm
    subst hMe
    refine pw_if_ne (tgt := 24) C dX10_edits_19 (by decide) (by split <;> omega) (fun h19 => ?_) (fun h19 => ?_)
    · have e19 : (0 ≤ b ∧ b < M 6 0) := Decidable.byContradiction fun h => by rw [if_neg h] at h19; omega
      refine pw_aload0 C dX10_edits_24 ?_
      refine g_0_7 C fl_X10_65 dX10_edits_25 ?_
      refine pw_aload0 C dX10_edits_28 ?_
      refine g_0_2 C fl_X10_26 dX10_edits_29 ?_
      refine g_6_2 C fl_X10_145 dX10_edits_32 ?_
      refine pw_aload0 C dX10_edits_35 ?_
      refine g_0_2 C fl_X10_26 dX10_edits_36 ?_
      refine pw_iload1 C dX10_edits_39 ?_
      refine pw_cVi1 C (c_X9_start _ K _ _) cb_X9_start lay_6 kc_9 rfl ml_X10_148 dX10_edits_40 (by decide) (Nat.le_of_ble_eq_true rfl) (fun r40 M40 hQ => ?_)
      obtain ⟨rfl, hMe⟩ := hQ
      replace hMe := hMe.symm
      subst hMe
      refine pw_aload0 C dX10_edits_43 ?_
      refine g_0_2 C fl_X10_26 dX10_edits_44 ?_
      refine g_6_1 C fl_X10_122 dX10_edits_47 ?_
      refine pw_iload2 C dX10_edits_50 ?_
      refine pw_cVi4 C (c_X1_editing _ K _ 7 _ _ _ _ (hW) (lay_7) (by decide) (by decide) (by omega) (by omega) (by intro p q1 q2; have := wf_wl hW a p (by omega) (by omega) q1 q2; omega) (by omega)) cb_X1_editing lay_29 kc_1 rfl ml_X10_217 dX10_edits_51 (by decide) (Nat.le_of_ble_eq_true rfl) (fun r51 M51 hQ => ?_)
      obtain ⟨h1_51, hF51⟩ := hQ
      exact pw_iretI C dX10_edits_54 (⟨by show _ = if (0 ≤ a ∧ a < M 6 0) ∧ (0 ≤ b ∧ b < M 6 0) then _ else _; rw [if_pos ⟨e8, e19⟩]; exact h1_51, (Sm_trans Sm_refl hF51 (by decide))⟩)
    · have e19 : ¬ (0 ≤ b ∧ b < M 6 0) := fun h => by rw [if_pos h] at h19; omega
      refine pw_iconst C dX10_edits_22 ?_
      exact pw_iretI C dX10_edits_23 (⟨by show _ = if (0 ≤ a ∧ a < M 6 0) ∧ (0 ≤ b ∧ b < M 6 0) then _ else _; rw [if_neg (by omega)], Sm_refl⟩)
set_option maxHeartbeats 4000000 in
set_option maxRecDepth 100000 in
theorem c_X10_editsFrom (l : Launch) (K : KX) (M : Mem) (w : Int) (hW : WfK (cf M)) (hw : -2147483648 ≤ w ∧ w ≤ 2147483647) (hs : 0 ≤ M 3 0 ∧ M 3 0 ≤ 40) (hb : ∀ j, 0 ≤ j → j < M 3 0 → -128 ≤ M 5 j ∧ M 5 j ≤ 127) : MCi l K LAY yX10_editsFrom cX10_editsFrom 3 (some .int) 4 [rV K 0, iV w] M (fun r M' => (M' 3 0 = 0) ∧ (PEf (cf M) (M 3 0) (M 5) w r) ∧ Sm [3, 4, 32] M M') := by
  refine mci_intro RX10 rfl [some (rV K 0), some (iV w), none] rfl (by decide +kernel) (cat_r (cat_i cat_nil)) (Nat.le_of_ble_eq_true rfl) (fun X hX C => ?_)
  subst hX
  have w_let := wf_let hW
  have w_sw := wf_sw hW
  have w_dr := wf_dr hW
  have w_w := wf_w hW
  have w_l := wf_l hW
  have w_l1 := wf_l1 hW
  refine pw_aload0 C dX10_editsFrom_0 ?_
  refine g_0_1 C fl_X10_19 dX10_editsFrom_1 ?_
  refine pw_aload0 C dX10_editsFrom_4 ?_
  refine g_0_0 C fl_X10_10 dX10_editsFrom_5 ?_
  refine g_1_0 C fl_X10_83 dX10_editsFrom_8 ?_
  refine pw_cVi1 C (c_X6_take _ K _ _ (by omega) (by omega) (hb)) cb_X6_take lay_3 kc_6 rfl ml_X10_118 dX10_editsFrom_11 (by decide) (Nat.le_of_ble_eq_true rfl) (fun r11 M11 hQ => ?_)
  obtain ⟨hz_11, hp_11, hF11⟩ := hQ
  have hr11 : (allL (M 5) (M 1 0) (M 3 0) ∧ r11 = M 3 0) ∨ (¬ allL (M 5) (M 1 0) (M 3 0) ∧ r11 = -1) := hp_11.elim (fun h => Or.inl ⟨h.1, h.2.1⟩) (fun h => Or.inr h)
  have hrr : -1 ≤ r11 ∧ r11 ≤ 40 := by rcases hr11 with q | q; omega; omega
  have ec11 : cf M11 = cf M := by unfold cf; rw [hF11 1 (by decide), hF11 2 (by decide), hF11 6 (by decide), hF11 7 (by decide), hF11 8 (by decide), hF11 9 (by decide), hF11 10 (by decide), hF11 11 (by decide)]
  refine pw_istore2 C (by decide) dX10_editsFrom_14 ?_
  refine pw_aload0 C dX10_editsFrom_15 ?_
  refine g_0_2 C fl_X10_26 dX10_editsFrom_16 ?_
  refine pw_iload1 C dX10_editsFrom_19 ?_
  have nz20_6 : M11 6 = M 6 := (hF11 6 (by decide))
  refine pw_cVi1 C (c_X9_has _ K _ _ (by first | omega | (simp only [nz20_6]; omega)) (by first | omega | (simp only [nz20_6]; omega))) cb_X9_has lay_6 kc_9 rfl ml_X10_139 dX10_editsFrom_20 (by decide) (Nat.le_of_ble_eq_true rfl) (fun r20 M20 hQ => ?_)
  obtain ⟨rfl, hMe⟩ := hQ
  replace hMe := hMe.symm
  subst hMe
  refine pw_if_eq (tgt := 37) C dX10_editsFrom_23 (by decide) (by split <;> omega) (fun h23 => ?_) (fun h23 => ?_)
  · have e23 : ¬ (0 ≤ w ∧ w < M 6 0) := fun h => by rw [hF11 6 (by decide), if_pos h] at h23; omega
    refine pw_iconst C dX10_editsFrom_37 ?_
    exact pw_iretI C dX10_editsFrom_38 (⟨by exact hz_11, by
          refine Or.inr ⟨fun h => ?_, rfl⟩
          have e1 : kW (cf M) = M 6 0 := rfl
          rcases hr11 with q | q
          · omega
          · exact q.1 h.1, (Sm_trans Sm_refl hF11 (by decide))⟩)
  · have e23 : (0 ≤ w ∧ w < M 6 0) := Decidable.byContradiction fun h => by rw [hF11 6 (by decide), if_neg h] at h23; omega
    refine pw_iload2 C dX10_editsFrom_26 ?_
    refine pw_iconst C dX10_editsFrom_27 ?_
    refine pw_icmp_lt (tgt := 37) C dX10_editsFrom_28 (by decide) (by omega) (by omega) (fun h28 => ?_) (fun h28 => ?_)
    · refine pw_iconst C dX10_editsFrom_37 ?_
      exact pw_iretI C dX10_editsFrom_38 (⟨by exact hz_11, by
            refine Or.inr ⟨fun h => ?_, rfl⟩
            have e1 : kW (cf M) = M 6 0 := rfl
            rcases hr11 with q | q
            · omega
            · exact q.1 h.1, (Sm_trans Sm_refl hF11 (by decide))⟩)
    · refine pw_iload2 C dX10_editsFrom_31 ?_
      refine pw_bipush C dX10_editsFrom_32 (by decide) ?_
      refine pw_icmp_le (tgt := 39) C dX10_editsFrom_34 (by decide) (by omega) (by omega) (fun h34 => ?_) (fun h34 => ?_)
      · have hal : allL (M 5) (M 1 0) (M 3 0) ∧ r11 = M 3 0 := by rcases hr11 with h | h; exact h; omega
        have hrow : ∀ j, 0 ≤ j → j < M 3 0 → M11 4 j = M 5 j - 97 := hp_11.elim (fun h => h.2.2) (fun h => absurd h.2 (by omega))
        refine pw_aload0 C dX10_editsFrom_39 ?_
        refine g_0_7 C fl_X10_65 dX10_editsFrom_40 ?_
        refine pw_aload0 C dX10_editsFrom_43 ?_
        refine g_0_1 C fl_X10_19 dX10_editsFrom_44 ?_
        refine g_3_1 C fl_X10_125 dX10_editsFrom_47 ?_
        refine pw_iconst C dX10_editsFrom_50 ?_
        refine pw_iload2 C dX10_editsFrom_51 ?_
        refine pw_iload1 C dX10_editsFrom_52 ?_
        have nz53_6 : M11 6 = M 6 := (hF11 6 (by decide))
        refine pw_cVi4 C (c_X1_editing _ K _ 4 _ _ _ _ (by rw [ec11]; exact hW) (lay_4) (by decide) (by decide) (by omega) (by omega) (by intro p h1 h2; rw [Int.zero_add, hrow p h1 (by omega)]; have := hal.1 p h1 (by omega); omega) (by rw [hF11 6 (by decide)]; exact e23)) cb_X1_editing lay_29 kc_1 rfl ml_X10_217 dX10_editsFrom_53 (by decide) (Nat.le_of_ble_eq_true rfl) (fun r53 M53 hQ => ?_)
        obtain ⟨h1_53, hF53⟩ := hQ
        exact pw_iretI C dX10_editsFrom_56 (⟨by rw [hF53 3 (by decide)]; exact hz_11, by
              refine Or.inl ⟨⟨hal.1, e23, by omega⟩, ?_⟩
              rw [h1_53, ec11, hF11 6 (by decide), hal.2]
              exact edW_congr (n := M 3 0) (fun i q1 q2 => by rw [Int.zero_add]; exact hrow i q1 q2) (M 3 0) (by omega) (Int.le_refl _) (M 6 1) (by omega), (Sm_trans (Sm_trans Sm_refl hF11 (by decide)) hF53 (by decide))⟩)
      · refine pw_iconst C dX10_editsFrom_37 ?_
        exact pw_iretI C dX10_editsFrom_38 (⟨by exact hz_11, by
              refine Or.inr ⟨fun h => ?_, rfl⟩
              have e1 : kW (cf M) = M 6 0 := rfl
              rcases hr11 with q | q
              · omega
              · exact q.1 h.1, (Sm_trans Sm_refl hF11 (by decide))⟩)
