set_option maxHeartbeats 4000000 in
set_option maxRecDepth 100000 in
theorem c_X11_power (l : Launch) (K : KX) (M : Mem) (a n : Int) (hn : 0 ≤ n ∧ n ≤ 8) (ha : 2 ≤ a ∧ a ≤ 4) : MCi l K LAY yX11_power cX11_power 4 (some .int) 1 [iV a, iV n] M (fun r M' => (r = a ^ n.toNat) ∧ M' = M) := by
  refine mci_intro RX11 rfl [some (iV a), some (iV n), none, none] rfl (by decide +kernel) (cat_i (cat_i cat_nil)) (Nat.le_of_ble_eq_true rfl) (fun X hX C => ?_)
  subst hX
  refine pw_iconst C dX11_power_0 ?_
  refine pw_istore2 C (by decide) dX11_power_1 ?_
  refine pw_iconst C dX11_power_2 ?_
  refine pw_istore3 C (by decide) dX11_power_3 ?_
  have cut_4 : ∀ (fu : Nat) (v p : Int), (0 ≤ p ∧ p ≤ n) → (v = a ^ p.toNat) → (n - p).toNat < fu → PW X K LAY 4 (0, 0) (Zi X K LAY (fun r M' => (r = a ^ n.toNat) ∧ M' = M)) 4 [some (iV a), some (iV n), some (iV v), some (iV p)] [] M := by
    intro fu
    induction fu with
    | zero => intro _ _ _ _ hm; exact absurd hm (Nat.not_lt_zero _)
    | succ fu ih =>
      intro v p hp hv hm
      have ih_4 := ih
      have hm_4 := hm
      refine pw_iload3 C dX11_power_4 ?_
      refine pw_iload1 C dX11_power_5 ?_
      refine pw_icmp_ge (tgt := 19) C dX11_power_6 (by decide) (by omega) (by omega) (fun h6 => ?_) (fun h6 => ?_)
      · refine pw_iload2 C dX11_power_19 ?_
        exact pw_iretI C dX11_power_20 (⟨by rw [hv, show p = n by omega], rfl⟩)
      · refine pw_iload2 C dX11_power_9 ?_
        refine pw_iload0 C dX11_power_10 ?_
        refine pw_imul C dX11_power_11 ?_
        refine pw_istore2 C (by decide) dX11_power_12 ?_
        refine pw_iinc3 C (by decide) dX11_power_13 ?_
        refine pw_goto (tgt := 4) C dX11_power_16 (by decide) ?_
        exact ih_4 _ _ (by omega) (by rw [hv, pow_s (by omega)]) (by omega)
  exact cut_4 _ _ _ (by omega) (by simp) (Nat.lt_succ_self _)
set_option maxHeartbeats 4000000 in
set_option maxRecDepth 100000 in
theorem c_X11_rows (l : Launch) (K : KX) (M : Mem) (hW : WfK (cfM M)) : MCi l K LAY yX11_rows cX11_rows 1 (some .int) 2 [rV K 43] M (fun r M' => (r = nK (cfM M)) ∧ M' = M) := by
  refine mci_intro RX11 rfl [some (rV K 43)] rfl (by decide +kernel) (cat_r cat_nil) (Nat.le_of_ble_eq_true rfl) (fun X hX C => ?_)
  subst hX
  have w_let := wm_let hW
  have w_sw := wm_sw hW
  have w_dr := wm_dr hW
  have w_gp := wm_gp hW
  have w_w := wm_w hW
  have w_l := wm_l hW
  have w_l1 := wm_l1 hW
  have w_t := wm_t hW
  have hK0 := nK_pos hW
  have hK1 := nK_le hW
  refine pw_aload0 C dX11_rows_0 ?_
  refine g_43_1 C fl_X11_13 dX11_rows_1 ?_
  refine pw_aload0 C dX11_rows_4 ?_
  refine g_43_7 C fl_X11_110 dX11_rows_5 ?_
  refine pw_cSi2 C (c_X11_power _ K _ _ _ (by omega) (by omega)) cb_X11_power ml_X11_127 dX11_rows_8 (by decide) (Nat.le_of_ble_eq_true rfl) (fun r8 M8 hQ => ?_)
  obtain ⟨rfl, hMe⟩ := hQ
  replace hMe := hMe.symm
  subst hMe
  exact pw_iretI C dX11_rows_11 (⟨by rfl, rfl⟩)
set_option maxHeartbeats 4000000 in
set_option maxRecDepth 100000 in
theorem c_X11_lays (l : Launch) (K : KX) (M : Mem) (k n : Int) (hl : 2 ≤ M 43 1 ∧ M 43 1 ≤ 4) (hk : 0 ≤ k ∧ k ≤ 65536) (hn : 0 ≤ n ∧ n ≤ 8) : MCv l K LAY yX11_lays cX11_lays 5 none 1 [rV K 43, iV k, iV n] M (fun M' => (∀ i, 0 ≤ i → i < n → M' 53 i = dg (M 43 1) n k i) ∧ Sm [53] M M') := by
  refine mcv_intro RX11 rfl [some (rV K 43), some (iV k), some (iV n), none, none] rfl (by decide +kernel) (cat_r (cat_i (cat_i cat_nil))) (Nat.le_of_ble_eq_true rfl) (fun X hX C => ?_)
  subst hX
  refine pw_iload1 C dX11_lays_0 ?_
  refine pw_istore3 C (by decide) dX11_lays_1 ?_
  refine pw_iload2 C dX11_lays_2 ?_
  refine pw_iconst C dX11_lays_3 ?_
  refine pw_isub C dX11_lays_4 ?_
  refine pw_istore4 C (by decide) dX11_lays_5 ?_
  have cut_7 : ∀ (fu : Nat) (v i : Int) (M1 : Mem), Sm [53] M M1 → (-1 ≤ i ∧ i < n) → (v = k / (M 43 1) ^ (n - 1 - i).toNat) → (∀ j, i < j → j < n → M1 53 j = dg (M 43 1) n k j) → (i + 1).toNat < fu → PW X K LAY 5 (0, 0) (Zv X K LAY (fun M' => (∀ i, 0 ≤ i → i < n → M' 53 i = dg (M 43 1) n k i) ∧ Sm [53] M M')) 7 [some (rV K 43), some (iV k), some (iV n), some (iV v), some (iV i)] [] M1 := by
    intro fu
    induction fu with
    | zero => intro _ _ _ _ _ _ _ hm; exact absurd hm (Nat.not_lt_zero _)
    | succ fu ih =>
      intro v i M1 hF7 hi hv g hm
      have ih_7 := ih
      have hm_7 := hm
      refine pw_iload4 C dX11_lays_7 ?_
      refine pw_if_lt (tgt := 39) C dX11_lays_9 (by decide) (by omega) (fun h9 => ?_) (fun h9 => ?_)
      · exact pw_vretV C dX11_lays_39 (⟨by intro j q1 q2; exact g j (by omega) q2, (Sm_trans Sm_refl hF7 (by decide))⟩)
      · have hvr := kdiv_rng (k := k) (N := M 43 1) (n := (n - 1 - i).toNat) hk.1 (by omega)
        rw [← hv] at hvr
        have hm1 := Int.emod_nonneg v (show M 43 1 ≠ 0 by omega)
        have hm2 := Int.emod_lt_of_pos v (show 0 < M 43 1 by omega)
        refine pw_aload0 C dX11_lays_12 ?_
        refine g_43_22 C fl_X11_49 dX11_lays_13 ?_
        refine pw_iload4 C dX11_lays_16 ?_
        refine pw_iload3 C dX11_lays_18 ?_
        refine pw_aload0 C dX11_lays_19 ?_
        refine g_43_1 C fl_X11_13 dX11_lays_20 ?_
        refine pw_top C _ (congrFun (hF7 43 (by decide)) _) ?_
        refine pw_irem C (by omega) (by omega) dX11_lays_23 ?_
        refine pw_i2b C (v % M 43 1) (by rw [b_i2b (by omega), bmod_id (by omega)]) dX11_lays_24 ?_
        refine pw_bastore C lay_53 (by omega) (by decide) (by omega) dX11_lays_25 ?_
        refine pw_iload3 C dX11_lays_26 ?_
        refine pw_aload0 C dX11_lays_27 ?_
        refine g_43_1 C fl_X11_13 dX11_lays_28 ?_
        refine pw_top C _ (rd_nc (by decide)) ?_
        refine pw_top C _ (congrFun (hF7 43 (by decide)) _) ?_
        refine pw_idiv C (by omega) (by omega) dX11_lays_31 ?_
        refine pw_istore3 C (by decide) dX11_lays_32 ?_
        refine pw_iinc4 C (by decide) dX11_lays_33 ?_
        refine pw_goto (tgt := 7) C dX11_lays_36 (by decide) ?_
        exact ih_7 _ _ _ (Sm_up (Sm_trans Sm_refl hF7 (by decide)) (by decide)) (by omega) (by rw [kdiv_s (by omega) (by omega), ← hv]) (by
              intro j q1 q2
              by_cases e : j = i
              · rw [e, rd_eq, hv]; rfl
              · rw [rd_ne e]; exact g j (by omega) q2) (by omega)
  exact cut_7 _ _ _ _ Sm_refl (by omega) (by rw [show n - 1 - (n - 1) = 0 by omega]; simp) (by intro j q1 q2; omega) (Nat.lt_succ_self _)
set_option maxHeartbeats 4000000 in
set_option maxRecDepth 100000 in
theorem c_X11_knows (l : Launch) (K : KX) (M : Mem) (hW : WfK (cfM M)) (hKn : M 43 13 = 0 ∨ (M 43 13 = 1 ∧ KnOK (cfM M) M)) : MCv l K LAY yX11_knows cX11_knows 3 none 3 [rV K 43] M (fun M' => (KnOK (cfM M) M') ∧ (M' 43 13 = 1) ∧ Sm [43, 51, 52, 53] M M' ∧ Fm [13] M M') := by
  refine mcv_intro RX11 rfl [some (rV K 43), none, none] rfl (by decide +kernel) (cat_r cat_nil) (Nat.le_of_ble_eq_true rfl) (fun X hX C => ?_)
  subst hX
  have w_let := wm_let hW
  have w_sw := wm_sw hW
  have w_dr := wm_dr hW
  have w_gp := wm_gp hW
  have w_w := wm_w hW
  have w_l := wm_l hW
  have w_l1 := wm_l1 hW
  have w_t := wm_t hW
  have hK0 := nK_pos hW
  have hK1 := nK_le hW
  refine pw_aload0 C dX11_knows_0 ?_
  refine g_43_13 C fl_X11_71 dX11_knows_1 ?_
  refine pw_if_eq (tgt := 8) C dX11_knows_4 (by decide) (by omega) (fun h4 => ?_) (fun h4 => ?_)
  · refine pw_iconst C dX11_knows_8 ?_
    refine pw_istore1 C (by decide) dX11_knows_9 ?_
    have cut_10 : ∀ (fu : Nat) (k : Int) (M1 : Mem), Sm [51, 52, 53] M M1 → (0 ≤ k ∧ k ≤ nK (cfM M)) → (∀ j, 0 ≤ j → j < k → ∀ w, 0 ≤ w → w < M 43 6 → M1 52 (8 * j + w) = Dw (cfM M) (rwX (cfM M) j) w) → (nK (cfM M) - k).toNat < fu → PW X K LAY 3 (0, 0) (Zv X K LAY (fun M' => (KnOK (cfM M) M') ∧ (M' 43 13 = 1) ∧ Sm [43, 51, 52, 53] M M' ∧ Fm [13] M M')) 10 [some (rV K 43), some (iV k), none] [] M1 := by
      intro fu
      induction fu with
      | zero => intro _ _ _ _ _ hm; exact absurd hm (Nat.not_lt_zero _)
      | succ fu ih =>
        intro k M1 hF10 hk g hm
        have ih_10 := ih
        have hm_10 := hm
        have ecf_M1 : cfM M1 = cfM M := by unfold cfM; rw [hF10 43 (by decide), hF10 44 (by decide), hF10 45 (by decide), hF10 46 (by decide), hF10 47 (by decide), hF10 48 (by decide)]
        refine pw_iload1 C dX11_knows_10 ?_
        refine pw_aload0 C dX11_knows_11 ?_
        refine pw_cVi0 C (c_X11_rows _ K _ (by rw [ecf_M1]; exact hW)) cb_X11_rows lay_43 kc_11 rfl ml_X11_130 dX11_knows_12 (by decide) (Nat.le_of_ble_eq_true rfl) (fun r12 M12 hQ => ?_)
        obtain ⟨rfl, hMe⟩ := hQ
        replace hMe := hMe.symm
        subst hMe
        rw [ecf_M1]
        refine pw_icmp_ge (tgt := 82) C dX11_knows_15 (by decide) (by omega) (by omega) (fun h15 => ?_) (fun h15 => ?_)
        · refine pw_aload0 C dX11_knows_82 ?_
          refine pw_iconst C dX11_knows_83 ?_
          refine p_43_13 C (by decide) fl_X11_71 dX11_knows_84 ?_
          exact pw_vretV C dX11_knows_87 (⟨by intro j q1 q2 u q3 q4; rw [rd_nc (by decide)]; exact g j q1 (by omega) u q3 q4, by exact rd_eq, (Sm_up (Sm_trans Sm_refl hF10 (by decide)) (by decide)), (Fm_up (Fm_fr Fm_refl hF10 (by decide)) (by decide))⟩)
        · refine pw_aload0 C dX11_knows_18 ?_
          refine pw_iload1 C dX11_knows_19 ?_
          refine pw_aload0 C dX11_knows_20 ?_
          refine g_43_7 C fl_X11_110 dX11_knows_21 ?_
          refine pw_top C _ (congrFun (hF10 43 (by decide)) _) ?_
          have nz24_43 : M1 43 = M 43 := (hF10 43 (by decide))
          refine pw_cVv2 C (c_X11_lays _ K _ _ _ (by rw [hF10 43 (by decide)]; omega) (by omega) (by omega)) cb_X11_lays lay_43 kc_11 rfl ml_X11_134 dX11_knows_24 (by decide) (Nat.le_of_ble_eq_true rfl) (fun M24 hQ => ?_)
          obtain ⟨h1_24, hF24⟩ := hQ
          refine pw_iconst C dX11_knows_27 ?_
          refine pw_istore2 C (by decide) dX11_knows_28 ?_
          have cut_29 : ∀ (fu : Nat) (w : Int) (M2 : Mem), Sm [51, 52, 53] M M2 → (0 ≤ w ∧ w ≤ M 43 6) → (∀ i, 0 ≤ i → i < M 43 7 → M2 53 i = dg (M 43 1) (M 43 7) k i) → (∀ j, 0 ≤ j → j < k → ∀ u, 0 ≤ u → u < M 43 6 → M2 52 (8 * j + u) = Dw (cfM M) (rwX (cfM M) j) u) → (∀ u, 0 ≤ u → u < w → M2 52 (8 * k + u) = Dw (cfM M) (rwX (cfM M) k) u) → (M 43 6 - w).toNat < fu → PW X K LAY 3 (0, 0) (Zv X K LAY (fun M' => (KnOK (cfM M) M') ∧ (M' 43 13 = 1) ∧ Sm [43, 51, 52, 53] M M' ∧ Fm [13] M M')) 29 [some (rV K 43), some (iV k), some (iV w)] [] M2 := by
            intro fu
            induction fu with
            | zero => intro _ _ _ _ _ _ _ hm; exact absurd hm (Nat.not_lt_zero _)
            | succ fu ih =>
              intro w M2 hF29 hw hr g1 g2 hm
              have ih_29 := ih
              have hm_29 := hm
              have hx9 : ∀ p, 0 ≤ p → p < M 43 7 → 0 ≤ M2 53 (0 + p) ∧ M2 53 (0 + p) ≤ 3 := fun p q1 q2 => by rw [Int.zero_add, hr p q1 q2]; have := dg_rng (N := M 43 1) (n := M 43 7) (k := k) (i := p) (by omega); omega
              refine pw_iload2 C dX11_knows_29 ?_
              refine pw_aload0 C dX11_knows_30 ?_
              refine g_43_6 C fl_X11_85 dX11_knows_31 ?_
              refine pw_top C _ (congrFun (hF29 43 (by decide)) _) ?_
              refine pw_icmp_ge (tgt := 76) C dX11_knows_34 (by decide) (by omega) (by omega) (fun h34 => ?_) (fun h34 => ?_)
              · refine pw_iinc1 C (by decide) dX11_knows_76 ?_
                refine pw_goto (tgt := 10) C dX11_knows_79 (by decide) ?_
                refine pw_fgt (fgt_k (fgt_k (fgt_no fgt_nil))) ?_
                exact ih_10 _ _ (Sm_trans Sm_refl hF29 (by decide)) (by omega) (by
                      intro j q1 q2 u q3 q4
                      by_cases e : j = k
                      · rw [e]; exact g2 u q3 (by omega)
                      · exact g1 j q1 (by omega) u q3 q4) (by omega)
              · refine pw_aload0 C dX11_knows_37 ?_
                refine g_43_21 C fl_X11_46 dX11_knows_38 ?_
                refine pw_bipush C dX11_knows_41 (by decide) ?_
                refine pw_iload1 C dX11_knows_43 ?_
                refine pw_imul C dX11_knows_44 ?_
                refine pw_iload2 C dX11_knows_45 ?_
                refine pw_iadd C dX11_knows_46 ?_
                refine pw_aload0 C dX11_knows_47 ?_
                refine pw_aload0 C dX11_knows_48 ?_
                refine g_43_22 C fl_X11_49 dX11_knows_49 ?_
                refine pw_iconst C dX11_knows_52 ?_
                refine pw_aload0 C dX11_knows_53 ?_
                refine g_43_8 C fl_X11_23 dX11_knows_54 ?_
                refine pw_bipush C dX11_knows_57 (by decide) ?_
                refine pw_iload2 C dX11_knows_59 ?_
                refine pw_imul C dX11_knows_60 ?_
                refine pw_aload0 C dX11_knows_61 ?_
                refine g_43_7 C fl_X11_110 dX11_knows_62 ?_
                refine pw_top C _ (congrFun (hF29 43 (by decide)) _) ?_
                have nz65_43 : M2 43 = M 43 := (hF29 43 (by decide))
                have nz65_44 : M2 44 = M 44 := (hF29 44 (by decide))
                refine pw_cVi5 C (c_X11_distance _ K _ 53 45 _ _ _ _ _ (lay_53) (lay_45) (by decide) (by decide) (by decide) (by decide) (by omega) (by omega) (by omega) (hx9) (by rw [hF29 45 (by decide)]; intro p h1 h2; rw [show 7 * w + p = w * 7 + p by omega]; have := wm_wl hW w p (by omega) (by omega) (by omega) (by omega); omega) (by rw [hF29 44 (by decide)]; exact wm_pr hW) (by rw [hF29 43 (by decide)]; omega)) cb_X11_distance lay_43 kc_11 rfl ml_X11_123 dX11_knows_65 (by decide) (Nat.le_of_ble_eq_true rfl) (fun r65 M65 hQ => ?_)
                obtain ⟨rfl, hF65⟩ := hQ
                have eD : dst (M2 44) (M2 43 3) (fun p => M2 53 (0 + p)) (fun p => M2 45 (7 * w + p)) (M 43 7) = Dw (cfM M) (rwX (cfM M) k) w := by rw [hF29 44 (by decide), hF29 43 (by decide), hF29 45 (by decide), Int.mul_comm 7 w]; exact dst_congr (n := M 43 7) (fun i q1 q2 => by rw [Int.zero_add]; exact hr i q1 q2) (fun _ _ _ => rfl) (fun _ _ _ => rfl) (M 43 7) (by omega) (Int.le_refl _)
                refine pw_top C _ eD ?_
                have hDr := Dw_rng hW (x := rwX (cfM M) k) (w := w) ⟨by omega, by show w < M 43 6; omega⟩ (fun i _ _ => rwX_rng hW k i)
                refine pw_i2b C (Dw (cfM M) (rwX (cfM M) k) w) (by rw [b_i2b (by omega), bmod_id (by omega)]) dX11_knows_68 ?_
                refine pw_bastore C lay_52 (by omega) (by decide) (by omega) dX11_knows_69 ?_
                refine pw_iinc2 C (by decide) dX11_knows_70 ?_
                refine pw_goto (tgt := 29) C dX11_knows_73 (by decide) ?_
                exact ih_29 _ _ (Sm_up (Sm_trans (Sm_trans Sm_refl hF29 (by decide)) hF65 (by decide)) (by decide)) (by omega) (by intro i q1 q2; rw [rd_nc (by decide), hF65 53 (by decide)]; exact hr i q1 q2) (by intro j q1 q2 u q3 q4; rw [rd_ne (by omega), hF65 52 (by decide)]; exact g1 j q1 q2 u q3 q4) (by
                      intro u q1 q2
                      by_cases e : u = w
                      · rw [e]; exact rd_eq
                      · rw [rd_ne (by omega), hF65 52 (by decide)]; exact g2 u q1 (by omega)) (by omega)
          exact cut_29 _ _ _ (Sm_trans (Sm_trans Sm_refl hF10 (by decide)) hF24 (by decide)) (by omega) (by rw [hF10 43 (by decide)] at h1_24; exact h1_24) (by intro j q1 q2 u q3 q4; rw [hF24 52 (by decide)]; exact g j q1 q2 u q3 q4) (by intro u q1 q2; omega) (Nat.lt_succ_self _)
    exact cut_10 _ _ _ Sm_refl (by omega) (by intro j q1 q2; omega) (Nat.lt_succ_self _)
  · exact pw_vretV C dX11_knows_7 (⟨by exact hKn.elim (fun h => absurd h h4) (fun h => h.2), by exact hKn.elim (fun h => absurd h h4) (fun h => h.1), Sm_refl, Fm_refl⟩)
set_option maxHeartbeats 4000000 in
set_option maxRecDepth 100000 in
theorem c_X11_isCandidate (l : Launch) (K : KX) (M : Mem) (k : Int) (hW : WfK (cfM M)) (hKn : KnOK (cfM M) M) (hk : 0 ≤ k ∧ k < nK (cfM M)) : MCi l K LAY yX11_isCandidate cX11_isCandidate 3 (some .boolean) 1 [rV K 43, iV k] M (fun r M' => (r = if cdK (cfM M) k = true then 1 else 0) ∧ M' = M) := by
  refine mci_intro RX11 rfl [some (rV K 43), some (iV k), none] rfl (by decide +kernel) (cat_r (cat_i cat_nil)) (Nat.le_of_ble_eq_true rfl) (fun X hX C => ?_)
  subst hX
  have w_let := wm_let hW
  have w_sw := wm_sw hW
  have w_dr := wm_dr hW
  have w_gp := wm_gp hW
  have w_w := wm_w hW
  have w_l := wm_l hW
  have w_l1 := wm_l1 hW
  have w_t := wm_t hW
  have hK0 := nK_pos hW
  have hK1 := nK_le hW
  refine pw_iconst C dX11_isCandidate_0 ?_
  refine pw_istore2 C (by decide) dX11_isCandidate_1 ?_
  have cut_2 : ∀ (fu : Nat) (w : Int), (0 ≤ w ∧ w ≤ M 43 6) → (cdN (cfM M) (rwX (cfM M) k) w.toNat = true) → (M 43 6 - w).toNat < fu → PW X K LAY 3 (0, 0) (Zi X K LAY (fun r M' => (r = if cdK (cfM M) k = true then 1 else 0) ∧ M' = M)) 2 [some (rV K 43), some (iV k), some (iV w)] [] M := by
    intro fu
    induction fu with
    | zero => intro _ _ _ hm; exact absurd hm (Nat.not_lt_zero _)
    | succ fu ih =>
      intro w hw g hm
      have ih_2 := ih
      have hm_2 := hm
      refine pw_iload2 C dX11_isCandidate_2 ?_
      refine pw_aload0 C dX11_isCandidate_3 ?_
      refine g_43_6 C fl_X11_85 dX11_isCandidate_4 ?_
      refine pw_icmp_ge (tgt := 46) C dX11_isCandidate_7 (by decide) (by omega) (by omega) (fun h7 => ?_) (fun h7 => ?_)
      · refine pw_iconst C dX11_isCandidate_46 ?_
        exact pw_zretI C dX11_isCandidate_47 (by decide) (⟨by rw [if_pos]; show cdN (cfM M) (rwX (cfM M) k) (M 43 6).toNat = true; rw [show M 43 6 = w by omega]; exact g, rfl⟩)
      · have hpw := wm_p hW w (by omega) (by omega)
        refine pw_aload0 C dX11_isCandidate_10 ?_
        refine g_43_9 C fl_X11_27 dX11_isCandidate_11 ?_
        refine pw_iload2 C dX11_isCandidate_14 ?_
        refine pw_iaload C lay_46 (by omega) (by decide) dX11_isCandidate_15 ?_
        refine pw_iconst C dX11_isCandidate_16 ?_
        refine pw_icmp_ne (tgt := 40) C dX11_isCandidate_17 (by decide) (by omega) (by omega) (fun h17 => ?_) (fun h17 => ?_)
        · refine pw_iinc2 C (by decide) dX11_isCandidate_40 ?_
          refine pw_goto (tgt := 2) C dX11_isCandidate_43 (by decide) ?_
          exact ih_2 _ (by omega) (by rw [cdN_s (by omega), g, Bool.true_and, Bool.or_eq_true, decide_eq_true_eq, decide_eq_true_eq]; first | exact Or.inl h17 | exact Or.inr h35) (by omega)
        · refine pw_aload0 C dX11_isCandidate_20 ?_
          refine g_43_21 C fl_X11_46 dX11_isCandidate_21 ?_
          refine pw_bipush C dX11_isCandidate_24 (by decide) ?_
          refine pw_iload1 C dX11_isCandidate_26 ?_
          refine pw_imul C dX11_isCandidate_27 ?_
          refine pw_iload2 C dX11_isCandidate_28 ?_
          refine pw_iadd C dX11_isCandidate_29 ?_
          refine pw_baload C lay_52 (by omega) (by decide) dX11_isCandidate_30 ?_
          have hkn := hKn k hk.1 hk.2 w (by omega) (by show w < M 43 6; omega)
          have hkr := KnOK_rng hW hKn (k := k) (w := w) hk (by constructor; omega; show w < M 43 6; omega)
          refine pw_top C (Dw (cfM M) (rwX (cfM M) k) w) hkn ?_
          rw [hkn] at hkr
          refine pw_aload0 C dX11_isCandidate_31 ?_
          refine g_43_5 C fl_X11_97 dX11_isCandidate_32 ?_
          refine pw_icmp_ge (tgt := 40) C dX11_isCandidate_35 (by decide) (by omega) (by omega) (fun h35 => ?_) (fun h35 => ?_)
          · refine pw_iinc2 C (by decide) dX11_isCandidate_40 ?_
            refine pw_goto (tgt := 2) C dX11_isCandidate_43 (by decide) ?_
            exact ih_2 _ (by omega) (by rw [cdN_s (by omega), g, Bool.true_and, Bool.or_eq_true, decide_eq_true_eq, decide_eq_true_eq]; first | exact Or.inl h17 | exact Or.inr h35) (by omega)
          · refine pw_iconst C dX11_isCandidate_38 ?_
            exact pw_zretI C dX11_isCandidate_39 (by decide) (⟨by rw [if_neg]; intro h; have h9 := cdN_down (w + 1).toNat (kW (cfM M)).toNat (by have h8 : kW (cfM M) = M 43 6 := rfl; omega) h; rw [cdN_s (by omega), g, Bool.true_and, Bool.or_eq_true, decide_eq_true_eq, decide_eq_true_eq] at h9; rcases h9 with q | q; exact q h17; have h7 : kGp (cfM M) = M 43 5 := rfl; omega, rfl⟩)
  exact cut_2 _ _ (by omega) (by rfl) (Nat.lt_succ_self _)
set_option maxHeartbeats 4000000 in
set_option maxRecDepth 100000 in
theorem c_X11_radius (l : Launch) (K : KX) (M : Mem) (k : Int) (hW : WfK (cfM M)) (hKn : KnOK (cfM M) M) (hk : 0 ≤ k ∧ k < nK (cfM M)) : MCi l K LAY yX11_radius cX11_radius 4 (some .int) 1 [rV K 43, iV k] M (fun r M' => (r = rdK (cfM M) k) ∧ M' = M) := by
  refine mci_intro RX11 rfl [some (rV K 43), some (iV k), none, none] rfl (by decide +kernel) (cat_r (cat_i cat_nil)) (Nat.le_of_ble_eq_true rfl) (fun X hX C => ?_)
  subst hX
  have w_let := wm_let hW
  have w_sw := wm_sw hW
  have w_dr := wm_dr hW
  have w_gp := wm_gp hW
  have w_w := wm_w hW
  have w_l := wm_l hW
  have w_l1 := wm_l1 hW
  have w_t := wm_t hW
  have hK0 := nK_pos hW
  have hK1 := nK_le hW
  have hfw := fun (n : Nat) (hn : (n : Int) ≤ M 43 6) => foldW_rng (f := Dw (cfM M) (rwX (cfM M) k)) (p := M 46) n (fun w q1 q2 => Dw_rng hW ⟨q1, by show w < M 43 6; omega⟩ (fun i _ _ => rwX_rng hW k i))
  refine pw_iconst C dX11_radius_0 ?_
  refine pw_istore2 C (by decide) dX11_radius_1 ?_
  refine pw_iconst C dX11_radius_2 ?_
  refine pw_istore3 C (by decide) dX11_radius_3 ?_
  have cut_4 : ∀ (fu : Nat) (v w : Int), (0 ≤ w ∧ w ≤ M 43 6) → (v = mxW (Dw (cfM M) (rwX (cfM M) k)) (M 46) w.toNat) → (M 43 6 - w).toNat < fu → PW X K LAY 4 (0, 0) (Zi X K LAY (fun r M' => (r = rdK (cfM M) k) ∧ M' = M)) 4 [some (rV K 43), some (iV k), some (iV v), some (iV w)] [] M := by
    intro fu
    induction fu with
    | zero => intro _ _ _ _ hm; exact absurd hm (Nat.not_lt_zero _)
    | succ fu ih =>
      intro v w hw hv hm
      have ih_4 := ih
      have hm_4 := hm
      refine pw_iload3 C dX11_radius_4 ?_
      refine pw_aload0 C dX11_radius_5 ?_
      refine g_43_6 C fl_X11_85 dX11_radius_6 ?_
      refine pw_icmp_ge (tgt := 44) C dX11_radius_9 (by decide) (by omega) (by omega) (fun h9 => ?_) (fun h9 => ?_)
      · refine pw_iload2 C dX11_radius_44 ?_
        exact pw_iretI C dX11_radius_45 (⟨by rw [hv]; show _ = mxW (Dw (cfM M) (rwX (cfM M) k)) (M 46) (M 43 6).toNat; rw [show M 43 6 = w by omega], rfl⟩)
      · have hpw := wm_p hW w (by omega) (by omega)
        have hfv := hfw w.toNat (by omega)
        rw [← hv] at hfv
        refine pw_aload0 C dX11_radius_12 ?_
        refine g_43_9 C fl_X11_27 dX11_radius_13 ?_
        refine pw_iload3 C dX11_radius_16 ?_
        refine pw_iaload C lay_46 (by omega) (by decide) dX11_radius_17 ?_
        refine pw_iconst C dX11_radius_18 ?_
        refine pw_icmp_ne (tgt := 38) C dX11_radius_19 (by decide) (by omega) (by omega) (fun h19 => ?_) (fun h19 => ?_)
        · refine pw_iinc3 C (by decide) dX11_radius_38 ?_
          refine pw_goto (tgt := 4) C dX11_radius_41 (by decide) ?_
          exact ih_4 _ _ (by omega) (by rw [mxW_s (by omega), ← hv]; first | rw [if_pos h19] | rw [if_neg h19]) (by omega)
        · refine pw_iload2 C dX11_radius_22 ?_
          refine pw_aload0 C dX11_radius_23 ?_
          refine g_43_21 C fl_X11_46 dX11_radius_24 ?_
          refine pw_bipush C dX11_radius_27 (by decide) ?_
          refine pw_iload1 C dX11_radius_29 ?_
          refine pw_imul C dX11_radius_30 ?_
          refine pw_iload3 C dX11_radius_31 ?_
          refine pw_iadd C dX11_radius_32 ?_
          refine pw_baload C lay_52 (by omega) (by decide) dX11_radius_33 ?_
          have hkn := hKn k hk.1 hk.2 w (by omega) (by show w < M 43 6; omega)
          have hkr := KnOK_rng hW hKn (k := k) (w := w) hk (by constructor; omega; show w < M 43 6; omega)
          refine pw_top C (Dw (cfM M) (rwX (cfM M) k) w) hkn ?_
          rw [hkn] at hkr
          refine pw_mmax C (by omega) (by omega) (Nat.le_of_ble_eq_true rfl) ml_X11_138 dX11_radius_34 ?_
          refine pw_istore2 C (by decide) dX11_radius_37 ?_
          refine pw_iinc3 C (by decide) dX11_radius_38 ?_
          refine pw_goto (tgt := 4) C dX11_radius_41 (by decide) ?_
          exact ih_4 _ _ (by omega) (by rw [mxW_s (by omega), ← hv]; first | rw [if_pos h19] | rw [if_neg h19]) (by omega)
  exact cut_4 _ _ _ (by omega) (by rfl) (Nat.lt_succ_self _)
