set_option maxHeartbeats 4000000 in
set_option maxRecDepth 100000 in
theorem c_X11_tries_0 (l : Launch) (K : KX) (M : Mem) (n sz : Int) (dd : Nat) (hW : WfK (cfM M)) (hsz : 1 ≤ sz ∧ sz ≤ 8) (hn : 0 ≤ n ∧ n ≤ sz) (hx : ∀ i, 0 ≤ i → i < n → 0 ≤ M 59 i ∧ M 59 i < M 43 1) (hl : LnM (cfM M) (M 59) (M 57) n) (hmi : MiR (cfM M) (M 43 30) (M 43 29) (M 58) sz (vl (M 43 1) (M 59) n * M 43 1 ^ (sz - n).toNat)) (hdd : 2 ≤ dd) (hlev : sz - n = 0) : MCv l K LAY yX11_tries cX11_tries 5 none dd [rV K 43, iV n, iV sz] M (fun M' => (∀ i, 0 ≤ i → i < n → M' 59 i = M 59 i) ∧ (LnM (cfM M) (M' 59) (M' 57) n) ∧ (MiR (cfM M) (M' 43 30) (M' 43 29) (M' 58) sz ((vl (M 43 1) (M 59) n + 1) * M 43 1 ^ (sz - n).toNat)) ∧ Sm [43, 57, 58, 59] M M' ∧ Fm [29, 30] M M') := by
  refine mcv_intro RX11 rfl [some (rV K 43), some (iV n), some (iV sz), none, none] rfl (by decide +kernel) (cat_r (cat_i (cat_i cat_nil))) (Nat.le_of_ble_eq_true rfl) (fun X hX C => ?_)
  subst hX
  have C := CX_down (d := 2) C hdd
  have w_let := wm_let hW
  have w_sw := wm_sw hW
  have w_dr := wm_dr hW
  have w_w := wm_w hW
  have w_l := wm_l hW
  have w_l1 := wm_l1 hW
  have e0 : n = sz := by omega
  have hx3 : ∀ i, 0 ≤ i → i < n → 0 ≤ M 59 i ∧ M 59 i ≤ 3 := fun i q1 q2 => by have := hx i q1 q2; omega
  have hvr := vl_rng (N := M 43 1) (x := M 59) (n := n) (by omega) hx n (by omega) (Int.le_refl _)
  have ep : M 43 1 ^ (sz - n).toNat = 1 := by rw [show sz - n = 0 by omega, Int.toNat_zero, Int.pow_zero]
  rw [ep, Int.mul_one] at hmi
  have hmr := MiR_rng hW (by omega) (by omega) hmi
  have hdg : ∀ i, 0 ≤ i → i < n → M 59 i = dg (M 43 1) n (vl (M 43 1) (M 59) n) i := vl_dg (by omega) n (by omega) hx
  refine pw_iload1 C dX11_tries_0 ?_
  refine pw_iload2 C dX11_tries_1 ?_
  refine pw_icmp_ne (tgt := 115) C dX11_tries_2 (by decide) (by omega) (by omega) (fun h2 => ?_) (fun h2 => ?_)
  · exfalso; omega
  · refine pw_iconst C dX11_tries_5 ?_
    refine pw_istore3 C (by decide) dX11_tries_6 ?_
    refine pw_iconst C dX11_tries_7 ?_
    refine pw_istore4 C (by decide) dX11_tries_8 ?_
    have cut_10 : ∀ (fu : Nat) (s w : Int), (0 ≤ w ∧ w ≤ M 43 6) → (s = smW (fun u => edW (cfM M) (M 59) u n (M 43 7)) (M 46) w.toNat) → (M 43 6 - w).toNat < fu → PW X K LAY 5 (0, 0) (Zv X K LAY (fun M' => (∀ i, 0 ≤ i → i < n → M' 59 i = M 59 i) ∧ (LnM (cfM M) (M' 59) (M' 57) n) ∧ (MiR (cfM M) (M' 43 30) (M' 43 29) (M' 58) sz ((vl (M 43 1) (M 59) n + 1) * M 43 1 ^ (sz - n).toNat)) ∧ Sm [43, 57, 58, 59] M M' ∧ Fm [29, 30] M M')) 10 [some (rV K 43), some (iV n), some (iV sz), some (iV s), some (iV w)] [] M := by
      intro fu
      induction fu with
      | zero => intro _ _ _ _ hm; exact absurd hm (Nat.not_lt_zero _)
      | succ fu ih =>
        intro s w hw hs hm
        have ih_10 := ih
        have hm_10 := hm
        refine pw_iload4 C dX11_tries_10 ?_
        refine pw_aload0 C dX11_tries_12 ?_
        refine g_43_6 C fl_X11_85 dX11_tries_13 ?_
        refine pw_icmp_ge (tgt := 59) C dX11_tries_16 (by decide) (by omega) (by omega) (fun h16 => ?_) (fun h16 => ?_)
        · have hse : s = meS (cfM M) sz (vl (M 43 1) (M 59) n) := by
            rw [hs, show w = M 43 6 by omega, ← e0]
            exact meX_congr (c := cfM M) (n := n) (by omega) (show 0 ≤ M 43 7 by omega) hdg
          have hsr := meS_rng hW (n := sz) (k := vl (M 43 1) (M 59) n) (by omega)
          rw [← hse] at hsr
          refine pw_aload0 C dX11_tries_59 ?_
          refine g_43_29 C fl_X11_195 dX11_tries_60 ?_
          refine pw_if_eq (tgt := 75) C dX11_tries_63 (by decide) (by omega) (fun h63 => ?_) (fun h63 => ?_)
          · refine pw_aload0 C dX11_tries_75 ?_
            refine pw_iload3 C dX11_tries_76 ?_
            refine p_43_30 C fl_X11_198 dX11_tries_77 ?_
            refine pw_aload0 C dX11_tries_80 ?_
            refine pw_iload2 C dX11_tries_81 ?_
            refine p_43_29 C fl_X11_195 dX11_tries_82 ?_
            refine pw_iconst C dX11_tries_85 ?_
            refine pw_istore4 C (by decide) dX11_tries_86 ?_
            have cut_88 : ∀ (fu : Nat) (i : Int) (M2 : Mem), Sm [43, 58] M M2 → Fm [29, 30] M M2 → (0 ≤ i ∧ i ≤ sz) → (M2 43 30 = s) → (M2 43 29 = sz) → (∀ t, 0 ≤ t → t < i → M2 58 t = M 59 t) → (sz - i).toNat < fu → PW X K LAY 5 (0, 0) (Zv X K LAY (fun M' => (∀ i, 0 ≤ i → i < n → M' 59 i = M 59 i) ∧ (LnM (cfM M) (M' 59) (M' 57) n) ∧ (MiR (cfM M) (M' 43 30) (M' 43 29) (M' 58) sz ((vl (M 43 1) (M 59) n + 1) * M 43 1 ^ (sz - n).toNat)) ∧ Sm [43, 57, 58, 59] M M' ∧ Fm [29, 30] M M')) 88 [some (rV K 43), some (iV n), some (iV sz), some (iV s), some (iV i)] [] M2 := by
              intro fu
              induction fu with
              | zero => intro _ _ _ _ _ _ _ _ hm; exact absurd hm (Nat.not_lt_zero _)
              | succ fu ih =>
                intro i M2 hF88 hJ88 hi z30 z29 g hm
                have ih_88 := ih
                have hm_88 := hm
                refine pw_iload4 C dX11_tries_88 ?_
                refine pw_iload2 C dX11_tries_90 ?_
                refine pw_icmp_ge (tgt := 114) C dX11_tries_91 (by decide) (by omega) (by omega) (fun h91 => ?_) (fun h91 => ?_)
                · exact pw_vretV C dX11_tries_114 (⟨by intro i q1 q2; rw [hF88 59 (by decide)], by rw [hF88 59 (by decide), hF88 57 (by decide)]; exact hl, by
                        rw [ep, Int.mul_one, z30, z29, hse]
                        have h9 := MiR_new (c := cfM M) (f' := M2 58) hmi hsz.1 (by rw [← e0]; exact hvr) (by first | exact Or.inl h63 | exact Or.inr (by rw [← hse]; omega)) (fun t q1 q2 => by rw [g t q1 (by omega), ← e0]; exact hdg t q1 (by omega))
                        exact h9, (Sm_trans Sm_refl hF88 (by decide)), (Fm_tr Fm_refl hJ88 (by decide))⟩)
                · refine pw_aload0 C dX11_tries_94 ?_
                  refine g_43_28 C fl_X11_65 dX11_tries_95 ?_
                  refine pw_iload4 C dX11_tries_98 ?_
                  refine pw_aload0 C dX11_tries_100 ?_
                  refine g_43_31 C fl_X11_68 dX11_tries_101 ?_
                  refine pw_iload4 C dX11_tries_104 ?_
                  refine pw_baload C lay_59 (by omega) (by decide) dX11_tries_106 ?_
                  refine pw_top C _ (congrFun (hF88 59 (by decide)) _) ?_
                  refine pw_bastore C lay_58 (by omega) (by decide) (by have := hx3 i (by omega) (by omega); omega) dX11_tries_107 ?_
                  refine pw_iinc4 C (by decide) dX11_tries_108 ?_
                  refine pw_goto (tgt := 88) C dX11_tries_111 (by decide) ?_
                  exact ih_88 _ _ (Sm_up (Sm_trans Sm_refl hF88 (by decide)) (by decide)) (Fm_nc (Fm_tr Fm_refl hJ88 (by decide)) (by decide)) (by omega) (by rw [rd_nc (by decide)]; exact z30) (by rw [rd_nc (by decide)]; exact z29) (by
                        intro t q1 q2
                        rw [rd_if]
                        by_cases e : t = i
                        · rw [if_pos e, e]
                        · rw [if_neg e]; exact g t q1 (by omega)) (by omega)
            exact cut_88 _ _ _ (Sm_up (Sm_up Sm_refl (by decide)) (by decide)) (Fm_up (Fm_up Fm_refl (by decide)) (by decide)) (by omega) (by rw [rd_ne (by decide)]; exact rd_eq) (by exact rd_eq) (by intro t q1 q2; omega) (Nat.lt_succ_self _)
          · refine pw_iload3 C dX11_tries_66 ?_
            refine pw_aload0 C dX11_tries_67 ?_
            refine g_43_30 C fl_X11_198 dX11_tries_68 ?_
            refine pw_icmp_lt (tgt := 75) C dX11_tries_71 (by decide) (by omega) (by omega) (fun h71 => ?_) (fun h71 => ?_)
            · refine pw_aload0 C dX11_tries_75 ?_
              refine pw_iload3 C dX11_tries_76 ?_
              refine p_43_30 C fl_X11_198 dX11_tries_77 ?_
              refine pw_aload0 C dX11_tries_80 ?_
              refine pw_iload2 C dX11_tries_81 ?_
              refine p_43_29 C fl_X11_195 dX11_tries_82 ?_
              refine pw_iconst C dX11_tries_85 ?_
              refine pw_istore4 C (by decide) dX11_tries_86 ?_
              have cut_88 : ∀ (fu : Nat) (i : Int) (M2 : Mem), Sm [43, 58] M M2 → Fm [29, 30] M M2 → (0 ≤ i ∧ i ≤ sz) → (M2 43 30 = s) → (M2 43 29 = sz) → (∀ t, 0 ≤ t → t < i → M2 58 t = M 59 t) → (sz - i).toNat < fu → PW X K LAY 5 (0, 0) (Zv X K LAY (fun M' => (∀ i, 0 ≤ i → i < n → M' 59 i = M 59 i) ∧ (LnM (cfM M) (M' 59) (M' 57) n) ∧ (MiR (cfM M) (M' 43 30) (M' 43 29) (M' 58) sz ((vl (M 43 1) (M 59) n + 1) * M 43 1 ^ (sz - n).toNat)) ∧ Sm [43, 57, 58, 59] M M' ∧ Fm [29, 30] M M')) 88 [some (rV K 43), some (iV n), some (iV sz), some (iV s), some (iV i)] [] M2 := by
                intro fu
                induction fu with
                | zero => intro _ _ _ _ _ _ _ _ hm; exact absurd hm (Nat.not_lt_zero _)
                | succ fu ih =>
                  intro i M2 hF88 hJ88 hi z30 z29 g hm
                  have ih_88 := ih
                  have hm_88 := hm
                  refine pw_iload4 C dX11_tries_88 ?_
                  refine pw_iload2 C dX11_tries_90 ?_
                  refine pw_icmp_ge (tgt := 114) C dX11_tries_91 (by decide) (by omega) (by omega) (fun h91 => ?_) (fun h91 => ?_)
                  · exact pw_vretV C dX11_tries_114 (⟨by intro i q1 q2; rw [hF88 59 (by decide)], by rw [hF88 59 (by decide), hF88 57 (by decide)]; exact hl, by
                          rw [ep, Int.mul_one, z30, z29, hse]
                          have h9 := MiR_new (c := cfM M) (f' := M2 58) hmi hsz.1 (by rw [← e0]; exact hvr) (by first | exact Or.inl h63 | exact Or.inr (by rw [← hse]; omega)) (fun t q1 q2 => by rw [g t q1 (by omega), ← e0]; exact hdg t q1 (by omega))
                          exact h9, (Sm_trans Sm_refl hF88 (by decide)), (Fm_tr Fm_refl hJ88 (by decide))⟩)
                  · refine pw_aload0 C dX11_tries_94 ?_
                    refine g_43_28 C fl_X11_65 dX11_tries_95 ?_
                    refine pw_iload4 C dX11_tries_98 ?_
                    refine pw_aload0 C dX11_tries_100 ?_
                    refine g_43_31 C fl_X11_68 dX11_tries_101 ?_
                    refine pw_iload4 C dX11_tries_104 ?_
                    refine pw_baload C lay_59 (by omega) (by decide) dX11_tries_106 ?_
                    refine pw_top C _ (congrFun (hF88 59 (by decide)) _) ?_
                    refine pw_bastore C lay_58 (by omega) (by decide) (by have := hx3 i (by omega) (by omega); omega) dX11_tries_107 ?_
                    refine pw_iinc4 C (by decide) dX11_tries_108 ?_
                    refine pw_goto (tgt := 88) C dX11_tries_111 (by decide) ?_
                    exact ih_88 _ _ (Sm_up (Sm_trans Sm_refl hF88 (by decide)) (by decide)) (Fm_nc (Fm_tr Fm_refl hJ88 (by decide)) (by decide)) (by omega) (by rw [rd_nc (by decide)]; exact z30) (by rw [rd_nc (by decide)]; exact z29) (by
                          intro t q1 q2
                          rw [rd_if]
                          by_cases e : t = i
                          · rw [if_pos e, e]
                          · rw [if_neg e]; exact g t q1 (by omega)) (by omega)
              exact cut_88 _ _ _ (Sm_up (Sm_up Sm_refl (by decide)) (by decide)) (Fm_up (Fm_up Fm_refl (by decide)) (by decide)) (by omega) (by rw [rd_ne (by decide)]; exact rd_eq) (by exact rd_eq) (by intro t q1 q2; omega) (Nat.lt_succ_self _)
            · exact pw_vretV C dX11_tries_74 (⟨by intro i _ _; rfl, by exact hl, by rw [ep, Int.mul_one]; exact MiR_keep hmi h63 (by rw [← hse]; omega), Sm_refl, Fm_refl⟩)
        · have hpw := wm_p hW w (by omega) (by omega)
          refine pw_aload0 C dX11_tries_19 ?_
          refine g_43_9 C fl_X11_27 dX11_tries_20 ?_
          refine pw_iload4 C dX11_tries_23 ?_
          refine pw_iaload C lay_46 (by omega) (by decide) dX11_tries_25 ?_
          refine pw_iconst C dX11_tries_26 ?_
          refine pw_icmp_ne (tgt := 53) C dX11_tries_27 (by decide) (by omega) (by omega) (fun h27 => ?_) (fun h27 => ?_)
          · refine pw_iinc4 C (by decide) dX11_tries_53 ?_
            refine pw_goto (tgt := 10) C dX11_tries_56 (by decide) ?_
            exact ih_10 _ _ (by omega) (by rw [smW_s (by omega), ← hs]; first | rw [if_pos (by omega)] | rw [if_neg (by omega)]) (by omega)
          · refine pw_iload3 C dX11_tries_30 ?_
            refine pw_aload0 C dX11_tries_31 ?_
            refine g_43_27 C fl_X11_62 dX11_tries_32 ?_
            refine pw_bipush C dX11_tries_35 (by decide) ?_
            refine pw_iload4 C dX11_tries_37 ?_
            refine pw_imul C dX11_tries_39 ?_
            refine pw_bipush C dX11_tries_40 (by decide) ?_
            refine pw_iload1 C dX11_tries_42 ?_
            refine pw_imul C dX11_tries_43 ?_
            refine pw_iadd C dX11_tries_44 ?_
            refine pw_aload0 C dX11_tries_45 ?_
            refine g_43_7 C fl_X11_110 dX11_tries_46 ?_
            refine pw_iadd C dX11_tries_49 ?_
            refine pw_iaload C lay_57 (by omega) (by decide) dX11_tries_50 ?_
            refine pw_top C (edW (cfM M) (M 59) w n (M 43 7)) (hl w (by omega) (by show w < M 43 6; omega) (by show M 46 w = 1; omega) n (by omega) (Int.le_refl _) (M 43 7) (by omega) (Int.le_refl _)) ?_
            refine pw_iadd C dX11_tries_51 ?_
            refine pw_istore3 C (by decide) dX11_tries_52 ?_
            refine pw_iinc4 C (by decide) dX11_tries_53 ?_
            refine pw_goto (tgt := 10) C dX11_tries_56 (by decide) ?_
            exact ih_10 _ _ (by omega) (by rw [smW_s (by omega), ← hs]; first | rw [if_pos (by omega)] | rw [if_neg (by omega)]) (by omega)
    exact cut_10 _ _ _ (by omega) (by rfl) (Nat.lt_succ_self _)
set_option maxHeartbeats 4000000 in
set_option maxRecDepth 100000 in
theorem c_X11_tries_1 (l : Launch) (K : KX) (M : Mem) (n sz : Int) (dd : Nat) (hW : WfK (cfM M)) (hsz : 1 ≤ sz ∧ sz ≤ 8) (hn : 0 ≤ n ∧ n ≤ sz) (hx : ∀ i, 0 ≤ i → i < n → 0 ≤ M 59 i ∧ M 59 i < M 43 1) (hl : LnM (cfM M) (M 59) (M 57) n) (hmi : MiR (cfM M) (M 43 30) (M 43 29) (M 58) sz (vl (M 43 1) (M 59) n * M 43 1 ^ (sz - n).toNat)) (hdd : 3 ≤ dd) (hlev : sz - n = 1) : MCv l K LAY yX11_tries cX11_tries 5 none dd [rV K 43, iV n, iV sz] M (fun M' => (∀ i, 0 ≤ i → i < n → M' 59 i = M 59 i) ∧ (LnM (cfM M) (M' 59) (M' 57) n) ∧ (MiR (cfM M) (M' 43 30) (M' 43 29) (M' 58) sz ((vl (M 43 1) (M 59) n + 1) * M 43 1 ^ (sz - n).toNat)) ∧ Sm [43, 57, 58, 59] M M' ∧ Fm [29, 30] M M') := by
  refine mcv_intro RX11 rfl [some (rV K 43), some (iV n), some (iV sz), none, none] rfl (by decide +kernel) (cat_r (cat_i (cat_i cat_nil))) (Nat.le_of_ble_eq_true rfl) (fun X hX C => ?_)
  subst hX
  have C := CX_down (d := 3) C hdd
  have w_let := wm_let hW
  have w_sw := wm_sw hW
  have w_dr := wm_dr hW
  have w_w := wm_w hW
  have w_l := wm_l hW
  have w_l1 := wm_l1 hW
  have em : (sz - n).toNat = 1 := by omega
  have em1 : (sz - (n + 1)).toNat = 0 := by omega
  rw [em] at hmi
  have hx3 : ∀ i, 0 ≤ i → i < n → 0 ≤ M 59 i ∧ M 59 i ≤ 3 := fun i q1 q2 => by have := hx i q1 q2; omega
  refine pw_iload1 C dX11_tries_0 ?_
  refine pw_iload2 C dX11_tries_1 ?_
  refine pw_icmp_ne (tgt := 115) C dX11_tries_2 (by decide) (by omega) (by omega) (fun h2 => ?_) (fun h2 => ?_)
  · refine pw_iconst C dX11_tries_115 ?_
    refine pw_istore3 C (by decide) dX11_tries_116 ?_
    have cut_117 : ∀ (fu : Nat) (c : Int) (M1 : Mem), Sm [43, 57, 58, 59] M M1 → Fm [29, 30] M M1 → (0 ≤ c ∧ c ≤ M 43 1) → (∀ i, 0 ≤ i → i < n → M1 59 i = M 59 i) → (LnM (cfM M) (M1 59) (M1 57) n) → (MiR (cfM M) (M1 43 30) (M1 43 29) (M1 58) sz ((vl (M 43 1) (M 59) n * M 43 1 + c) * M 43 1 ^ 0)) → (M 43 1 - c).toNat < fu → PW X K LAY 5 (0, 0) (Zv X K LAY (fun M' => (∀ i, 0 ≤ i → i < n → M' 59 i = M 59 i) ∧ (LnM (cfM M) (M' 59) (M' 57) n) ∧ (MiR (cfM M) (M' 43 30) (M' 43 29) (M' 58) sz ((vl (M 43 1) (M 59) n + 1) * M 43 1 ^ (sz - n).toNat)) ∧ Sm [43, 57, 58, 59] M M' ∧ Fm [29, 30] M M')) 117 [some (rV K 43), some (iV n), some (iV sz), some (iV c), none] [] M1 := by
      intro fu
      induction fu with
      | zero => intro _ _ _ _ _ _ _ _ hm; exact absurd hm (Nat.not_lt_zero _)
      | succ fu ih =>
        intro c M1 hF117 hJ117 hc g1 g2 g3 hm
        have ih_117 := ih
        have hm_117 := hm
        have ec1 : cfM M1 = cfM M := cfM_e (hJ117 1 (by decide)) (hJ117 3 (by decide)) (hJ117 4 (by decide)) (hJ117 5 (by decide)) (hJ117 6 (by decide)) (hJ117 7 (by decide)) (hJ117 10 (by decide)) (hF117 44 (by decide)) (hF117 45 (by decide)) (hF117 46 (by decide)) (hF117 47 (by decide)) (hF117 48 (by decide))
        refine pw_iload3 C dX11_tries_117 ?_
        refine pw_aload0 C dX11_tries_118 ?_
        refine g_43_1 C fl_X11_13 dX11_tries_119 ?_
        refine pw_top C _ (hJ117 1 (by decide)) ?_
        refine pw_icmp_ge (tgt := 185) C dX11_tries_122 (by decide) (by omega) (by omega) (fun h122 => ?_) (fun h122 => ?_)
        · exact pw_vretV C dX11_tries_185 (⟨by exact g1, by exact g2, by
                rw [show c = M 43 1 by omega] at g3
                have e9 : (vl (M 43 1) (M 59) n * M 43 1 + M 43 1) * M 43 1 ^ 0 = (vl (M 43 1) (M 59) n + 1) * M 43 1 ^ 1 := pwr 0
                rw [em, ← e9]; exact g3, (Sm_trans Sm_refl hF117 (by decide)), (Fm_tr Fm_refl hJ117 (by decide))⟩)
        · refine pw_aload0 C dX11_tries_125 ?_
          refine g_43_31 C fl_X11_68 dX11_tries_126 ?_
          refine pw_iload1 C dX11_tries_129 ?_
          refine pw_iload3 C dX11_tries_130 ?_
          refine pw_i2b C (c) (by rw [b_i2b (by omega), bmod_id (by omega)]) dX11_tries_131 ?_
          refine pw_bastore C lay_59 (by omega) (by decide) (by omega) dX11_tries_132 ?_
          refine pw_iconst C dX11_tries_133 ?_
          refine pw_istore4 C (by decide) dX11_tries_134 ?_
          have cut_136 : ∀ (fu : Nat) (w : Int) (M2 : Mem), Sm [57, 59] M1 M2 → (0 ≤ w ∧ w ≤ M 43 6) → (∀ i, 0 ≤ i → i < n → M2 59 i = M 59 i) → (M2 59 n = c) → (LnM (cfM M) (M2 59) (M2 57) n) → (∀ u, 0 ≤ u → u < w → M 46 u = 1 → ∀ k, 0 ≤ k → k ≤ M 43 7 → M2 57 (81 * u + 9 * (n + 1) + k) = edW (cfM M) (M2 59) u (n + 1) k) → (M 43 6 - w).toNat < fu → PW X K LAY 5 (0, 0) (Zv X K LAY (fun M' => (∀ i, 0 ≤ i → i < n → M' 59 i = M 59 i) ∧ (LnM (cfM M) (M' 59) (M' 57) n) ∧ (MiR (cfM M) (M' 43 30) (M' 43 29) (M' 58) sz ((vl (M 43 1) (M 59) n + 1) * M 43 1 ^ (sz - n).toNat)) ∧ Sm [43, 57, 58, 59] M M' ∧ Fm [29, 30] M M')) 136 [some (rV K 43), some (iV n), some (iV sz), some (iV c), some (iV w)] [] M2 := by
            intro fu
            induction fu with
            | zero => intro _ _ _ _ _ _ _ _ hm; exact absurd hm (Nat.not_lt_zero _)
            | succ fu ih =>
              intro w M2 hF136 hw t1 t2 t3 t4 hm
              have ih_136 := ih
              have hm_136 := hm
              have ec2 : cfM M2 = cfM M := by rw [← ec1]; exact cfM_e (congrFun (hF136 43 (by decide)) 1) (congrFun (hF136 43 (by decide)) 3) (congrFun (hF136 43 (by decide)) 4) (congrFun (hF136 43 (by decide)) 5) (congrFun (hF136 43 (by decide)) 6) (congrFun (hF136 43 (by decide)) 7) (congrFun (hF136 43 (by decide)) 10) (hF136 44 (by decide)) (hF136 45 (by decide)) (hF136 46 (by decide)) (hF136 47 (by decide)) (hF136 48 (by decide))
              have hx2 : ∀ i, 0 ≤ i → i < n + 1 → 0 ≤ M2 59 i ∧ M2 59 i < M 43 1 := fun i q1 q2 => by
                by_cases e : i = n
                · rw [e, t2]; omega
                · rw [t1 i q1 (by omega)]; exact hx i q1 (by omega)
              refine pw_iload4 C dX11_tries_136 ?_
              refine pw_aload0 C dX11_tries_138 ?_
              refine g_43_6 C fl_X11_85 dX11_tries_139 ?_
              refine pw_top C _ (congrFun (hF136 43 (by decide)) _) ?_
              refine pw_top C _ (hJ117 6 (by decide)) ?_
              refine pw_icmp_ge (tgt := 171) C dX11_tries_142 (by decide) (by omega) (by omega) (fun h142 => ?_) (fun h142 => ?_)
              · have t5 : LnM (cfM M) (M2 59) (M2 57) (n + 1) := fun u u1 u2 u3 i q1 q2 k k1 k2 => by
                  by_cases e : i = n + 1
                  · rw [e]; exact t4 u u1 (by have h9 : kW (cfM M) = M 43 6 := rfl; omega) u3 k k1 k2
                  · exact t3 u u1 u2 u3 i q1 (by omega) k k1 k2
                have ev : vl (M 43 1) (M2 59) (n + 1) = vl (M 43 1) (M 59) n * M 43 1 + c := by rw [vl_s (by omega), t2, vl_congr (n := n) t1 n (by omega) (Int.le_refl _)]
                have e43 : M2 43 = M1 43 := hF136 43 (by decide)
                have e1 : M2 43 1 = M 43 1 := by rw [e43]; exact hJ117 1 (by decide)
                refine pw_aload0 C dX11_tries_171 ?_
                refine pw_iload1 C dX11_tries_172 ?_
                refine pw_iconst C dX11_tries_173 ?_
                refine pw_iadd C dX11_tries_174 ?_
                refine pw_iload2 C dX11_tries_175 ?_
                have nz176_43 : M2 43 = M1 43 := (hF136 43 (by decide))
                have nz176_58 : M2 58 = M1 58 := (hF136 58 (by decide))
                refine pw_cVv2 C (c_X11_tries_0 _ K _ _ _ (2) (by rw [ec2]; exact hW) (hsz) (by omega) (by rw [e1]; exact hx2) (by rw [ec2]; exact t5) (by rw [ec2, em1, e1, ev, e43, hF136 58 (by decide)]; exact g3) (by decide) (by omega)) cb_X11_tries lay_43 kc_11 rfl ml_X11_204 dX11_tries_176 (by decide) (Nat.le_of_ble_eq_true rfl) (fun M176 hQ => ?_)
                obtain ⟨hx1_176, hl1_176, hm1_176, hF176, hJ176⟩ := hQ
                rw [ec2] at hl1_176 hm1_176
                rw [em1, e1, ev] at hm1_176
                refine pw_iinc3 C (by decide) dX11_tries_179 ?_
                refine pw_goto (tgt := 117) C dX11_tries_182 (by decide) ?_
                refine pw_fgt (fgt_k (fgt_k (fgt_k (fgt_k (fgt_no fgt_nil))))) ?_
                exact ih_117 _ _ (Sm_trans (Sm_trans (Sm_trans Sm_refl hF117 (by decide)) hF136 (by decide)) hF176 (by decide)) (Fm_tr (Fm_fr (Fm_tr Fm_refl hJ117 (by decide)) hF136 (by decide)) hJ176 (by decide)) (by omega) (by intro i q1 q2; rw [hx1_176 i q1 (by omega)]; exact t1 i q1 q2) (by exact LnM_d hl1_176 (by omega)) (by rw [← Int.add_assoc]; exact hm1_176) (by omega)
              · have hpw := wm_p hW w (by omega) (by omega)
                refine pw_aload0 C dX11_tries_145 ?_
                refine g_43_9 C fl_X11_27 dX11_tries_146 ?_
                refine pw_iload4 C dX11_tries_149 ?_
                refine pw_iaload C lay_46 (by omega) (by decide) dX11_tries_151 ?_
                refine pw_top C _ (congrFun (hF136 46 (by decide)) _) ?_
                refine pw_top C _ (congrFun (hF117 46 (by decide)) _) ?_
                refine pw_iconst C dX11_tries_152 ?_
                refine pw_icmp_ne (tgt := 165) C dX11_tries_153 (by decide) (by omega) (by omega) (fun h153 => ?_) (fun h153 => ?_)
                · refine pw_iinc4 C (by decide) dX11_tries_165 ?_
                  refine pw_goto (tgt := 136) C dX11_tries_168 (by decide) ?_
                  exact ih_136 _ _ (Sm_trans Sm_refl hF136 (by decide)) (by omega) (by first | exact t1 | (rw [hF162 59 (by decide)]; exact t1)) (by first | exact t2 | (rw [hF162 59 (by decide)]; exact t2)) (by
                        first
                          | exact t3
                          | (rw [hF162 59 (by decide)]
                             intro u u1 u2 u3 i q1 q2 k k1 k2
                             have h8 : kL (cfM M) = M 43 7 := rfl
                             rw [h1_162, if_neg (by omega)]
                             exact t3 u u1 u2 u3 i q1 q2 k k1 k2)) (by
                        intro u q1 q2 q3 k k1 k2
                        first
                          | exact t4 u q1 (by rcases Int.lt_or_eq_of_le (show u ≤ w by omega) with z | z; exact z; rw [z] at q3; omega) q3 k k1 k2
                          | (rw [h1_162, hF162 59 (by decide)]
                             by_cases e : u = w
                             · rw [e, if_pos (by omega), show 81 * w + 9 * (n + 1) + k - (81 * w + 9 * (n + 1)) = k by omega]
                             · rw [if_neg (by omega)]
                               exact t4 u q1 (by omega) q3 k k1 k2)) (by omega)
                · refine pw_aload0 C dX11_tries_156 ?_
                  refine pw_iload4 C dX11_tries_157 ?_
                  refine pw_iload1 C dX11_tries_159 ?_
                  refine pw_iconst C dX11_tries_160 ?_
                  refine pw_iadd C dX11_tries_161 ?_
                  have nz162_43 : M2 43 = M1 43 := (hF136 43 (by decide))
                  refine pw_cVv2 C (c_X11_goesOn _ K _ _ _ (by rw [ec2]; exact hW) (by rw [hF136 43 (by decide), hJ117 6 (by decide)]; omega) (by omega) (by intro i q1 q2; have := hx2 i q1 q2; omega) (by rw [hF136 43 (by decide), hJ117 7 (by decide), ec2, show n + 1 - 1 = n by omega]; exact t3 w (by omega) (by show w < M 43 6; omega) (by show M 46 w = 1; omega) n (by omega) (Int.le_refl _))) cb_X11_goesOn lay_43 kc_11 rfl ml_X11_201 dX11_tries_162 (by decide) (Nat.le_of_ble_eq_true rfl) (fun M162 hQ => ?_)
                  obtain ⟨h1_162, hF162⟩ := hQ
                  rw [ec2, hF136 43 (by decide), hJ117 7 (by decide)] at h1_162
                  refine pw_iinc4 C (by decide) dX11_tries_165 ?_
                  refine pw_goto (tgt := 136) C dX11_tries_168 (by decide) ?_
                  exact ih_136 _ _ (Sm_trans (Sm_trans Sm_refl hF136 (by decide)) hF162 (by decide)) (by omega) (by first | exact t1 | (rw [hF162 59 (by decide)]; exact t1)) (by first | exact t2 | (rw [hF162 59 (by decide)]; exact t2)) (by
                        first
                          | exact t3
                          | (rw [hF162 59 (by decide)]
                             intro u u1 u2 u3 i q1 q2 k k1 k2
                             have h8 : kL (cfM M) = M 43 7 := rfl
                             rw [h1_162, if_neg (by omega)]
                             exact t3 u u1 u2 u3 i q1 q2 k k1 k2)) (by
                        intro u q1 q2 q3 k k1 k2
                        first
                          | exact t4 u q1 (by rcases Int.lt_or_eq_of_le (show u ≤ w by omega) with z | z; exact z; rw [z] at q3; omega) q3 k k1 k2
                          | (rw [h1_162, hF162 59 (by decide)]
                             by_cases e : u = w
                             · rw [e, if_pos (by omega), show 81 * w + 9 * (n + 1) + k - (81 * w + 9 * (n + 1)) = k by omega]
                             · rw [if_neg (by omega)]
                               exact t4 u q1 (by omega) q3 k k1 k2)) (by omega)
          exact cut_136 _ _ _ (Sm_up Sm_refl (by decide)) (by omega) (by intro i q1 q2; rw [rd_ne (by omega)]; exact g1 i q1 q2) (by exact rd_eq) (by rw [up2_ne (show (57 : Nat) ≠ 59 by decide)]; exact LnM_x g2 (fun i q1 q2 => by rw [rd_ne (by omega)])) (by intro u q1 q2; omega) (Nat.lt_succ_self _)
    exact cut_117 _ _ _ Sm_refl Fm_refl (by omega) (by intro i _ _; rfl) (by exact hl) (by
          have e9 : vl (M 43 1) (M 59) n * M 43 1 ^ 1 = (vl (M 43 1) (M 59) n * M 43 1 + 0) * M 43 1 ^ 0 := pwl 0
          rw [← e9]; exact hmi) (Nat.lt_succ_self _)
  · exfalso; omega
set_option maxHeartbeats 4000000 in
set_option maxRecDepth 100000 in
theorem c_X11_tries_2 (l : Launch) (K : KX) (M : Mem) (n sz : Int) (dd : Nat) (hW : WfK (cfM M)) (hsz : 1 ≤ sz ∧ sz ≤ 8) (hn : 0 ≤ n ∧ n ≤ sz) (hx : ∀ i, 0 ≤ i → i < n → 0 ≤ M 59 i ∧ M 59 i < M 43 1) (hl : LnM (cfM M) (M 59) (M 57) n) (hmi : MiR (cfM M) (M 43 30) (M 43 29) (M 58) sz (vl (M 43 1) (M 59) n * M 43 1 ^ (sz - n).toNat)) (hdd : 4 ≤ dd) (hlev : sz - n = 2) : MCv l K LAY yX11_tries cX11_tries 5 none dd [rV K 43, iV n, iV sz] M (fun M' => (∀ i, 0 ≤ i → i < n → M' 59 i = M 59 i) ∧ (LnM (cfM M) (M' 59) (M' 57) n) ∧ (MiR (cfM M) (M' 43 30) (M' 43 29) (M' 58) sz ((vl (M 43 1) (M 59) n + 1) * M 43 1 ^ (sz - n).toNat)) ∧ Sm [43, 57, 58, 59] M M' ∧ Fm [29, 30] M M') := by
  refine mcv_intro RX11 rfl [some (rV K 43), some (iV n), some (iV sz), none, none] rfl (by decide +kernel) (cat_r (cat_i (cat_i cat_nil))) (Nat.le_of_ble_eq_true rfl) (fun X hX C => ?_)
  subst hX
  have C := CX_down (d := 4) C hdd
  have w_let := wm_let hW
  have w_sw := wm_sw hW
  have w_dr := wm_dr hW
  have w_w := wm_w hW
  have w_l := wm_l hW
  have w_l1 := wm_l1 hW
  have em : (sz - n).toNat = 2 := by omega
  have em1 : (sz - (n + 1)).toNat = 1 := by omega
  rw [em] at hmi
  have hx3 : ∀ i, 0 ≤ i → i < n → 0 ≤ M 59 i ∧ M 59 i ≤ 3 := fun i q1 q2 => by have := hx i q1 q2; omega
  refine pw_iload1 C dX11_tries_0 ?_
  refine pw_iload2 C dX11_tries_1 ?_
  refine pw_icmp_ne (tgt := 115) C dX11_tries_2 (by decide) (by omega) (by omega) (fun h2 => ?_) (fun h2 => ?_)
  · refine pw_iconst C dX11_tries_115 ?_
    refine pw_istore3 C (by decide) dX11_tries_116 ?_
    have cut_117 : ∀ (fu : Nat) (c : Int) (M1 : Mem), Sm [43, 57, 58, 59] M M1 → Fm [29, 30] M M1 → (0 ≤ c ∧ c ≤ M 43 1) → (∀ i, 0 ≤ i → i < n → M1 59 i = M 59 i) → (LnM (cfM M) (M1 59) (M1 57) n) → (MiR (cfM M) (M1 43 30) (M1 43 29) (M1 58) sz ((vl (M 43 1) (M 59) n * M 43 1 + c) * M 43 1 ^ 1)) → (M 43 1 - c).toNat < fu → PW X K LAY 5 (0, 0) (Zv X K LAY (fun M' => (∀ i, 0 ≤ i → i < n → M' 59 i = M 59 i) ∧ (LnM (cfM M) (M' 59) (M' 57) n) ∧ (MiR (cfM M) (M' 43 30) (M' 43 29) (M' 58) sz ((vl (M 43 1) (M 59) n + 1) * M 43 1 ^ (sz - n).toNat)) ∧ Sm [43, 57, 58, 59] M M' ∧ Fm [29, 30] M M')) 117 [some (rV K 43), some (iV n), some (iV sz), some (iV c), none] [] M1 := by
      intro fu
      induction fu with
      | zero => intro _ _ _ _ _ _ _ _ hm; exact absurd hm (Nat.not_lt_zero _)
      | succ fu ih =>
        intro c M1 hF117 hJ117 hc g1 g2 g3 hm
        have ih_117 := ih
        have hm_117 := hm
        have ec1 : cfM M1 = cfM M := cfM_e (hJ117 1 (by decide)) (hJ117 3 (by decide)) (hJ117 4 (by decide)) (hJ117 5 (by decide)) (hJ117 6 (by decide)) (hJ117 7 (by decide)) (hJ117 10 (by decide)) (hF117 44 (by decide)) (hF117 45 (by decide)) (hF117 46 (by decide)) (hF117 47 (by decide)) (hF117 48 (by decide))
        refine pw_iload3 C dX11_tries_117 ?_
        refine pw_aload0 C dX11_tries_118 ?_
        refine g_43_1 C fl_X11_13 dX11_tries_119 ?_
        refine pw_top C _ (hJ117 1 (by decide)) ?_
        refine pw_icmp_ge (tgt := 185) C dX11_tries_122 (by decide) (by omega) (by omega) (fun h122 => ?_) (fun h122 => ?_)
        · exact pw_vretV C dX11_tries_185 (⟨by exact g1, by exact g2, by
                rw [show c = M 43 1 by omega] at g3
                have e9 : (vl (M 43 1) (M 59) n * M 43 1 + M 43 1) * M 43 1 ^ 1 = (vl (M 43 1) (M 59) n + 1) * M 43 1 ^ 2 := pwr 1
                rw [em, ← e9]; exact g3, (Sm_trans Sm_refl hF117 (by decide)), (Fm_tr Fm_refl hJ117 (by decide))⟩)
        · refine pw_aload0 C dX11_tries_125 ?_
          refine g_43_31 C fl_X11_68 dX11_tries_126 ?_
          refine pw_iload1 C dX11_tries_129 ?_
          refine pw_iload3 C dX11_tries_130 ?_
          refine pw_i2b C (c) (by rw [b_i2b (by omega), bmod_id (by omega)]) dX11_tries_131 ?_
          refine pw_bastore C lay_59 (by omega) (by decide) (by omega) dX11_tries_132 ?_
          refine pw_iconst C dX11_tries_133 ?_
          refine pw_istore4 C (by decide) dX11_tries_134 ?_
          have cut_136 : ∀ (fu : Nat) (w : Int) (M2 : Mem), Sm [57, 59] M1 M2 → (0 ≤ w ∧ w ≤ M 43 6) → (∀ i, 0 ≤ i → i < n → M2 59 i = M 59 i) → (M2 59 n = c) → (LnM (cfM M) (M2 59) (M2 57) n) → (∀ u, 0 ≤ u → u < w → M 46 u = 1 → ∀ k, 0 ≤ k → k ≤ M 43 7 → M2 57 (81 * u + 9 * (n + 1) + k) = edW (cfM M) (M2 59) u (n + 1) k) → (M 43 6 - w).toNat < fu → PW X K LAY 5 (0, 0) (Zv X K LAY (fun M' => (∀ i, 0 ≤ i → i < n → M' 59 i = M 59 i) ∧ (LnM (cfM M) (M' 59) (M' 57) n) ∧ (MiR (cfM M) (M' 43 30) (M' 43 29) (M' 58) sz ((vl (M 43 1) (M 59) n + 1) * M 43 1 ^ (sz - n).toNat)) ∧ Sm [43, 57, 58, 59] M M' ∧ Fm [29, 30] M M')) 136 [some (rV K 43), some (iV n), some (iV sz), some (iV c), some (iV w)] [] M2 := by
            intro fu
            induction fu with
            | zero => intro _ _ _ _ _ _ _ _ hm; exact absurd hm (Nat.not_lt_zero _)
            | succ fu ih =>
              intro w M2 hF136 hw t1 t2 t3 t4 hm
              have ih_136 := ih
              have hm_136 := hm
              have ec2 : cfM M2 = cfM M := by rw [← ec1]; exact cfM_e (congrFun (hF136 43 (by decide)) 1) (congrFun (hF136 43 (by decide)) 3) (congrFun (hF136 43 (by decide)) 4) (congrFun (hF136 43 (by decide)) 5) (congrFun (hF136 43 (by decide)) 6) (congrFun (hF136 43 (by decide)) 7) (congrFun (hF136 43 (by decide)) 10) (hF136 44 (by decide)) (hF136 45 (by decide)) (hF136 46 (by decide)) (hF136 47 (by decide)) (hF136 48 (by decide))
              have hx2 : ∀ i, 0 ≤ i → i < n + 1 → 0 ≤ M2 59 i ∧ M2 59 i < M 43 1 := fun i q1 q2 => by
                by_cases e : i = n
                · rw [e, t2]; omega
                · rw [t1 i q1 (by omega)]; exact hx i q1 (by omega)
              refine pw_iload4 C dX11_tries_136 ?_
              refine pw_aload0 C dX11_tries_138 ?_
              refine g_43_6 C fl_X11_85 dX11_tries_139 ?_
              refine pw_top C _ (congrFun (hF136 43 (by decide)) _) ?_
              refine pw_top C _ (hJ117 6 (by decide)) ?_
              refine pw_icmp_ge (tgt := 171) C dX11_tries_142 (by decide) (by omega) (by omega) (fun h142 => ?_) (fun h142 => ?_)
              · have t5 : LnM (cfM M) (M2 59) (M2 57) (n + 1) := fun u u1 u2 u3 i q1 q2 k k1 k2 => by
                  by_cases e : i = n + 1
                  · rw [e]; exact t4 u u1 (by have h9 : kW (cfM M) = M 43 6 := rfl; omega) u3 k k1 k2
                  · exact t3 u u1 u2 u3 i q1 (by omega) k k1 k2
                have ev : vl (M 43 1) (M2 59) (n + 1) = vl (M 43 1) (M 59) n * M 43 1 + c := by rw [vl_s (by omega), t2, vl_congr (n := n) t1 n (by omega) (Int.le_refl _)]
                have e43 : M2 43 = M1 43 := hF136 43 (by decide)
                have e1 : M2 43 1 = M 43 1 := by rw [e43]; exact hJ117 1 (by decide)
                refine pw_aload0 C dX11_tries_171 ?_
                refine pw_iload1 C dX11_tries_172 ?_
                refine pw_iconst C dX11_tries_173 ?_
                refine pw_iadd C dX11_tries_174 ?_
                refine pw_iload2 C dX11_tries_175 ?_
                have nz176_43 : M2 43 = M1 43 := (hF136 43 (by decide))
                have nz176_58 : M2 58 = M1 58 := (hF136 58 (by decide))
                refine pw_cVv2 C (c_X11_tries_1 _ K _ _ _ (3) (by rw [ec2]; exact hW) (hsz) (by omega) (by rw [e1]; exact hx2) (by rw [ec2]; exact t5) (by rw [ec2, em1, e1, ev, e43, hF136 58 (by decide)]; exact g3) (by decide) (by omega)) cb_X11_tries lay_43 kc_11 rfl ml_X11_204 dX11_tries_176 (by decide) (Nat.le_of_ble_eq_true rfl) (fun M176 hQ => ?_)
                obtain ⟨hx1_176, hl1_176, hm1_176, hF176, hJ176⟩ := hQ
                rw [ec2] at hl1_176 hm1_176
                rw [em1, e1, ev] at hm1_176
                refine pw_iinc3 C (by decide) dX11_tries_179 ?_
                refine pw_goto (tgt := 117) C dX11_tries_182 (by decide) ?_
                refine pw_fgt (fgt_k (fgt_k (fgt_k (fgt_k (fgt_no fgt_nil))))) ?_
                exact ih_117 _ _ (Sm_trans (Sm_trans (Sm_trans Sm_refl hF117 (by decide)) hF136 (by decide)) hF176 (by decide)) (Fm_tr (Fm_fr (Fm_tr Fm_refl hJ117 (by decide)) hF136 (by decide)) hJ176 (by decide)) (by omega) (by intro i q1 q2; rw [hx1_176 i q1 (by omega)]; exact t1 i q1 q2) (by exact LnM_d hl1_176 (by omega)) (by rw [← Int.add_assoc]; exact hm1_176) (by omega)
              · have hpw := wm_p hW w (by omega) (by omega)
                refine pw_aload0 C dX11_tries_145 ?_
                refine g_43_9 C fl_X11_27 dX11_tries_146 ?_
                refine pw_iload4 C dX11_tries_149 ?_
                refine pw_iaload C lay_46 (by omega) (by decide) dX11_tries_151 ?_
                refine pw_top C _ (congrFun (hF136 46 (by decide)) _) ?_
                refine pw_top C _ (congrFun (hF117 46 (by decide)) _) ?_
                refine pw_iconst C dX11_tries_152 ?_
                refine pw_icmp_ne (tgt := 165) C dX11_tries_153 (by decide) (by omega) (by omega) (fun h153 => ?_) (fun h153 => ?_)
                · refine pw_iinc4 C (by decide) dX11_tries_165 ?_
                  refine pw_goto (tgt := 136) C dX11_tries_168 (by decide) ?_
                  exact ih_136 _ _ (Sm_trans Sm_refl hF136 (by decide)) (by omega) (by first | exact t1 | (rw [hF162 59 (by decide)]; exact t1)) (by first | exact t2 | (rw [hF162 59 (by decide)]; exact t2)) (by
                        first
                          | exact t3
                          | (rw [hF162 59 (by decide)]
                             intro u u1 u2 u3 i q1 q2 k k1 k2
                             have h8 : kL (cfM M) = M 43 7 := rfl
                             rw [h1_162, if_neg (by omega)]
                             exact t3 u u1 u2 u3 i q1 q2 k k1 k2)) (by
                        intro u q1 q2 q3 k k1 k2
                        first
                          | exact t4 u q1 (by rcases Int.lt_or_eq_of_le (show u ≤ w by omega) with z | z; exact z; rw [z] at q3; omega) q3 k k1 k2
                          | (rw [h1_162, hF162 59 (by decide)]
                             by_cases e : u = w
                             · rw [e, if_pos (by omega), show 81 * w + 9 * (n + 1) + k - (81 * w + 9 * (n + 1)) = k by omega]
                             · rw [if_neg (by omega)]
                               exact t4 u q1 (by omega) q3 k k1 k2)) (by omega)
                · refine pw_aload0 C dX11_tries_156 ?_
                  refine pw_iload4 C dX11_tries_157 ?_
                  refine pw_iload1 C dX11_tries_159 ?_
                  refine pw_iconst C dX11_tries_160 ?_
                  refine pw_iadd C dX11_tries_161 ?_
                  have nz162_43 : M2 43 = M1 43 := (hF136 43 (by decide))
                  refine pw_cVv2 C (c_X11_goesOn _ K _ _ _ (by rw [ec2]; exact hW) (by rw [hF136 43 (by decide), hJ117 6 (by decide)]; omega) (by omega) (by intro i q1 q2; have := hx2 i q1 q2; omega) (by rw [hF136 43 (by decide), hJ117 7 (by decide), ec2, show n + 1 - 1 = n by omega]; exact t3 w (by omega) (by show w < M 43 6; omega) (by show M 46 w = 1; omega) n (by omega) (Int.le_refl _))) cb_X11_goesOn lay_43 kc_11 rfl ml_X11_201 dX11_tries_162 (by decide) (Nat.le_of_ble_eq_true rfl) (fun M162 hQ => ?_)
                  obtain ⟨h1_162, hF162⟩ := hQ
                  rw [ec2, hF136 43 (by decide), hJ117 7 (by decide)] at h1_162
                  refine pw_iinc4 C (by decide) dX11_tries_165 ?_
                  refine pw_goto (tgt := 136) C dX11_tries_168 (by decide) ?_
                  exact ih_136 _ _ (Sm_trans (Sm_trans Sm_refl hF136 (by decide)) hF162 (by decide)) (by omega) (by first | exact t1 | (rw [hF162 59 (by decide)]; exact t1)) (by first | exact t2 | (rw [hF162 59 (by decide)]; exact t2)) (by
                        first
                          | exact t3
                          | (rw [hF162 59 (by decide)]
                             intro u u1 u2 u3 i q1 q2 k k1 k2
                             have h8 : kL (cfM M) = M 43 7 := rfl
                             rw [h1_162, if_neg (by omega)]
                             exact t3 u u1 u2 u3 i q1 q2 k k1 k2)) (by
                        intro u q1 q2 q3 k k1 k2
                        first
                          | exact t4 u q1 (by rcases Int.lt_or_eq_of_le (show u ≤ w by omega) with z | z; exact z; rw [z] at q3; omega) q3 k k1 k2
                          | (rw [h1_162, hF162 59 (by decide)]
                             by_cases e : u = w
                             · rw [e, if_pos (by omega), show 81 * w + 9 * (n + 1) + k - (81 * w + 9 * (n + 1)) = k by omega]
                             · rw [if_neg (by omega)]
                               exact t4 u q1 (by omega) q3 k k1 k2)) (by omega)
          exact cut_136 _ _ _ (Sm_up Sm_refl (by decide)) (by omega) (by intro i q1 q2; rw [rd_ne (by omega)]; exact g1 i q1 q2) (by exact rd_eq) (by rw [up2_ne (show (57 : Nat) ≠ 59 by decide)]; exact LnM_x g2 (fun i q1 q2 => by rw [rd_ne (by omega)])) (by intro u q1 q2; omega) (Nat.lt_succ_self _)
    exact cut_117 _ _ _ Sm_refl Fm_refl (by omega) (by intro i _ _; rfl) (by exact hl) (by
          have e9 : vl (M 43 1) (M 59) n * M 43 1 ^ 2 = (vl (M 43 1) (M 59) n * M 43 1 + 0) * M 43 1 ^ 1 := pwl 1
          rw [← e9]; exact hmi) (Nat.lt_succ_self _)
  · exfalso; omega
set_option maxHeartbeats 4000000 in
set_option maxRecDepth 100000 in
theorem c_X11_tries_3 (l : Launch) (K : KX) (M : Mem) (n sz : Int) (dd : Nat) (hW : WfK (cfM M)) (hsz : 1 ≤ sz ∧ sz ≤ 8) (hn : 0 ≤ n ∧ n ≤ sz) (hx : ∀ i, 0 ≤ i → i < n → 0 ≤ M 59 i ∧ M 59 i < M 43 1) (hl : LnM (cfM M) (M 59) (M 57) n) (hmi : MiR (cfM M) (M 43 30) (M 43 29) (M 58) sz (vl (M 43 1) (M 59) n * M 43 1 ^ (sz - n).toNat)) (hdd : 5 ≤ dd) (hlev : sz - n = 3) : MCv l K LAY yX11_tries cX11_tries 5 none dd [rV K 43, iV n, iV sz] M (fun M' => (∀ i, 0 ≤ i → i < n → M' 59 i = M 59 i) ∧ (LnM (cfM M) (M' 59) (M' 57) n) ∧ (MiR (cfM M) (M' 43 30) (M' 43 29) (M' 58) sz ((vl (M 43 1) (M 59) n + 1) * M 43 1 ^ (sz - n).toNat)) ∧ Sm [43, 57, 58, 59] M M' ∧ Fm [29, 30] M M') := by
  refine mcv_intro RX11 rfl [some (rV K 43), some (iV n), some (iV sz), none, none] rfl (by decide +kernel) (cat_r (cat_i (cat_i cat_nil))) (Nat.le_of_ble_eq_true rfl) (fun X hX C => ?_)
  subst hX
  have C := CX_down (d := 5) C hdd
  have w_let := wm_let hW
  have w_sw := wm_sw hW
  have w_dr := wm_dr hW
  have w_w := wm_w hW
  have w_l := wm_l hW
  have w_l1 := wm_l1 hW
  have em : (sz - n).toNat = 3 := by omega
  have em1 : (sz - (n + 1)).toNat = 2 := by omega
  rw [em] at hmi
  have hx3 : ∀ i, 0 ≤ i → i < n → 0 ≤ M 59 i ∧ M 59 i ≤ 3 := fun i q1 q2 => by have := hx i q1 q2; omega
  refine pw_iload1 C dX11_tries_0 ?_
  refine pw_iload2 C dX11_tries_1 ?_
  refine pw_icmp_ne (tgt := 115) C dX11_tries_2 (by decide) (by omega) (by omega) (fun h2 => ?_) (fun h2 => ?_)
  · refine pw_iconst C dX11_tries_115 ?_
    refine pw_istore3 C (by decide) dX11_tries_116 ?_
    have cut_117 : ∀ (fu : Nat) (c : Int) (M1 : Mem), Sm [43, 57, 58, 59] M M1 → Fm [29, 30] M M1 → (0 ≤ c ∧ c ≤ M 43 1) → (∀ i, 0 ≤ i → i < n → M1 59 i = M 59 i) → (LnM (cfM M) (M1 59) (M1 57) n) → (MiR (cfM M) (M1 43 30) (M1 43 29) (M1 58) sz ((vl (M 43 1) (M 59) n * M 43 1 + c) * M 43 1 ^ 2)) → (M 43 1 - c).toNat < fu → PW X K LAY 5 (0, 0) (Zv X K LAY (fun M' => (∀ i, 0 ≤ i → i < n → M' 59 i = M 59 i) ∧ (LnM (cfM M) (M' 59) (M' 57) n) ∧ (MiR (cfM M) (M' 43 30) (M' 43 29) (M' 58) sz ((vl (M 43 1) (M 59) n + 1) * M 43 1 ^ (sz - n).toNat)) ∧ Sm [43, 57, 58, 59] M M' ∧ Fm [29, 30] M M')) 117 [some (rV K 43), some (iV n), some (iV sz), some (iV c), none] [] M1 := by
      intro fu
      induction fu with
      | zero => intro _ _ _ _ _ _ _ _ hm; exact absurd hm (Nat.not_lt_zero _)
      | succ fu ih =>
        intro c M1 hF117 hJ117 hc g1 g2 g3 hm
        have ih_117 := ih
        have hm_117 := hm
        have ec1 : cfM M1 = cfM M := cfM_e (hJ117 1 (by decide)) (hJ117 3 (by decide)) (hJ117 4 (by decide)) (hJ117 5 (by decide)) (hJ117 6 (by decide)) (hJ117 7 (by decide)) (hJ117 10 (by decide)) (hF117 44 (by decide)) (hF117 45 (by decide)) (hF117 46 (by decide)) (hF117 47 (by decide)) (hF117 48 (by decide))
        refine pw_iload3 C dX11_tries_117 ?_
        refine pw_aload0 C dX11_tries_118 ?_
        refine g_43_1 C fl_X11_13 dX11_tries_119 ?_
        refine pw_top C _ (hJ117 1 (by decide)) ?_
        refine pw_icmp_ge (tgt := 185) C dX11_tries_122 (by decide) (by omega) (by omega) (fun h122 => ?_) (fun h122 => ?_)
        · exact pw_vretV C dX11_tries_185 (⟨by exact g1, by exact g2, by
                rw [show c = M 43 1 by omega] at g3
                have e9 : (vl (M 43 1) (M 59) n * M 43 1 + M 43 1) * M 43 1 ^ 2 = (vl (M 43 1) (M 59) n + 1) * M 43 1 ^ 3 := pwr 2
                rw [em, ← e9]; exact g3, (Sm_trans Sm_refl hF117 (by decide)), (Fm_tr Fm_refl hJ117 (by decide))⟩)
        · refine pw_aload0 C dX11_tries_125 ?_
          refine g_43_31 C fl_X11_68 dX11_tries_126 ?_
          refine pw_iload1 C dX11_tries_129 ?_
          refine pw_iload3 C dX11_tries_130 ?_
          refine pw_i2b C (c) (by rw [b_i2b (by omega), bmod_id (by omega)]) dX11_tries_131 ?_
          refine pw_bastore C lay_59 (by omega) (by decide) (by omega) dX11_tries_132 ?_
          refine pw_iconst C dX11_tries_133 ?_
          refine pw_istore4 C (by decide) dX11_tries_134 ?_
          have cut_136 : ∀ (fu : Nat) (w : Int) (M2 : Mem), Sm [57, 59] M1 M2 → (0 ≤ w ∧ w ≤ M 43 6) → (∀ i, 0 ≤ i → i < n → M2 59 i = M 59 i) → (M2 59 n = c) → (LnM (cfM M) (M2 59) (M2 57) n) → (∀ u, 0 ≤ u → u < w → M 46 u = 1 → ∀ k, 0 ≤ k → k ≤ M 43 7 → M2 57 (81 * u + 9 * (n + 1) + k) = edW (cfM M) (M2 59) u (n + 1) k) → (M 43 6 - w).toNat < fu → PW X K LAY 5 (0, 0) (Zv X K LAY (fun M' => (∀ i, 0 ≤ i → i < n → M' 59 i = M 59 i) ∧ (LnM (cfM M) (M' 59) (M' 57) n) ∧ (MiR (cfM M) (M' 43 30) (M' 43 29) (M' 58) sz ((vl (M 43 1) (M 59) n + 1) * M 43 1 ^ (sz - n).toNat)) ∧ Sm [43, 57, 58, 59] M M' ∧ Fm [29, 30] M M')) 136 [some (rV K 43), some (iV n), some (iV sz), some (iV c), some (iV w)] [] M2 := by
            intro fu
            induction fu with
            | zero => intro _ _ _ _ _ _ _ _ hm; exact absurd hm (Nat.not_lt_zero _)
            | succ fu ih =>
              intro w M2 hF136 hw t1 t2 t3 t4 hm
              have ih_136 := ih
              have hm_136 := hm
              have ec2 : cfM M2 = cfM M := by rw [← ec1]; exact cfM_e (congrFun (hF136 43 (by decide)) 1) (congrFun (hF136 43 (by decide)) 3) (congrFun (hF136 43 (by decide)) 4) (congrFun (hF136 43 (by decide)) 5) (congrFun (hF136 43 (by decide)) 6) (congrFun (hF136 43 (by decide)) 7) (congrFun (hF136 43 (by decide)) 10) (hF136 44 (by decide)) (hF136 45 (by decide)) (hF136 46 (by decide)) (hF136 47 (by decide)) (hF136 48 (by decide))
              have hx2 : ∀ i, 0 ≤ i → i < n + 1 → 0 ≤ M2 59 i ∧ M2 59 i < M 43 1 := fun i q1 q2 => by
                by_cases e : i = n
                · rw [e, t2]; omega
                · rw [t1 i q1 (by omega)]; exact hx i q1 (by omega)
              refine pw_iload4 C dX11_tries_136 ?_
              refine pw_aload0 C dX11_tries_138 ?_
              refine g_43_6 C fl_X11_85 dX11_tries_139 ?_
              refine pw_top C _ (congrFun (hF136 43 (by decide)) _) ?_
              refine pw_top C _ (hJ117 6 (by decide)) ?_
              refine pw_icmp_ge (tgt := 171) C dX11_tries_142 (by decide) (by omega) (by omega) (fun h142 => ?_) (fun h142 => ?_)
              · have t5 : LnM (cfM M) (M2 59) (M2 57) (n + 1) := fun u u1 u2 u3 i q1 q2 k k1 k2 => by
                  by_cases e : i = n + 1
                  · rw [e]; exact t4 u u1 (by have h9 : kW (cfM M) = M 43 6 := rfl; omega) u3 k k1 k2
                  · exact t3 u u1 u2 u3 i q1 (by omega) k k1 k2
                have ev : vl (M 43 1) (M2 59) (n + 1) = vl (M 43 1) (M 59) n * M 43 1 + c := by rw [vl_s (by omega), t2, vl_congr (n := n) t1 n (by omega) (Int.le_refl _)]
                have e43 : M2 43 = M1 43 := hF136 43 (by decide)
                have e1 : M2 43 1 = M 43 1 := by rw [e43]; exact hJ117 1 (by decide)
                refine pw_aload0 C dX11_tries_171 ?_
                refine pw_iload1 C dX11_tries_172 ?_
                refine pw_iconst C dX11_tries_173 ?_
                refine pw_iadd C dX11_tries_174 ?_
                refine pw_iload2 C dX11_tries_175 ?_
                have nz176_43 : M2 43 = M1 43 := (hF136 43 (by decide))
                have nz176_58 : M2 58 = M1 58 := (hF136 58 (by decide))
                refine pw_cVv2 C (c_X11_tries_2 _ K _ _ _ (4) (by rw [ec2]; exact hW) (hsz) (by omega) (by rw [e1]; exact hx2) (by rw [ec2]; exact t5) (by rw [ec2, em1, e1, ev, e43, hF136 58 (by decide)]; exact g3) (by decide) (by omega)) cb_X11_tries lay_43 kc_11 rfl ml_X11_204 dX11_tries_176 (by decide) (Nat.le_of_ble_eq_true rfl) (fun M176 hQ => ?_)
                obtain ⟨hx1_176, hl1_176, hm1_176, hF176, hJ176⟩ := hQ
                rw [ec2] at hl1_176 hm1_176
                rw [em1, e1, ev] at hm1_176
                refine pw_iinc3 C (by decide) dX11_tries_179 ?_
                refine pw_goto (tgt := 117) C dX11_tries_182 (by decide) ?_
                refine pw_fgt (fgt_k (fgt_k (fgt_k (fgt_k (fgt_no fgt_nil))))) ?_
                exact ih_117 _ _ (Sm_trans (Sm_trans (Sm_trans Sm_refl hF117 (by decide)) hF136 (by decide)) hF176 (by decide)) (Fm_tr (Fm_fr (Fm_tr Fm_refl hJ117 (by decide)) hF136 (by decide)) hJ176 (by decide)) (by omega) (by intro i q1 q2; rw [hx1_176 i q1 (by omega)]; exact t1 i q1 q2) (by exact LnM_d hl1_176 (by omega)) (by rw [← Int.add_assoc]; exact hm1_176) (by omega)
              · have hpw := wm_p hW w (by omega) (by omega)
                refine pw_aload0 C dX11_tries_145 ?_
                refine g_43_9 C fl_X11_27 dX11_tries_146 ?_
                refine pw_iload4 C dX11_tries_149 ?_
                refine pw_iaload C lay_46 (by omega) (by decide) dX11_tries_151 ?_
                refine pw_top C _ (congrFun (hF136 46 (by decide)) _) ?_
                refine pw_top C _ (congrFun (hF117 46 (by decide)) _) ?_
                refine pw_iconst C dX11_tries_152 ?_
                refine pw_icmp_ne (tgt := 165) C dX11_tries_153 (by decide) (by omega) (by omega) (fun h153 => ?_) (fun h153 => ?_)
                · refine pw_iinc4 C (by decide) dX11_tries_165 ?_
                  refine pw_goto (tgt := 136) C dX11_tries_168 (by decide) ?_
                  exact ih_136 _ _ (Sm_trans Sm_refl hF136 (by decide)) (by omega) (by first | exact t1 | (rw [hF162 59 (by decide)]; exact t1)) (by first | exact t2 | (rw [hF162 59 (by decide)]; exact t2)) (by
                        first
                          | exact t3
                          | (rw [hF162 59 (by decide)]
                             intro u u1 u2 u3 i q1 q2 k k1 k2
                             have h8 : kL (cfM M) = M 43 7 := rfl
                             rw [h1_162, if_neg (by omega)]
                             exact t3 u u1 u2 u3 i q1 q2 k k1 k2)) (by
                        intro u q1 q2 q3 k k1 k2
                        first
                          | exact t4 u q1 (by rcases Int.lt_or_eq_of_le (show u ≤ w by omega) with z | z; exact z; rw [z] at q3; omega) q3 k k1 k2
                          | (rw [h1_162, hF162 59 (by decide)]
                             by_cases e : u = w
                             · rw [e, if_pos (by omega), show 81 * w + 9 * (n + 1) + k - (81 * w + 9 * (n + 1)) = k by omega]
                             · rw [if_neg (by omega)]
                               exact t4 u q1 (by omega) q3 k k1 k2)) (by omega)
                · refine pw_aload0 C dX11_tries_156 ?_
                  refine pw_iload4 C dX11_tries_157 ?_
                  refine pw_iload1 C dX11_tries_159 ?_
                  refine pw_iconst C dX11_tries_160 ?_
                  refine pw_iadd C dX11_tries_161 ?_
                  have nz162_43 : M2 43 = M1 43 := (hF136 43 (by decide))
                  refine pw_cVv2 C (c_X11_goesOn _ K _ _ _ (by rw [ec2]; exact hW) (by rw [hF136 43 (by decide), hJ117 6 (by decide)]; omega) (by omega) (by intro i q1 q2; have := hx2 i q1 q2; omega) (by rw [hF136 43 (by decide), hJ117 7 (by decide), ec2, show n + 1 - 1 = n by omega]; exact t3 w (by omega) (by show w < M 43 6; omega) (by show M 46 w = 1; omega) n (by omega) (Int.le_refl _))) cb_X11_goesOn lay_43 kc_11 rfl ml_X11_201 dX11_tries_162 (by decide) (Nat.le_of_ble_eq_true rfl) (fun M162 hQ => ?_)
                  obtain ⟨h1_162, hF162⟩ := hQ
                  rw [ec2, hF136 43 (by decide), hJ117 7 (by decide)] at h1_162
                  refine pw_iinc4 C (by decide) dX11_tries_165 ?_
                  refine pw_goto (tgt := 136) C dX11_tries_168 (by decide) ?_
                  exact ih_136 _ _ (Sm_trans (Sm_trans Sm_refl hF136 (by decide)) hF162 (by decide)) (by omega) (by first | exact t1 | (rw [hF162 59 (by decide)]; exact t1)) (by first | exact t2 | (rw [hF162 59 (by decide)]; exact t2)) (by
                        first
                          | exact t3
                          | (rw [hF162 59 (by decide)]
                             intro u u1 u2 u3 i q1 q2 k k1 k2
                             have h8 : kL (cfM M) = M 43 7 := rfl
                             rw [h1_162, if_neg (by omega)]
                             exact t3 u u1 u2 u3 i q1 q2 k k1 k2)) (by
                        intro u q1 q2 q3 k k1 k2
                        first
                          | exact t4 u q1 (by rcases Int.lt_or_eq_of_le (show u ≤ w by omega) with z | z; exact z; rw [z] at q3; omega) q3 k k1 k2
                          | (rw [h1_162, hF162 59 (by decide)]
                             by_cases e : u = w
                             · rw [e, if_pos (by omega), show 81 * w + 9 * (n + 1) + k - (81 * w + 9 * (n + 1)) = k by omega]
                             · rw [if_neg (by omega)]
                               exact t4 u q1 (by omega) q3 k k1 k2)) (by omega)
          exact cut_136 _ _ _ (Sm_up Sm_refl (by decide)) (by omega) (by intro i q1 q2; rw [rd_ne (by omega)]; exact g1 i q1 q2) (by exact rd_eq) (by rw [up2_ne (show (57 : Nat) ≠ 59 by decide)]; exact LnM_x g2 (fun i q1 q2 => by rw [rd_ne (by omega)])) (by intro u q1 q2; omega) (Nat.lt_succ_self _)
    exact cut_117 _ _ _ Sm_refl Fm_refl (by omega) (by intro i _ _; rfl) (by exact hl) (by
          have e9 : vl (M 43 1) (M 59) n * M 43 1 ^ 3 = (vl (M 43 1) (M 59) n * M 43 1 + 0) * M 43 1 ^ 2 := pwl 2
          rw [← e9]; exact hmi) (Nat.lt_succ_self _)
  · exfalso; omega
set_option maxHeartbeats 4000000 in
set_option maxRecDepth 100000 in
theorem c_X11_tries_4 (l : Launch) (K : KX) (M : Mem) (n sz : Int) (dd : Nat) (hW : WfK (cfM M)) (hsz : 1 ≤ sz ∧ sz ≤ 8) (hn : 0 ≤ n ∧ n ≤ sz) (hx : ∀ i, 0 ≤ i → i < n → 0 ≤ M 59 i ∧ M 59 i < M 43 1) (hl : LnM (cfM M) (M 59) (M 57) n) (hmi : MiR (cfM M) (M 43 30) (M 43 29) (M 58) sz (vl (M 43 1) (M 59) n * M 43 1 ^ (sz - n).toNat)) (hdd : 6 ≤ dd) (hlev : sz - n = 4) : MCv l K LAY yX11_tries cX11_tries 5 none dd [rV K 43, iV n, iV sz] M (fun M' => (∀ i, 0 ≤ i → i < n → M' 59 i = M 59 i) ∧ (LnM (cfM M) (M' 59) (M' 57) n) ∧ (MiR (cfM M) (M' 43 30) (M' 43 29) (M' 58) sz ((vl (M 43 1) (M 59) n + 1) * M 43 1 ^ (sz - n).toNat)) ∧ Sm [43, 57, 58, 59] M M' ∧ Fm [29, 30] M M') := by
  refine mcv_intro RX11 rfl [some (rV K 43), some (iV n), some (iV sz), none, none] rfl (by decide +kernel) (cat_r (cat_i (cat_i cat_nil))) (Nat.le_of_ble_eq_true rfl) (fun X hX C => ?_)
  subst hX
  have C := CX_down (d := 6) C hdd
  have w_let := wm_let hW
  have w_sw := wm_sw hW
  have w_dr := wm_dr hW
  have w_w := wm_w hW
  have w_l := wm_l hW
  have w_l1 := wm_l1 hW
  have em : (sz - n).toNat = 4 := by omega
  have em1 : (sz - (n + 1)).toNat = 3 := by omega
  rw [em] at hmi
  have hx3 : ∀ i, 0 ≤ i → i < n → 0 ≤ M 59 i ∧ M 59 i ≤ 3 := fun i q1 q2 => by have := hx i q1 q2; omega
  refine pw_iload1 C dX11_tries_0 ?_
  refine pw_iload2 C dX11_tries_1 ?_
  refine pw_icmp_ne (tgt := 115) C dX11_tries_2 (by decide) (by omega) (by omega) (fun h2 => ?_) (fun h2 => ?_)
  · refine pw_iconst C dX11_tries_115 ?_
    refine pw_istore3 C (by decide) dX11_tries_116 ?_
    have cut_117 : ∀ (fu : Nat) (c : Int) (M1 : Mem), Sm [43, 57, 58, 59] M M1 → Fm [29, 30] M M1 → (0 ≤ c ∧ c ≤ M 43 1) → (∀ i, 0 ≤ i → i < n → M1 59 i = M 59 i) → (LnM (cfM M) (M1 59) (M1 57) n) → (MiR (cfM M) (M1 43 30) (M1 43 29) (M1 58) sz ((vl (M 43 1) (M 59) n * M 43 1 + c) * M 43 1 ^ 3)) → (M 43 1 - c).toNat < fu → PW X K LAY 5 (0, 0) (Zv X K LAY (fun M' => (∀ i, 0 ≤ i → i < n → M' 59 i = M 59 i) ∧ (LnM (cfM M) (M' 59) (M' 57) n) ∧ (MiR (cfM M) (M' 43 30) (M' 43 29) (M' 58) sz ((vl (M 43 1) (M 59) n + 1) * M 43 1 ^ (sz - n).toNat)) ∧ Sm [43, 57, 58, 59] M M' ∧ Fm [29, 30] M M')) 117 [some (rV K 43), some (iV n), some (iV sz), some (iV c), none] [] M1 := by
      intro fu
      induction fu with
      | zero => intro _ _ _ _ _ _ _ _ hm; exact absurd hm (Nat.not_lt_zero _)
      | succ fu ih =>
        intro c M1 hF117 hJ117 hc g1 g2 g3 hm
        have ih_117 := ih
        have hm_117 := hm
        have ec1 : cfM M1 = cfM M := cfM_e (hJ117 1 (by decide)) (hJ117 3 (by decide)) (hJ117 4 (by decide)) (hJ117 5 (by decide)) (hJ117 6 (by decide)) (hJ117 7 (by decide)) (hJ117 10 (by decide)) (hF117 44 (by decide)) (hF117 45 (by decide)) (hF117 46 (by decide)) (hF117 47 (by decide)) (hF117 48 (by decide))
        refine pw_iload3 C dX11_tries_117 ?_
        refine pw_aload0 C dX11_tries_118 ?_
        refine g_43_1 C fl_X11_13 dX11_tries_119 ?_
        refine pw_top C _ (hJ117 1 (by decide)) ?_
        refine pw_icmp_ge (tgt := 185) C dX11_tries_122 (by decide) (by omega) (by omega) (fun h122 => ?_) (fun h122 => ?_)
        · exact pw_vretV C dX11_tries_185 (⟨by exact g1, by exact g2, by
                rw [show c = M 43 1 by omega] at g3
                have e9 : (vl (M 43 1) (M 59) n * M 43 1 + M 43 1) * M 43 1 ^ 3 = (vl (M 43 1) (M 59) n + 1) * M 43 1 ^ 4 := pwr 3
                rw [em, ← e9]; exact g3, (Sm_trans Sm_refl hF117 (by decide)), (Fm_tr Fm_refl hJ117 (by decide))⟩)
        · refine pw_aload0 C dX11_tries_125 ?_
          refine g_43_31 C fl_X11_68 dX11_tries_126 ?_
          refine pw_iload1 C dX11_tries_129 ?_
          refine pw_iload3 C dX11_tries_130 ?_
          refine pw_i2b C (c) (by rw [b_i2b (by omega), bmod_id (by omega)]) dX11_tries_131 ?_
          refine pw_bastore C lay_59 (by omega) (by decide) (by omega) dX11_tries_132 ?_
          refine pw_iconst C dX11_tries_133 ?_
          refine pw_istore4 C (by decide) dX11_tries_134 ?_
          have cut_136 : ∀ (fu : Nat) (w : Int) (M2 : Mem), Sm [57, 59] M1 M2 → (0 ≤ w ∧ w ≤ M 43 6) → (∀ i, 0 ≤ i → i < n → M2 59 i = M 59 i) → (M2 59 n = c) → (LnM (cfM M) (M2 59) (M2 57) n) → (∀ u, 0 ≤ u → u < w → M 46 u = 1 → ∀ k, 0 ≤ k → k ≤ M 43 7 → M2 57 (81 * u + 9 * (n + 1) + k) = edW (cfM M) (M2 59) u (n + 1) k) → (M 43 6 - w).toNat < fu → PW X K LAY 5 (0, 0) (Zv X K LAY (fun M' => (∀ i, 0 ≤ i → i < n → M' 59 i = M 59 i) ∧ (LnM (cfM M) (M' 59) (M' 57) n) ∧ (MiR (cfM M) (M' 43 30) (M' 43 29) (M' 58) sz ((vl (M 43 1) (M 59) n + 1) * M 43 1 ^ (sz - n).toNat)) ∧ Sm [43, 57, 58, 59] M M' ∧ Fm [29, 30] M M')) 136 [some (rV K 43), some (iV n), some (iV sz), some (iV c), some (iV w)] [] M2 := by
            intro fu
            induction fu with
            | zero => intro _ _ _ _ _ _ _ _ hm; exact absurd hm (Nat.not_lt_zero _)
            | succ fu ih =>
              intro w M2 hF136 hw t1 t2 t3 t4 hm
              have ih_136 := ih
              have hm_136 := hm
              have ec2 : cfM M2 = cfM M := by rw [← ec1]; exact cfM_e (congrFun (hF136 43 (by decide)) 1) (congrFun (hF136 43 (by decide)) 3) (congrFun (hF136 43 (by decide)) 4) (congrFun (hF136 43 (by decide)) 5) (congrFun (hF136 43 (by decide)) 6) (congrFun (hF136 43 (by decide)) 7) (congrFun (hF136 43 (by decide)) 10) (hF136 44 (by decide)) (hF136 45 (by decide)) (hF136 46 (by decide)) (hF136 47 (by decide)) (hF136 48 (by decide))
              have hx2 : ∀ i, 0 ≤ i → i < n + 1 → 0 ≤ M2 59 i ∧ M2 59 i < M 43 1 := fun i q1 q2 => by
                by_cases e : i = n
                · rw [e, t2]; omega
                · rw [t1 i q1 (by omega)]; exact hx i q1 (by omega)
              refine pw_iload4 C dX11_tries_136 ?_
              refine pw_aload0 C dX11_tries_138 ?_
              refine g_43_6 C fl_X11_85 dX11_tries_139 ?_
              refine pw_top C _ (congrFun (hF136 43 (by decide)) _) ?_
              refine pw_top C _ (hJ117 6 (by decide)) ?_
              refine pw_icmp_ge (tgt := 171) C dX11_tries_142 (by decide) (by omega) (by omega) (fun h142 => ?_) (fun h142 => ?_)
              · have t5 : LnM (cfM M) (M2 59) (M2 57) (n + 1) := fun u u1 u2 u3 i q1 q2 k k1 k2 => by
                  by_cases e : i = n + 1
                  · rw [e]; exact t4 u u1 (by have h9 : kW (cfM M) = M 43 6 := rfl; omega) u3 k k1 k2
                  · exact t3 u u1 u2 u3 i q1 (by omega) k k1 k2
                have ev : vl (M 43 1) (M2 59) (n + 1) = vl (M 43 1) (M 59) n * M 43 1 + c := by rw [vl_s (by omega), t2, vl_congr (n := n) t1 n (by omega) (Int.le_refl _)]
                have e43 : M2 43 = M1 43 := hF136 43 (by decide)
                have e1 : M2 43 1 = M 43 1 := by rw [e43]; exact hJ117 1 (by decide)
                refine pw_aload0 C dX11_tries_171 ?_
                refine pw_iload1 C dX11_tries_172 ?_
                refine pw_iconst C dX11_tries_173 ?_
                refine pw_iadd C dX11_tries_174 ?_
                refine pw_iload2 C dX11_tries_175 ?_
                have nz176_43 : M2 43 = M1 43 := (hF136 43 (by decide))
                have nz176_58 : M2 58 = M1 58 := (hF136 58 (by decide))
                refine pw_cVv2 C (c_X11_tries_3 _ K _ _ _ (5) (by rw [ec2]; exact hW) (hsz) (by omega) (by rw [e1]; exact hx2) (by rw [ec2]; exact t5) (by rw [ec2, em1, e1, ev, e43, hF136 58 (by decide)]; exact g3) (by decide) (by omega)) cb_X11_tries lay_43 kc_11 rfl ml_X11_204 dX11_tries_176 (by decide) (Nat.le_of_ble_eq_true rfl) (fun M176 hQ => ?_)
                obtain ⟨hx1_176, hl1_176, hm1_176, hF176, hJ176⟩ := hQ
                rw [ec2] at hl1_176 hm1_176
                rw [em1, e1, ev] at hm1_176
                refine pw_iinc3 C (by decide) dX11_tries_179 ?_
                refine pw_goto (tgt := 117) C dX11_tries_182 (by decide) ?_
                refine pw_fgt (fgt_k (fgt_k (fgt_k (fgt_k (fgt_no fgt_nil))))) ?_
                exact ih_117 _ _ (Sm_trans (Sm_trans (Sm_trans Sm_refl hF117 (by decide)) hF136 (by decide)) hF176 (by decide)) (Fm_tr (Fm_fr (Fm_tr Fm_refl hJ117 (by decide)) hF136 (by decide)) hJ176 (by decide)) (by omega) (by intro i q1 q2; rw [hx1_176 i q1 (by omega)]; exact t1 i q1 q2) (by exact LnM_d hl1_176 (by omega)) (by rw [← Int.add_assoc]; exact hm1_176) (by omega)
              · have hpw := wm_p hW w (by omega) (by omega)
                refine pw_aload0 C dX11_tries_145 ?_
                refine g_43_9 C fl_X11_27 dX11_tries_146 ?_
                refine pw_iload4 C dX11_tries_149 ?_
                refine pw_iaload C lay_46 (by omega) (by decide) dX11_tries_151 ?_
                refine pw_top C _ (congrFun (hF136 46 (by decide)) _) ?_
                refine pw_top C _ (congrFun (hF117 46 (by decide)) _) ?_
                refine pw_iconst C dX11_tries_152 ?_
                refine pw_icmp_ne (tgt := 165) C dX11_tries_153 (by decide) (by omega) (by omega) (fun h153 => ?_) (fun h153 => ?_)
                · refine pw_iinc4 C (by decide) dX11_tries_165 ?_
                  refine pw_goto (tgt := 136) C dX11_tries_168 (by decide) ?_
                  exact ih_136 _ _ (Sm_trans Sm_refl hF136 (by decide)) (by omega) (by first | exact t1 | (rw [hF162 59 (by decide)]; exact t1)) (by first | exact t2 | (rw [hF162 59 (by decide)]; exact t2)) (by
                        first
                          | exact t3
                          | (rw [hF162 59 (by decide)]
                             intro u u1 u2 u3 i q1 q2 k k1 k2
                             have h8 : kL (cfM M) = M 43 7 := rfl
                             rw [h1_162, if_neg (by omega)]
                             exact t3 u u1 u2 u3 i q1 q2 k k1 k2)) (by
                        intro u q1 q2 q3 k k1 k2
                        first
                          | exact t4 u q1 (by rcases Int.lt_or_eq_of_le (show u ≤ w by omega) with z | z; exact z; rw [z] at q3; omega) q3 k k1 k2
                          | (rw [h1_162, hF162 59 (by decide)]
                             by_cases e : u = w
                             · rw [e, if_pos (by omega), show 81 * w + 9 * (n + 1) + k - (81 * w + 9 * (n + 1)) = k by omega]
                             · rw [if_neg (by omega)]
                               exact t4 u q1 (by omega) q3 k k1 k2)) (by omega)
                · refine pw_aload0 C dX11_tries_156 ?_
                  refine pw_iload4 C dX11_tries_157 ?_
                  refine pw_iload1 C dX11_tries_159 ?_
                  refine pw_iconst C dX11_tries_160 ?_
                  refine pw_iadd C dX11_tries_161 ?_
                  have nz162_43 : M2 43 = M1 43 := (hF136 43 (by decide))
                  refine pw_cVv2 C (c_X11_goesOn _ K _ _ _ (by rw [ec2]; exact hW) (by rw [hF136 43 (by decide), hJ117 6 (by decide)]; omega) (by omega) (by intro i q1 q2; have := hx2 i q1 q2; omega) (by rw [hF136 43 (by decide), hJ117 7 (by decide), ec2, show n + 1 - 1 = n by omega]; exact t3 w (by omega) (by show w < M 43 6; omega) (by show M 46 w = 1; omega) n (by omega) (Int.le_refl _))) cb_X11_goesOn lay_43 kc_11 rfl ml_X11_201 dX11_tries_162 (by decide) (Nat.le_of_ble_eq_true rfl) (fun M162 hQ => ?_)
                  obtain ⟨h1_162, hF162⟩ := hQ
                  rw [ec2, hF136 43 (by decide), hJ117 7 (by decide)] at h1_162
                  refine pw_iinc4 C (by decide) dX11_tries_165 ?_
                  refine pw_goto (tgt := 136) C dX11_tries_168 (by decide) ?_
                  exact ih_136 _ _ (Sm_trans (Sm_trans Sm_refl hF136 (by decide)) hF162 (by decide)) (by omega) (by first | exact t1 | (rw [hF162 59 (by decide)]; exact t1)) (by first | exact t2 | (rw [hF162 59 (by decide)]; exact t2)) (by
                        first
                          | exact t3
                          | (rw [hF162 59 (by decide)]
                             intro u u1 u2 u3 i q1 q2 k k1 k2
                             have h8 : kL (cfM M) = M 43 7 := rfl
                             rw [h1_162, if_neg (by omega)]
                             exact t3 u u1 u2 u3 i q1 q2 k k1 k2)) (by
                        intro u q1 q2 q3 k k1 k2
                        first
                          | exact t4 u q1 (by rcases Int.lt_or_eq_of_le (show u ≤ w by omega) with z | z; exact z; rw [z] at q3; omega) q3 k k1 k2
                          | (rw [h1_162, hF162 59 (by decide)]
                             by_cases e : u = w
                             · rw [e, if_pos (by omega), show 81 * w + 9 * (n + 1) + k - (81 * w + 9 * (n + 1)) = k by omega]
                             · rw [if_neg (by omega)]
                               exact t4 u q1 (by omega) q3 k k1 k2)) (by omega)
          exact cut_136 _ _ _ (Sm_up Sm_refl (by decide)) (by omega) (by intro i q1 q2; rw [rd_ne (by omega)]; exact g1 i q1 q2) (by exact rd_eq) (by rw [up2_ne (show (57 : Nat) ≠ 59 by decide)]; exact LnM_x g2 (fun i q1 q2 => by rw [rd_ne (by omega)])) (by intro u q1 q2; omega) (Nat.lt_succ_self _)
    exact cut_117 _ _ _ Sm_refl Fm_refl (by omega) (by intro i _ _; rfl) (by exact hl) (by
          have e9 : vl (M 43 1) (M 59) n * M 43 1 ^ 4 = (vl (M 43 1) (M 59) n * M 43 1 + 0) * M 43 1 ^ 3 := pwl 3
          rw [← e9]; exact hmi) (Nat.lt_succ_self _)
  · exfalso; omega
set_option maxHeartbeats 4000000 in
set_option maxRecDepth 100000 in
theorem c_X11_tries_5 (l : Launch) (K : KX) (M : Mem) (n sz : Int) (dd : Nat) (hW : WfK (cfM M)) (hsz : 1 ≤ sz ∧ sz ≤ 8) (hn : 0 ≤ n ∧ n ≤ sz) (hx : ∀ i, 0 ≤ i → i < n → 0 ≤ M 59 i ∧ M 59 i < M 43 1) (hl : LnM (cfM M) (M 59) (M 57) n) (hmi : MiR (cfM M) (M 43 30) (M 43 29) (M 58) sz (vl (M 43 1) (M 59) n * M 43 1 ^ (sz - n).toNat)) (hdd : 7 ≤ dd) (hlev : sz - n = 5) : MCv l K LAY yX11_tries cX11_tries 5 none dd [rV K 43, iV n, iV sz] M (fun M' => (∀ i, 0 ≤ i → i < n → M' 59 i = M 59 i) ∧ (LnM (cfM M) (M' 59) (M' 57) n) ∧ (MiR (cfM M) (M' 43 30) (M' 43 29) (M' 58) sz ((vl (M 43 1) (M 59) n + 1) * M 43 1 ^ (sz - n).toNat)) ∧ Sm [43, 57, 58, 59] M M' ∧ Fm [29, 30] M M') := by
  refine mcv_intro RX11 rfl [some (rV K 43), some (iV n), some (iV sz), none, none] rfl (by decide +kernel) (cat_r (cat_i (cat_i cat_nil))) (Nat.le_of_ble_eq_true rfl) (fun X hX C => ?_)
  subst hX
  have C := CX_down (d := 7) C hdd
  have w_let := wm_let hW
  have w_sw := wm_sw hW
  have w_dr := wm_dr hW
  have w_w := wm_w hW
  have w_l := wm_l hW
  have w_l1 := wm_l1 hW
  have em : (sz - n).toNat = 5 := by omega
  have em1 : (sz - (n + 1)).toNat = 4 := by omega
  rw [em] at hmi
  have hx3 : ∀ i, 0 ≤ i → i < n → 0 ≤ M 59 i ∧ M 59 i ≤ 3 := fun i q1 q2 => by have := hx i q1 q2; omega
  refine pw_iload1 C dX11_tries_0 ?_
  refine pw_iload2 C dX11_tries_1 ?_
  refine pw_icmp_ne (tgt := 115) C dX11_tries_2 (by decide) (by omega) (by omega) (fun h2 => ?_) (fun h2 => ?_)
  · refine pw_iconst C dX11_tries_115 ?_
    refine pw_istore3 C (by decide) dX11_tries_116 ?_
    have cut_117 : ∀ (fu : Nat) (c : Int) (M1 : Mem), Sm [43, 57, 58, 59] M M1 → Fm [29, 30] M M1 → (0 ≤ c ∧ c ≤ M 43 1) → (∀ i, 0 ≤ i → i < n → M1 59 i = M 59 i) → (LnM (cfM M) (M1 59) (M1 57) n) → (MiR (cfM M) (M1 43 30) (M1 43 29) (M1 58) sz ((vl (M 43 1) (M 59) n * M 43 1 + c) * M 43 1 ^ 4)) → (M 43 1 - c).toNat < fu → PW X K LAY 5 (0, 0) (Zv X K LAY (fun M' => (∀ i, 0 ≤ i → i < n → M' 59 i = M 59 i) ∧ (LnM (cfM M) (M' 59) (M' 57) n) ∧ (MiR (cfM M) (M' 43 30) (M' 43 29) (M' 58) sz ((vl (M 43 1) (M 59) n + 1) * M 43 1 ^ (sz - n).toNat)) ∧ Sm [43, 57, 58, 59] M M' ∧ Fm [29, 30] M M')) 117 [some (rV K 43), some (iV n), some (iV sz), some (iV c), none] [] M1 := by
      intro fu
      induction fu with
      | zero => intro _ _ _ _ _ _ _ _ hm; exact absurd hm (Nat.not_lt_zero _)
      | succ fu ih =>
        intro c M1 hF117 hJ117 hc g1 g2 g3 hm
        have ih_117 := ih
        have hm_117 := hm
        have ec1 : cfM M1 = cfM M := cfM_e (hJ117 1 (by decide)) (hJ117 3 (by decide)) (hJ117 4 (by decide)) (hJ117 5 (by decide)) (hJ117 6 (by decide)) (hJ117 7 (by decide)) (hJ117 10 (by decide)) (hF117 44 (by decide)) (hF117 45 (by decide)) (hF117 46 (by decide)) (hF117 47 (by decide)) (hF117 48 (by decide))
        refine pw_iload3 C dX11_tries_117 ?_
        refine pw_aload0 C dX11_tries_118 ?_
        refine g_43_1 C fl_X11_13 dX11_tries_119 ?_
        refine pw_top C _ (hJ117 1 (by decide)) ?_
        refine pw_icmp_ge (tgt := 185) C dX11_tries_122 (by decide) (by omega) (by omega) (fun h122 => ?_) (fun h122 => ?_)
        · exact pw_vretV C dX11_tries_185 (⟨by exact g1, by exact g2, by
                rw [show c = M 43 1 by omega] at g3
                have e9 : (vl (M 43 1) (M 59) n * M 43 1 + M 43 1) * M 43 1 ^ 4 = (vl (M 43 1) (M 59) n + 1) * M 43 1 ^ 5 := pwr 4
                rw [em, ← e9]; exact g3, (Sm_trans Sm_refl hF117 (by decide)), (Fm_tr Fm_refl hJ117 (by decide))⟩)
        · refine pw_aload0 C dX11_tries_125 ?_
          refine g_43_31 C fl_X11_68 dX11_tries_126 ?_
          refine pw_iload1 C dX11_tries_129 ?_
          refine pw_iload3 C dX11_tries_130 ?_
          refine pw_i2b C (c) (by rw [b_i2b (by omega), bmod_id (by omega)]) dX11_tries_131 ?_
          refine pw_bastore C lay_59 (by omega) (by decide) (by omega) dX11_tries_132 ?_
          refine pw_iconst C dX11_tries_133 ?_
          refine pw_istore4 C (by decide) dX11_tries_134 ?_
          have cut_136 : ∀ (fu : Nat) (w : Int) (M2 : Mem), Sm [57, 59] M1 M2 → (0 ≤ w ∧ w ≤ M 43 6) → (∀ i, 0 ≤ i → i < n → M2 59 i = M 59 i) → (M2 59 n = c) → (LnM (cfM M) (M2 59) (M2 57) n) → (∀ u, 0 ≤ u → u < w → M 46 u = 1 → ∀ k, 0 ≤ k → k ≤ M 43 7 → M2 57 (81 * u + 9 * (n + 1) + k) = edW (cfM M) (M2 59) u (n + 1) k) → (M 43 6 - w).toNat < fu → PW X K LAY 5 (0, 0) (Zv X K LAY (fun M' => (∀ i, 0 ≤ i → i < n → M' 59 i = M 59 i) ∧ (LnM (cfM M) (M' 59) (M' 57) n) ∧ (MiR (cfM M) (M' 43 30) (M' 43 29) (M' 58) sz ((vl (M 43 1) (M 59) n + 1) * M 43 1 ^ (sz - n).toNat)) ∧ Sm [43, 57, 58, 59] M M' ∧ Fm [29, 30] M M')) 136 [some (rV K 43), some (iV n), some (iV sz), some (iV c), some (iV w)] [] M2 := by
            intro fu
            induction fu with
            | zero => intro _ _ _ _ _ _ _ _ hm; exact absurd hm (Nat.not_lt_zero _)
            | succ fu ih =>
              intro w M2 hF136 hw t1 t2 t3 t4 hm
              have ih_136 := ih
              have hm_136 := hm
              have ec2 : cfM M2 = cfM M := by rw [← ec1]; exact cfM_e (congrFun (hF136 43 (by decide)) 1) (congrFun (hF136 43 (by decide)) 3) (congrFun (hF136 43 (by decide)) 4) (congrFun (hF136 43 (by decide)) 5) (congrFun (hF136 43 (by decide)) 6) (congrFun (hF136 43 (by decide)) 7) (congrFun (hF136 43 (by decide)) 10) (hF136 44 (by decide)) (hF136 45 (by decide)) (hF136 46 (by decide)) (hF136 47 (by decide)) (hF136 48 (by decide))
              have hx2 : ∀ i, 0 ≤ i → i < n + 1 → 0 ≤ M2 59 i ∧ M2 59 i < M 43 1 := fun i q1 q2 => by
                by_cases e : i = n
                · rw [e, t2]; omega
                · rw [t1 i q1 (by omega)]; exact hx i q1 (by omega)
              refine pw_iload4 C dX11_tries_136 ?_
              refine pw_aload0 C dX11_tries_138 ?_
              refine g_43_6 C fl_X11_85 dX11_tries_139 ?_
              refine pw_top C _ (congrFun (hF136 43 (by decide)) _) ?_
              refine pw_top C _ (hJ117 6 (by decide)) ?_
              refine pw_icmp_ge (tgt := 171) C dX11_tries_142 (by decide) (by omega) (by omega) (fun h142 => ?_) (fun h142 => ?_)
              · have t5 : LnM (cfM M) (M2 59) (M2 57) (n + 1) := fun u u1 u2 u3 i q1 q2 k k1 k2 => by
                  by_cases e : i = n + 1
                  · rw [e]; exact t4 u u1 (by have h9 : kW (cfM M) = M 43 6 := rfl; omega) u3 k k1 k2
                  · exact t3 u u1 u2 u3 i q1 (by omega) k k1 k2
                have ev : vl (M 43 1) (M2 59) (n + 1) = vl (M 43 1) (M 59) n * M 43 1 + c := by rw [vl_s (by omega), t2, vl_congr (n := n) t1 n (by omega) (Int.le_refl _)]
                have e43 : M2 43 = M1 43 := hF136 43 (by decide)
                have e1 : M2 43 1 = M 43 1 := by rw [e43]; exact hJ117 1 (by decide)
                refine pw_aload0 C dX11_tries_171 ?_
                refine pw_iload1 C dX11_tries_172 ?_
                refine pw_iconst C dX11_tries_173 ?_
                refine pw_iadd C dX11_tries_174 ?_
                refine pw_iload2 C dX11_tries_175 ?_
                have nz176_43 : M2 43 = M1 43 := (hF136 43 (by decide))
                have nz176_58 : M2 58 = M1 58 := (hF136 58 (by decide))
                refine pw_cVv2 C (c_X11_tries_4 _ K _ _ _ (6) (by rw [ec2]; exact hW) (hsz) (by omega) (by rw [e1]; exact hx2) (by rw [ec2]; exact t5) (by rw [ec2, em1, e1, ev, e43, hF136 58 (by decide)]; exact g3) (by decide) (by omega)) cb_X11_tries lay_43 kc_11 rfl ml_X11_204 dX11_tries_176 (by decide) (Nat.le_of_ble_eq_true rfl) (fun M176 hQ => ?_)
                obtain ⟨hx1_176, hl1_176, hm1_176, hF176, hJ176⟩ := hQ
                rw [ec2] at hl1_176 hm1_176
                rw [em1, e1, ev] at hm1_176
                refine pw_iinc3 C (by decide) dX11_tries_179 ?_
                refine pw_goto (tgt := 117) C dX11_tries_182 (by decide) ?_
                refine pw_fgt (fgt_k (fgt_k (fgt_k (fgt_k (fgt_no fgt_nil))))) ?_
                exact ih_117 _ _ (Sm_trans (Sm_trans (Sm_trans Sm_refl hF117 (by decide)) hF136 (by decide)) hF176 (by decide)) (Fm_tr (Fm_fr (Fm_tr Fm_refl hJ117 (by decide)) hF136 (by decide)) hJ176 (by decide)) (by omega) (by intro i q1 q2; rw [hx1_176 i q1 (by omega)]; exact t1 i q1 q2) (by exact LnM_d hl1_176 (by omega)) (by rw [← Int.add_assoc]; exact hm1_176) (by omega)
              · have hpw := wm_p hW w (by omega) (by omega)
                refine pw_aload0 C dX11_tries_145 ?_
                refine g_43_9 C fl_X11_27 dX11_tries_146 ?_
                refine pw_iload4 C dX11_tries_149 ?_
                refine pw_iaload C lay_46 (by omega) (by decide) dX11_tries_151 ?_
                refine pw_top C _ (congrFun (hF136 46 (by decide)) _) ?_
                refine pw_top C _ (congrFun (hF117 46 (by decide)) _) ?_
                refine pw_iconst C dX11_tries_152 ?_
                refine pw_icmp_ne (tgt := 165) C dX11_tries_153 (by decide) (by omega) (by omega) (fun h153 => ?_) (fun h153 => ?_)
                · refine pw_iinc4 C (by decide) dX11_tries_165 ?_
                  refine pw_goto (tgt := 136) C dX11_tries_168 (by decide) ?_
                  exact ih_136 _ _ (Sm_trans Sm_refl hF136 (by decide)) (by omega) (by first | exact t1 | (rw [hF162 59 (by decide)]; exact t1)) (by first | exact t2 | (rw [hF162 59 (by decide)]; exact t2)) (by
                        first
                          | exact t3
                          | (rw [hF162 59 (by decide)]
                             intro u u1 u2 u3 i q1 q2 k k1 k2
                             have h8 : kL (cfM M) = M 43 7 := rfl
                             rw [h1_162, if_neg (by omega)]
                             exact t3 u u1 u2 u3 i q1 q2 k k1 k2)) (by
                        intro u q1 q2 q3 k k1 k2
                        first
                          | exact t4 u q1 (by rcases Int.lt_or_eq_of_le (show u ≤ w by omega) with z | z; exact z; rw [z] at q3; omega) q3 k k1 k2
                          | (rw [h1_162, hF162 59 (by decide)]
                             by_cases e : u = w
                             · rw [e, if_pos (by omega), show 81 * w + 9 * (n + 1) + k - (81 * w + 9 * (n + 1)) = k by omega]
                             · rw [if_neg (by omega)]
                               exact t4 u q1 (by omega) q3 k k1 k2)) (by omega)
                · refine pw_aload0 C dX11_tries_156 ?_
                  refine pw_iload4 C dX11_tries_157 ?_
                  refine pw_iload1 C dX11_tries_159 ?_
                  refine pw_iconst C dX11_tries_160 ?_
                  refine pw_iadd C dX11_tries_161 ?_
                  have nz162_43 : M2 43 = M1 43 := (hF136 43 (by decide))
                  refine pw_cVv2 C (c_X11_goesOn _ K _ _ _ (by rw [ec2]; exact hW) (by rw [hF136 43 (by decide), hJ117 6 (by decide)]; omega) (by omega) (by intro i q1 q2; have := hx2 i q1 q2; omega) (by rw [hF136 43 (by decide), hJ117 7 (by decide), ec2, show n + 1 - 1 = n by omega]; exact t3 w (by omega) (by show w < M 43 6; omega) (by show M 46 w = 1; omega) n (by omega) (Int.le_refl _))) cb_X11_goesOn lay_43 kc_11 rfl ml_X11_201 dX11_tries_162 (by decide) (Nat.le_of_ble_eq_true rfl) (fun M162 hQ => ?_)
                  obtain ⟨h1_162, hF162⟩ := hQ
                  rw [ec2, hF136 43 (by decide), hJ117 7 (by decide)] at h1_162
                  refine pw_iinc4 C (by decide) dX11_tries_165 ?_
                  refine pw_goto (tgt := 136) C dX11_tries_168 (by decide) ?_
                  exact ih_136 _ _ (Sm_trans (Sm_trans Sm_refl hF136 (by decide)) hF162 (by decide)) (by omega) (by first | exact t1 | (rw [hF162 59 (by decide)]; exact t1)) (by first | exact t2 | (rw [hF162 59 (by decide)]; exact t2)) (by
                        first
                          | exact t3
                          | (rw [hF162 59 (by decide)]
                             intro u u1 u2 u3 i q1 q2 k k1 k2
                             have h8 : kL (cfM M) = M 43 7 := rfl
                             rw [h1_162, if_neg (by omega)]
                             exact t3 u u1 u2 u3 i q1 q2 k k1 k2)) (by
                        intro u q1 q2 q3 k k1 k2
                        first
                          | exact t4 u q1 (by rcases Int.lt_or_eq_of_le (show u ≤ w by omega) with z | z; exact z; rw [z] at q3; omega) q3 k k1 k2
                          | (rw [h1_162, hF162 59 (by decide)]
                             by_cases e : u = w
                             · rw [e, if_pos (by omega), show 81 * w + 9 * (n + 1) + k - (81 * w + 9 * (n + 1)) = k by omega]
                             · rw [if_neg (by omega)]
                               exact t4 u q1 (by omega) q3 k k1 k2)) (by omega)
          exact cut_136 _ _ _ (Sm_up Sm_refl (by decide)) (by omega) (by intro i q1 q2; rw [rd_ne (by omega)]; exact g1 i q1 q2) (by exact rd_eq) (by rw [up2_ne (show (57 : Nat) ≠ 59 by decide)]; exact LnM_x g2 (fun i q1 q2 => by rw [rd_ne (by omega)])) (by intro u q1 q2; omega) (Nat.lt_succ_self _)
    exact cut_117 _ _ _ Sm_refl Fm_refl (by omega) (by intro i _ _; rfl) (by exact hl) (by
          have e9 : vl (M 43 1) (M 59) n * M 43 1 ^ 5 = (vl (M 43 1) (M 59) n * M 43 1 + 0) * M 43 1 ^ 4 := pwl 4
          rw [← e9]; exact hmi) (Nat.lt_succ_self _)
  · exfalso; omega
set_option maxHeartbeats 4000000 in
set_option maxRecDepth 100000 in
theorem c_X11_tries_6 (l : Launch) (K : KX) (M : Mem) (n sz : Int) (dd : Nat) (hW : WfK (cfM M)) (hsz : 1 ≤ sz ∧ sz ≤ 8) (hn : 0 ≤ n ∧ n ≤ sz) (hx : ∀ i, 0 ≤ i → i < n → 0 ≤ M 59 i ∧ M 59 i < M 43 1) (hl : LnM (cfM M) (M 59) (M 57) n) (hmi : MiR (cfM M) (M 43 30) (M 43 29) (M 58) sz (vl (M 43 1) (M 59) n * M 43 1 ^ (sz - n).toNat)) (hdd : 8 ≤ dd) (hlev : sz - n = 6) : MCv l K LAY yX11_tries cX11_tries 5 none dd [rV K 43, iV n, iV sz] M (fun M' => (∀ i, 0 ≤ i → i < n → M' 59 i = M 59 i) ∧ (LnM (cfM M) (M' 59) (M' 57) n) ∧ (MiR (cfM M) (M' 43 30) (M' 43 29) (M' 58) sz ((vl (M 43 1) (M 59) n + 1) * M 43 1 ^ (sz - n).toNat)) ∧ Sm [43, 57, 58, 59] M M' ∧ Fm [29, 30] M M') := by
  refine mcv_intro RX11 rfl [some (rV K 43), some (iV n), some (iV sz), none, none] rfl (by decide +kernel) (cat_r (cat_i (cat_i cat_nil))) (Nat.le_of_ble_eq_true rfl) (fun X hX C => ?_)
  subst hX
  have C := CX_down (d := 8) C hdd
  have w_let := wm_let hW
  have w_sw := wm_sw hW
  have w_dr := wm_dr hW
  have w_w := wm_w hW
  have w_l := wm_l hW
  have w_l1 := wm_l1 hW
  have em : (sz - n).toNat = 6 := by omega
  have em1 : (sz - (n + 1)).toNat = 5 := by omega
  rw [em] at hmi
  have hx3 : ∀ i, 0 ≤ i → i < n → 0 ≤ M 59 i ∧ M 59 i ≤ 3 := fun i q1 q2 => by have := hx i q1 q2; omega
  refine pw_iload1 C dX11_tries_0 ?_
  refine pw_iload2 C dX11_tries_1 ?_
  refine pw_icmp_ne (tgt := 115) C dX11_tries_2 (by decide) (by omega) (by omega) (fun h2 => ?_) (fun h2 => ?_)
  · refine pw_iconst C dX11_tries_115 ?_
    refine pw_istore3 C (by decide) dX11_tries_116 ?_
    have cut_117 : ∀ (fu : Nat) (c : Int) (M1 : Mem), Sm [43, 57, 58, 59] M M1 → Fm [29, 30] M M1 → (0 ≤ c ∧ c ≤ M 43 1) → (∀ i, 0 ≤ i → i < n → M1 59 i = M 59 i) → (LnM (cfM M) (M1 59) (M1 57) n) → (MiR (cfM M) (M1 43 30) (M1 43 29) (M1 58) sz ((vl (M 43 1) (M 59) n * M 43 1 + c) * M 43 1 ^ 5)) → (M 43 1 - c).toNat < fu → PW X K LAY 5 (0, 0) (Zv X K LAY (fun M' => (∀ i, 0 ≤ i → i < n → M' 59 i = M 59 i) ∧ (LnM (cfM M) (M' 59) (M' 57) n) ∧ (MiR (cfM M) (M' 43 30) (M' 43 29) (M' 58) sz ((vl (M 43 1) (M 59) n + 1) * M 43 1 ^ (sz - n).toNat)) ∧ Sm [43, 57, 58, 59] M M' ∧ Fm [29, 30] M M')) 117 [some (rV K 43), some (iV n), some (iV sz), some (iV c), none] [] M1 := by
      intro fu
      induction fu with
      | zero => intro _ _ _ _ _ _ _ _ hm; exact absurd hm (Nat.not_lt_zero _)
      | succ fu ih =>
        intro c M1 hF117 hJ117 hc g1 g2 g3 hm
        have ih_117 := ih
        have hm_117 := hm
        have ec1 : cfM M1 = cfM M := cfM_e (hJ117 1 (by decide)) (hJ117 3 (by decide)) (hJ117 4 (by decide)) (hJ117 5 (by decide)) (hJ117 6 (by decide)) (hJ117 7 (by decide)) (hJ117 10 (by decide)) (hF117 44 (by decide)) (hF117 45 (by decide)) (hF117 46 (by decide)) (hF117 47 (by decide)) (hF117 48 (by decide))
        refine pw_iload3 C dX11_tries_117 ?_
        refine pw_aload0 C dX11_tries_118 ?_
        refine g_43_1 C fl_X11_13 dX11_tries_119 ?_
        refine pw_top C _ (hJ117 1 (by decide)) ?_
        refine pw_icmp_ge (tgt := 185) C dX11_tries_122 (by decide) (by omega) (by omega) (fun h122 => ?_) (fun h122 => ?_)
        · exact pw_vretV C dX11_tries_185 (⟨by exact g1, by exact g2, by
                rw [show c = M 43 1 by omega] at g3
                have e9 : (vl (M 43 1) (M 59) n * M 43 1 + M 43 1) * M 43 1 ^ 5 = (vl (M 43 1) (M 59) n + 1) * M 43 1 ^ 6 := pwr 5
                rw [em, ← e9]; exact g3, (Sm_trans Sm_refl hF117 (by decide)), (Fm_tr Fm_refl hJ117 (by decide))⟩)
        · refine pw_aload0 C dX11_tries_125 ?_
          refine g_43_31 C fl_X11_68 dX11_tries_126 ?_
          refine pw_iload1 C dX11_tries_129 ?_
          refine pw_iload3 C dX11_tries_130 ?_
          refine pw_i2b C (c) (by rw [b_i2b (by omega), bmod_id (by omega)]) dX11_tries_131 ?_
          refine pw_bastore C lay_59 (by omega) (by decide) (by omega) dX11_tries_132 ?_
          refine pw_iconst C dX11_tries_133 ?_
          refine pw_istore4 C (by decide) dX11_tries_134 ?_
          have cut_136 : ∀ (fu : Nat) (w : Int) (M2 : Mem), Sm [57, 59] M1 M2 → (0 ≤ w ∧ w ≤ M 43 6) → (∀ i, 0 ≤ i → i < n → M2 59 i = M 59 i) → (M2 59 n = c) → (LnM (cfM M) (M2 59) (M2 57) n) → (∀ u, 0 ≤ u → u < w → M 46 u = 1 → ∀ k, 0 ≤ k → k ≤ M 43 7 → M2 57 (81 * u + 9 * (n + 1) + k) = edW (cfM M) (M2 59) u (n + 1) k) → (M 43 6 - w).toNat < fu → PW X K LAY 5 (0, 0) (Zv X K LAY (fun M' => (∀ i, 0 ≤ i → i < n → M' 59 i = M 59 i) ∧ (LnM (cfM M) (M' 59) (M' 57) n) ∧ (MiR (cfM M) (M' 43 30) (M' 43 29) (M' 58) sz ((vl (M 43 1) (M 59) n + 1) * M 43 1 ^ (sz - n).toNat)) ∧ Sm [43, 57, 58, 59] M M' ∧ Fm [29, 30] M M')) 136 [some (rV K 43), some (iV n), some (iV sz), some (iV c), some (iV w)] [] M2 := by
            intro fu
            induction fu with
            | zero => intro _ _ _ _ _ _ _ _ hm; exact absurd hm (Nat.not_lt_zero _)
            | succ fu ih =>
              intro w M2 hF136 hw t1 t2 t3 t4 hm
              have ih_136 := ih
              have hm_136 := hm
              have ec2 : cfM M2 = cfM M := by rw [← ec1]; exact cfM_e (congrFun (hF136 43 (by decide)) 1) (congrFun (hF136 43 (by decide)) 3) (congrFun (hF136 43 (by decide)) 4) (congrFun (hF136 43 (by decide)) 5) (congrFun (hF136 43 (by decide)) 6) (congrFun (hF136 43 (by decide)) 7) (congrFun (hF136 43 (by decide)) 10) (hF136 44 (by decide)) (hF136 45 (by decide)) (hF136 46 (by decide)) (hF136 47 (by decide)) (hF136 48 (by decide))
              have hx2 : ∀ i, 0 ≤ i → i < n + 1 → 0 ≤ M2 59 i ∧ M2 59 i < M 43 1 := fun i q1 q2 => by
                by_cases e : i = n
                · rw [e, t2]; omega
                · rw [t1 i q1 (by omega)]; exact hx i q1 (by omega)
              refine pw_iload4 C dX11_tries_136 ?_
              refine pw_aload0 C dX11_tries_138 ?_
              refine g_43_6 C fl_X11_85 dX11_tries_139 ?_
              refine pw_top C _ (congrFun (hF136 43 (by decide)) _) ?_
              refine pw_top C _ (hJ117 6 (by decide)) ?_
              refine pw_icmp_ge (tgt := 171) C dX11_tries_142 (by decide) (by omega) (by omega) (fun h142 => ?_) (fun h142 => ?_)
              · have t5 : LnM (cfM M) (M2 59) (M2 57) (n + 1) := fun u u1 u2 u3 i q1 q2 k k1 k2 => by
                  by_cases e : i = n + 1
                  · rw [e]; exact t4 u u1 (by have h9 : kW (cfM M) = M 43 6 := rfl; omega) u3 k k1 k2
                  · exact t3 u u1 u2 u3 i q1 (by omega) k k1 k2
                have ev : vl (M 43 1) (M2 59) (n + 1) = vl (M 43 1) (M 59) n * M 43 1 + c := by rw [vl_s (by omega), t2, vl_congr (n := n) t1 n (by omega) (Int.le_refl _)]
                have e43 : M2 43 = M1 43 := hF136 43 (by decide)
                have e1 : M2 43 1 = M 43 1 := by rw [e43]; exact hJ117 1 (by decide)
                refine pw_aload0 C dX11_tries_171 ?_
                refine pw_iload1 C dX11_tries_172 ?_
                refine pw_iconst C dX11_tries_173 ?_
                refine pw_iadd C dX11_tries_174 ?_
                refine pw_iload2 C dX11_tries_175 ?_
                have nz176_43 : M2 43 = M1 43 := (hF136 43 (by decide))
                have nz176_58 : M2 58 = M1 58 := (hF136 58 (by decide))
                refine pw_cVv2 C (c_X11_tries_5 _ K _ _ _ (7) (by rw [ec2]; exact hW) (hsz) (by omega) (by rw [e1]; exact hx2) (by rw [ec2]; exact t5) (by rw [ec2, em1, e1, ev, e43, hF136 58 (by decide)]; exact g3) (by decide) (by omega)) cb_X11_tries lay_43 kc_11 rfl ml_X11_204 dX11_tries_176 (by decide) (Nat.le_of_ble_eq_true rfl) (fun M176 hQ => ?_)
                obtain ⟨hx1_176, hl1_176, hm1_176, hF176, hJ176⟩ := hQ
                rw [ec2] at hl1_176 hm1_176
                rw [em1, e1, ev] at hm1_176
                refine pw_iinc3 C (by decide) dX11_tries_179 ?_
                refine pw_goto (tgt := 117) C dX11_tries_182 (by decide) ?_
                refine pw_fgt (fgt_k (fgt_k (fgt_k (fgt_k (fgt_no fgt_nil))))) ?_
                exact ih_117 _ _ (Sm_trans (Sm_trans (Sm_trans Sm_refl hF117 (by decide)) hF136 (by decide)) hF176 (by decide)) (Fm_tr (Fm_fr (Fm_tr Fm_refl hJ117 (by decide)) hF136 (by decide)) hJ176 (by decide)) (by omega) (by intro i q1 q2; rw [hx1_176 i q1 (by omega)]; exact t1 i q1 q2) (by exact LnM_d hl1_176 (by omega)) (by rw [← Int.add_assoc]; exact hm1_176) (by omega)
              · have hpw := wm_p hW w (by omega) (by omega)
                refine pw_aload0 C dX11_tries_145 ?_
                refine g_43_9 C fl_X11_27 dX11_tries_146 ?_
                refine pw_iload4 C dX11_tries_149 ?_
                refine pw_iaload C lay_46 (by omega) (by decide) dX11_tries_151 ?_
                refine pw_top C _ (congrFun (hF136 46 (by decide)) _) ?_
                refine pw_top C _ (congrFun (hF117 46 (by decide)) _) ?_
                refine pw_iconst C dX11_tries_152 ?_
                refine pw_icmp_ne (tgt := 165) C dX11_tries_153 (by decide) (by omega) (by omega) (fun h153 => ?_) (fun h153 => ?_)
                · refine pw_iinc4 C (by decide) dX11_tries_165 ?_
                  refine pw_goto (tgt := 136) C dX11_tries_168 (by decide) ?_
                  exact ih_136 _ _ (Sm_trans Sm_refl hF136 (by decide)) (by omega) (by first | exact t1 | (rw [hF162 59 (by decide)]; exact t1)) (by first | exact t2 | (rw [hF162 59 (by decide)]; exact t2)) (by
                        first
                          | exact t3
                          | (rw [hF162 59 (by decide)]
                             intro u u1 u2 u3 i q1 q2 k k1 k2
                             have h8 : kL (cfM M) = M 43 7 := rfl
                             rw [h1_162, if_neg (by omega)]
                             exact t3 u u1 u2 u3 i q1 q2 k k1 k2)) (by
                        intro u q1 q2 q3 k k1 k2
                        first
                          | exact t4 u q1 (by rcases Int.lt_or_eq_of_le (show u ≤ w by omega) with z | z; exact z; rw [z] at q3; omega) q3 k k1 k2
                          | (rw [h1_162, hF162 59 (by decide)]
                             by_cases e : u = w
                             · rw [e, if_pos (by omega), show 81 * w + 9 * (n + 1) + k - (81 * w + 9 * (n + 1)) = k by omega]
                             · rw [if_neg (by omega)]
                               exact t4 u q1 (by omega) q3 k k1 k2)) (by omega)
                · refine pw_aload0 C dX11_tries_156 ?_
                  refine pw_iload4 C dX11_tries_157 ?_
                  refine pw_iload1 C dX11_tries_159 ?_
                  refine pw_iconst C dX11_tries_160 ?_
                  refine pw_iadd C dX11_tries_161 ?_
                  have nz162_43 : M2 43 = M1 43 := (hF136 43 (by decide))
                  refine pw_cVv2 C (c_X11_goesOn _ K _ _ _ (by rw [ec2]; exact hW) (by rw [hF136 43 (by decide), hJ117 6 (by decide)]; omega) (by omega) (by intro i q1 q2; have := hx2 i q1 q2; omega) (by rw [hF136 43 (by decide), hJ117 7 (by decide), ec2, show n + 1 - 1 = n by omega]; exact t3 w (by omega) (by show w < M 43 6; omega) (by show M 46 w = 1; omega) n (by omega) (Int.le_refl _))) cb_X11_goesOn lay_43 kc_11 rfl ml_X11_201 dX11_tries_162 (by decide) (Nat.le_of_ble_eq_true rfl) (fun M162 hQ => ?_)
                  obtain ⟨h1_162, hF162⟩ := hQ
                  rw [ec2, hF136 43 (by decide), hJ117 7 (by decide)] at h1_162
                  refine pw_iinc4 C (by decide) dX11_tries_165 ?_
                  refine pw_goto (tgt := 136) C dX11_tries_168 (by decide) ?_
                  exact ih_136 _ _ (Sm_trans (Sm_trans Sm_refl hF136 (by decide)) hF162 (by decide)) (by omega) (by first | exact t1 | (rw [hF162 59 (by decide)]; exact t1)) (by first | exact t2 | (rw [hF162 59 (by decide)]; exact t2)) (by
                        first
                          | exact t3
                          | (rw [hF162 59 (by decide)]
                             intro u u1 u2 u3 i q1 q2 k k1 k2
                             have h8 : kL (cfM M) = M 43 7 := rfl
                             rw [h1_162, if_neg (by omega)]
                             exact t3 u u1 u2 u3 i q1 q2 k k1 k2)) (by
                        intro u q1 q2 q3 k k1 k2
                        first
                          | exact t4 u q1 (by rcases Int.lt_or_eq_of_le (show u ≤ w by omega) with z | z; exact z; rw [z] at q3; omega) q3 k k1 k2
                          | (rw [h1_162, hF162 59 (by decide)]
                             by_cases e : u = w
                             · rw [e, if_pos (by omega), show 81 * w + 9 * (n + 1) + k - (81 * w + 9 * (n + 1)) = k by omega]
                             · rw [if_neg (by omega)]
                               exact t4 u q1 (by omega) q3 k k1 k2)) (by omega)
          exact cut_136 _ _ _ (Sm_up Sm_refl (by decide)) (by omega) (by intro i q1 q2; rw [rd_ne (by omega)]; exact g1 i q1 q2) (by exact rd_eq) (by rw [up2_ne (show (57 : Nat) ≠ 59 by decide)]; exact LnM_x g2 (fun i q1 q2 => by rw [rd_ne (by omega)])) (by intro u q1 q2; omega) (Nat.lt_succ_self _)
    exact cut_117 _ _ _ Sm_refl Fm_refl (by omega) (by intro i _ _; rfl) (by exact hl) (by
          have e9 : vl (M 43 1) (M 59) n * M 43 1 ^ 6 = (vl (M 43 1) (M 59) n * M 43 1 + 0) * M 43 1 ^ 5 := pwl 5
          rw [← e9]; exact hmi) (Nat.lt_succ_self _)
  · exfalso; omega
set_option maxHeartbeats 4000000 in
set_option maxRecDepth 100000 in
theorem c_X11_tries_7 (l : Launch) (K : KX) (M : Mem) (n sz : Int) (dd : Nat) (hW : WfK (cfM M)) (hsz : 1 ≤ sz ∧ sz ≤ 8) (hn : 0 ≤ n ∧ n ≤ sz) (hx : ∀ i, 0 ≤ i → i < n → 0 ≤ M 59 i ∧ M 59 i < M 43 1) (hl : LnM (cfM M) (M 59) (M 57) n) (hmi : MiR (cfM M) (M 43 30) (M 43 29) (M 58) sz (vl (M 43 1) (M 59) n * M 43 1 ^ (sz - n).toNat)) (hdd : 9 ≤ dd) (hlev : sz - n = 7) : MCv l K LAY yX11_tries cX11_tries 5 none dd [rV K 43, iV n, iV sz] M (fun M' => (∀ i, 0 ≤ i → i < n → M' 59 i = M 59 i) ∧ (LnM (cfM M) (M' 59) (M' 57) n) ∧ (MiR (cfM M) (M' 43 30) (M' 43 29) (M' 58) sz ((vl (M 43 1) (M 59) n + 1) * M 43 1 ^ (sz - n).toNat)) ∧ Sm [43, 57, 58, 59] M M' ∧ Fm [29, 30] M M') := by
  refine mcv_intro RX11 rfl [some (rV K 43), some (iV n), some (iV sz), none, none] rfl (by decide +kernel) (cat_r (cat_i (cat_i cat_nil))) (Nat.le_of_ble_eq_true rfl) (fun X hX C => ?_)
  subst hX
  have C := CX_down (d := 9) C hdd
  have w_let := wm_let hW
  have w_sw := wm_sw hW
  have w_dr := wm_dr hW
  have w_w := wm_w hW
  have w_l := wm_l hW
  have w_l1 := wm_l1 hW
  have em : (sz - n).toNat = 7 := by omega
  have em1 : (sz - (n + 1)).toNat = 6 := by omega
  rw [em] at hmi
  have hx3 : ∀ i, 0 ≤ i → i < n → 0 ≤ M 59 i ∧ M 59 i ≤ 3 := fun i q1 q2 => by have := hx i q1 q2; omega
  refine pw_iload1 C dX11_tries_0 ?_
  refine pw_iload2 C dX11_tries_1 ?_
  refine pw_icmp_ne (tgt := 115) C dX11_tries_2 (by decide) (by omega) (by omega) (fun h2 => ?_) (fun h2 => ?_)
  · refine pw_iconst C dX11_tries_115 ?_
    refine pw_istore3 C (by decide) dX11_tries_116 ?_
    have cut_117 : ∀ (fu : Nat) (c : Int) (M1 : Mem), Sm [43, 57, 58, 59] M M1 → Fm [29, 30] M M1 → (0 ≤ c ∧ c ≤ M 43 1) → (∀ i, 0 ≤ i → i < n → M1 59 i = M 59 i) → (LnM (cfM M) (M1 59) (M1 57) n) → (MiR (cfM M) (M1 43 30) (M1 43 29) (M1 58) sz ((vl (M 43 1) (M 59) n * M 43 1 + c) * M 43 1 ^ 6)) → (M 43 1 - c).toNat < fu → PW X K LAY 5 (0, 0) (Zv X K LAY (fun M' => (∀ i, 0 ≤ i → i < n → M' 59 i = M 59 i) ∧ (LnM (cfM M) (M' 59) (M' 57) n) ∧ (MiR (cfM M) (M' 43 30) (M' 43 29) (M' 58) sz ((vl (M 43 1) (M 59) n + 1) * M 43 1 ^ (sz - n).toNat)) ∧ Sm [43, 57, 58, 59] M M' ∧ Fm [29, 30] M M')) 117 [some (rV K 43), some (iV n), some (iV sz), some (iV c), none] [] M1 := by
      intro fu
      induction fu with
      | zero => intro _ _ _ _ _ _ _ _ hm; exact absurd hm (Nat.not_lt_zero _)
      | succ fu ih =>
        intro c M1 hF117 hJ117 hc g1 g2 g3 hm
        have ih_117 := ih
        have hm_117 := hm
        have ec1 : cfM M1 = cfM M := cfM_e (hJ117 1 (by decide)) (hJ117 3 (by decide)) (hJ117 4 (by decide)) (hJ117 5 (by decide)) (hJ117 6 (by decide)) (hJ117 7 (by decide)) (hJ117 10 (by decide)) (hF117 44 (by decide)) (hF117 45 (by decide)) (hF117 46 (by decide)) (hF117 47 (by decide)) (hF117 48 (by decide))
        refine pw_iload3 C dX11_tries_117 ?_
        refine pw_aload0 C dX11_tries_118 ?_
        refine g_43_1 C fl_X11_13 dX11_tries_119 ?_
        refine pw_top C _ (hJ117 1 (by decide)) ?_
        refine pw_icmp_ge (tgt := 185) C dX11_tries_122 (by decide) (by omega) (by omega) (fun h122 => ?_) (fun h122 => ?_)
        · exact pw_vretV C dX11_tries_185 (⟨by exact g1, by exact g2, by
                rw [show c = M 43 1 by omega] at g3
                have e9 : (vl (M 43 1) (M 59) n * M 43 1 + M 43 1) * M 43 1 ^ 6 = (vl (M 43 1) (M 59) n + 1) * M 43 1 ^ 7 := pwr 6
                rw [em, ← e9]; exact g3, (Sm_trans Sm_refl hF117 (by decide)), (Fm_tr Fm_refl hJ117 (by decide))⟩)
        · refine pw_aload0 C dX11_tries_125 ?_
          refine g_43_31 C fl_X11_68 dX11_tries_126 ?_
          refine pw_iload1 C dX11_tries_129 ?_
          refine pw_iload3 C dX11_tries_130 ?_
          refine pw_i2b C (c) (by rw [b_i2b (by omega), bmod_id (by omega)]) dX11_tries_131 ?_
          refine pw_bastore C lay_59 (by omega) (by decide) (by omega) dX11_tries_132 ?_
          refine pw_iconst C dX11_tries_133 ?_
          refine pw_istore4 C (by decide) dX11_tries_134 ?_
          have cut_136 : ∀ (fu : Nat) (w : Int) (M2 : Mem), Sm [57, 59] M1 M2 → (0 ≤ w ∧ w ≤ M 43 6) → (∀ i, 0 ≤ i → i < n → M2 59 i = M 59 i) → (M2 59 n = c) → (LnM (cfM M) (M2 59) (M2 57) n) → (∀ u, 0 ≤ u → u < w → M 46 u = 1 → ∀ k, 0 ≤ k → k ≤ M 43 7 → M2 57 (81 * u + 9 * (n + 1) + k) = edW (cfM M) (M2 59) u (n + 1) k) → (M 43 6 - w).toNat < fu → PW X K LAY 5 (0, 0) (Zv X K LAY (fun M' => (∀ i, 0 ≤ i → i < n → M' 59 i = M 59 i) ∧ (LnM (cfM M) (M' 59) (M' 57) n) ∧ (MiR (cfM M) (M' 43 30) (M' 43 29) (M' 58) sz ((vl (M 43 1) (M 59) n + 1) * M 43 1 ^ (sz - n).toNat)) ∧ Sm [43, 57, 58, 59] M M' ∧ Fm [29, 30] M M')) 136 [some (rV K 43), some (iV n), some (iV sz), some (iV c), some (iV w)] [] M2 := by
            intro fu
            induction fu with
            | zero => intro _ _ _ _ _ _ _ _ hm; exact absurd hm (Nat.not_lt_zero _)
            | succ fu ih =>
              intro w M2 hF136 hw t1 t2 t3 t4 hm
              have ih_136 := ih
              have hm_136 := hm
              have ec2 : cfM M2 = cfM M := by rw [← ec1]; exact cfM_e (congrFun (hF136 43 (by decide)) 1) (congrFun (hF136 43 (by decide)) 3) (congrFun (hF136 43 (by decide)) 4) (congrFun (hF136 43 (by decide)) 5) (congrFun (hF136 43 (by decide)) 6) (congrFun (hF136 43 (by decide)) 7) (congrFun (hF136 43 (by decide)) 10) (hF136 44 (by decide)) (hF136 45 (by decide)) (hF136 46 (by decide)) (hF136 47 (by decide)) (hF136 48 (by decide))
              have hx2 : ∀ i, 0 ≤ i → i < n + 1 → 0 ≤ M2 59 i ∧ M2 59 i < M 43 1 := fun i q1 q2 => by
                by_cases e : i = n
                · rw [e, t2]; omega
                · rw [t1 i q1 (by omega)]; exact hx i q1 (by omega)
              refine pw_iload4 C dX11_tries_136 ?_
              refine pw_aload0 C dX11_tries_138 ?_
              refine g_43_6 C fl_X11_85 dX11_tries_139 ?_
              refine pw_top C _ (congrFun (hF136 43 (by decide)) _) ?_
              refine pw_top C _ (hJ117 6 (by decide)) ?_
              refine pw_icmp_ge (tgt := 171) C dX11_tries_142 (by decide) (by omega) (by omega) (fun h142 => ?_) (fun h142 => ?_)
              · have t5 : LnM (cfM M) (M2 59) (M2 57) (n + 1) := fun u u1 u2 u3 i q1 q2 k k1 k2 => by
                  by_cases e : i = n + 1
                  · rw [e]; exact t4 u u1 (by have h9 : kW (cfM M) = M 43 6 := rfl; omega) u3 k k1 k2
                  · exact t3 u u1 u2 u3 i q1 (by omega) k k1 k2
                have ev : vl (M 43 1) (M2 59) (n + 1) = vl (M 43 1) (M 59) n * M 43 1 + c := by rw [vl_s (by omega), t2, vl_congr (n := n) t1 n (by omega) (Int.le_refl _)]
                have e43 : M2 43 = M1 43 := hF136 43 (by decide)
                have e1 : M2 43 1 = M 43 1 := by rw [e43]; exact hJ117 1 (by decide)
                refine pw_aload0 C dX11_tries_171 ?_
                refine pw_iload1 C dX11_tries_172 ?_
                refine pw_iconst C dX11_tries_173 ?_
                refine pw_iadd C dX11_tries_174 ?_
                refine pw_iload2 C dX11_tries_175 ?_
                have nz176_43 : M2 43 = M1 43 := (hF136 43 (by decide))
                have nz176_58 : M2 58 = M1 58 := (hF136 58 (by decide))
                refine pw_cVv2 C (c_X11_tries_6 _ K _ _ _ (8) (by rw [ec2]; exact hW) (hsz) (by omega) (by rw [e1]; exact hx2) (by rw [ec2]; exact t5) (by rw [ec2, em1, e1, ev, e43, hF136 58 (by decide)]; exact g3) (by decide) (by omega)) cb_X11_tries lay_43 kc_11 rfl ml_X11_204 dX11_tries_176 (by decide) (Nat.le_of_ble_eq_true rfl) (fun M176 hQ => ?_)
                obtain ⟨hx1_176, hl1_176, hm1_176, hF176, hJ176⟩ := hQ
                rw [ec2] at hl1_176 hm1_176
                rw [em1, e1, ev] at hm1_176
                refine pw_iinc3 C (by decide) dX11_tries_179 ?_
                refine pw_goto (tgt := 117) C dX11_tries_182 (by decide) ?_
                refine pw_fgt (fgt_k (fgt_k (fgt_k (fgt_k (fgt_no fgt_nil))))) ?_
                exact ih_117 _ _ (Sm_trans (Sm_trans (Sm_trans Sm_refl hF117 (by decide)) hF136 (by decide)) hF176 (by decide)) (Fm_tr (Fm_fr (Fm_tr Fm_refl hJ117 (by decide)) hF136 (by decide)) hJ176 (by decide)) (by omega) (by intro i q1 q2; rw [hx1_176 i q1 (by omega)]; exact t1 i q1 q2) (by exact LnM_d hl1_176 (by omega)) (by rw [← Int.add_assoc]; exact hm1_176) (by omega)
              · have hpw := wm_p hW w (by omega) (by omega)
                refine pw_aload0 C dX11_tries_145 ?_
                refine g_43_9 C fl_X11_27 dX11_tries_146 ?_
                refine pw_iload4 C dX11_tries_149 ?_
                refine pw_iaload C lay_46 (by omega) (by decide) dX11_tries_151 ?_
                refine pw_top C _ (congrFun (hF136 46 (by decide)) _) ?_
                refine pw_top C _ (congrFun (hF117 46 (by decide)) _) ?_
                refine pw_iconst C dX11_tries_152 ?_
                refine pw_icmp_ne (tgt := 165) C dX11_tries_153 (by decide) (by omega) (by omega) (fun h153 => ?_) (fun h153 => ?_)
                · refine pw_iinc4 C (by decide) dX11_tries_165 ?_
                  refine pw_goto (tgt := 136) C dX11_tries_168 (by decide) ?_
                  exact ih_136 _ _ (Sm_trans Sm_refl hF136 (by decide)) (by omega) (by first | exact t1 | (rw [hF162 59 (by decide)]; exact t1)) (by first | exact t2 | (rw [hF162 59 (by decide)]; exact t2)) (by
                        first
                          | exact t3
                          | (rw [hF162 59 (by decide)]
                             intro u u1 u2 u3 i q1 q2 k k1 k2
                             have h8 : kL (cfM M) = M 43 7 := rfl
                             rw [h1_162, if_neg (by omega)]
                             exact t3 u u1 u2 u3 i q1 q2 k k1 k2)) (by
                        intro u q1 q2 q3 k k1 k2
                        first
                          | exact t4 u q1 (by rcases Int.lt_or_eq_of_le (show u ≤ w by omega) with z | z; exact z; rw [z] at q3; omega) q3 k k1 k2
                          | (rw [h1_162, hF162 59 (by decide)]
                             by_cases e : u = w
                             · rw [e, if_pos (by omega), show 81 * w + 9 * (n + 1) + k - (81 * w + 9 * (n + 1)) = k by omega]
                             · rw [if_neg (by omega)]
                               exact t4 u q1 (by omega) q3 k k1 k2)) (by omega)
                · refine pw_aload0 C dX11_tries_156 ?_
                  refine pw_iload4 C dX11_tries_157 ?_
                  refine pw_iload1 C dX11_tries_159 ?_
                  refine pw_iconst C dX11_tries_160 ?_
                  refine pw_iadd C dX11_tries_161 ?_
                  have nz162_43 : M2 43 = M1 43 := (hF136 43 (by decide))
                  refine pw_cVv2 C (c_X11_goesOn _ K _ _ _ (by rw [ec2]; exact hW) (by rw [hF136 43 (by decide), hJ117 6 (by decide)]; omega) (by omega) (by intro i q1 q2; have := hx2 i q1 q2; omega) (by rw [hF136 43 (by decide), hJ117 7 (by decide), ec2, show n + 1 - 1 = n by omega]; exact t3 w (by omega) (by show w < M 43 6; omega) (by show M 46 w = 1; omega) n (by omega) (Int.le_refl _))) cb_X11_goesOn lay_43 kc_11 rfl ml_X11_201 dX11_tries_162 (by decide) (Nat.le_of_ble_eq_true rfl) (fun M162 hQ => ?_)
                  obtain ⟨h1_162, hF162⟩ := hQ
                  rw [ec2, hF136 43 (by decide), hJ117 7 (by decide)] at h1_162
                  refine pw_iinc4 C (by decide) dX11_tries_165 ?_
                  refine pw_goto (tgt := 136) C dX11_tries_168 (by decide) ?_
                  exact ih_136 _ _ (Sm_trans (Sm_trans Sm_refl hF136 (by decide)) hF162 (by decide)) (by omega) (by first | exact t1 | (rw [hF162 59 (by decide)]; exact t1)) (by first | exact t2 | (rw [hF162 59 (by decide)]; exact t2)) (by
                        first
                          | exact t3
                          | (rw [hF162 59 (by decide)]
                             intro u u1 u2 u3 i q1 q2 k k1 k2
                             have h8 : kL (cfM M) = M 43 7 := rfl
                             rw [h1_162, if_neg (by omega)]
                             exact t3 u u1 u2 u3 i q1 q2 k k1 k2)) (by
                        intro u q1 q2 q3 k k1 k2
                        first
                          | exact t4 u q1 (by rcases Int.lt_or_eq_of_le (show u ≤ w by omega) with z | z; exact z; rw [z] at q3; omega) q3 k k1 k2
                          | (rw [h1_162, hF162 59 (by decide)]
                             by_cases e : u = w
                             · rw [e, if_pos (by omega), show 81 * w + 9 * (n + 1) + k - (81 * w + 9 * (n + 1)) = k by omega]
                             · rw [if_neg (by omega)]
                               exact t4 u q1 (by omega) q3 k k1 k2)) (by omega)
          exact cut_136 _ _ _ (Sm_up Sm_refl (by decide)) (by omega) (by intro i q1 q2; rw [rd_ne (by omega)]; exact g1 i q1 q2) (by exact rd_eq) (by rw [up2_ne (show (57 : Nat) ≠ 59 by decide)]; exact LnM_x g2 (fun i q1 q2 => by rw [rd_ne (by omega)])) (by intro u q1 q2; omega) (Nat.lt_succ_self _)
    exact cut_117 _ _ _ Sm_refl Fm_refl (by omega) (by intro i _ _; rfl) (by exact hl) (by
          have e9 : vl (M 43 1) (M 59) n * M 43 1 ^ 7 = (vl (M 43 1) (M 59) n * M 43 1 + 0) * M 43 1 ^ 6 := pwl 6
          rw [← e9]; exact hmi) (Nat.lt_succ_self _)
  · exfalso; omega
set_option maxHeartbeats 4000000 in
set_option maxRecDepth 100000 in
theorem c_X11_tries_8 (l : Launch) (K : KX) (M : Mem) (n sz : Int) (dd : Nat) (hW : WfK (cfM M)) (hsz : 1 ≤ sz ∧ sz ≤ 8) (hn : 0 ≤ n ∧ n ≤ sz) (hx : ∀ i, 0 ≤ i → i < n → 0 ≤ M 59 i ∧ M 59 i < M 43 1) (hl : LnM (cfM M) (M 59) (M 57) n) (hmi : MiR (cfM M) (M 43 30) (M 43 29) (M 58) sz (vl (M 43 1) (M 59) n * M 43 1 ^ (sz - n).toNat)) (hdd : 10 ≤ dd) (hlev : sz - n = 8) : MCv l K LAY yX11_tries cX11_tries 5 none dd [rV K 43, iV n, iV sz] M (fun M' => (∀ i, 0 ≤ i → i < n → M' 59 i = M 59 i) ∧ (LnM (cfM M) (M' 59) (M' 57) n) ∧ (MiR (cfM M) (M' 43 30) (M' 43 29) (M' 58) sz ((vl (M 43 1) (M 59) n + 1) * M 43 1 ^ (sz - n).toNat)) ∧ Sm [43, 57, 58, 59] M M' ∧ Fm [29, 30] M M') := by
  refine mcv_intro RX11 rfl [some (rV K 43), some (iV n), some (iV sz), none, none] rfl (by decide +kernel) (cat_r (cat_i (cat_i cat_nil))) (Nat.le_of_ble_eq_true rfl) (fun X hX C => ?_)
  subst hX
  have C := CX_down (d := 10) C hdd
  have w_let := wm_let hW
  have w_sw := wm_sw hW
  have w_dr := wm_dr hW
  have w_w := wm_w hW
  have w_l := wm_l hW
  have w_l1 := wm_l1 hW
  have em : (sz - n).toNat = 8 := by omega
  have em1 : (sz - (n + 1)).toNat = 7 := by omega
  rw [em] at hmi
  have hx3 : ∀ i, 0 ≤ i → i < n → 0 ≤ M 59 i ∧ M 59 i ≤ 3 := fun i q1 q2 => by have := hx i q1 q2; omega
  refine pw_iload1 C dX11_tries_0 ?_
  refine pw_iload2 C dX11_tries_1 ?_
  refine pw_icmp_ne (tgt := 115) C dX11_tries_2 (by decide) (by omega) (by omega) (fun h2 => ?_) (fun h2 => ?_)
  · refine pw_iconst C dX11_tries_115 ?_
    refine pw_istore3 C (by decide) dX11_tries_116 ?_
    have cut_117 : ∀ (fu : Nat) (c : Int) (M1 : Mem), Sm [43, 57, 58, 59] M M1 → Fm [29, 30] M M1 → (0 ≤ c ∧ c ≤ M 43 1) → (∀ i, 0 ≤ i → i < n → M1 59 i = M 59 i) → (LnM (cfM M) (M1 59) (M1 57) n) → (MiR (cfM M) (M1 43 30) (M1 43 29) (M1 58) sz ((vl (M 43 1) (M 59) n * M 43 1 + c) * M 43 1 ^ 7)) → (M 43 1 - c).toNat < fu → PW X K LAY 5 (0, 0) (Zv X K LAY (fun M' => (∀ i, 0 ≤ i → i < n → M' 59 i = M 59 i) ∧ (LnM (cfM M) (M' 59) (M' 57) n) ∧ (MiR (cfM M) (M' 43 30) (M' 43 29) (M' 58) sz ((vl (M 43 1) (M 59) n + 1) * M 43 1 ^ (sz - n).toNat)) ∧ Sm [43, 57, 58, 59] M M' ∧ Fm [29, 30] M M')) 117 [some (rV K 43), some (iV n), some (iV sz), some (iV c), none] [] M1 := by
      intro fu
      induction fu with
      | zero => intro _ _ _ _ _ _ _ _ hm; exact absurd hm (Nat.not_lt_zero _)
      | succ fu ih =>
        intro c M1 hF117 hJ117 hc g1 g2 g3 hm
        have ih_117 := ih
        have hm_117 := hm
        have ec1 : cfM M1 = cfM M := cfM_e (hJ117 1 (by decide)) (hJ117 3 (by decide)) (hJ117 4 (by decide)) (hJ117 5 (by decide)) (hJ117 6 (by decide)) (hJ117 7 (by decide)) (hJ117 10 (by decide)) (hF117 44 (by decide)) (hF117 45 (by decide)) (hF117 46 (by decide)) (hF117 47 (by decide)) (hF117 48 (by decide))
        refine pw_iload3 C dX11_tries_117 ?_
        refine pw_aload0 C dX11_tries_118 ?_
        refine g_43_1 C fl_X11_13 dX11_tries_119 ?_
        refine pw_top C _ (hJ117 1 (by decide)) ?_
        refine pw_icmp_ge (tgt := 185) C dX11_tries_122 (by decide) (by omega) (by omega) (fun h122 => ?_) (fun h122 => ?_)
        · exact pw_vretV C dX11_tries_185 (⟨by exact g1, by exact g2, by
                rw [show c = M 43 1 by omega] at g3
                have e9 : (vl (M 43 1) (M 59) n * M 43 1 + M 43 1) * M 43 1 ^ 7 = (vl (M 43 1) (M 59) n + 1) * M 43 1 ^ 8 := pwr 7
                rw [em, ← e9]; exact g3, (Sm_trans Sm_refl hF117 (by decide)), (Fm_tr Fm_refl hJ117 (by decide))⟩)
        · refine pw_aload0 C dX11_tries_125 ?_
          refine g_43_31 C fl_X11_68 dX11_tries_126 ?_
          refine pw_iload1 C dX11_tries_129 ?_
          refine pw_iload3 C dX11_tries_130 ?_
          refine pw_i2b C (c) (by rw [b_i2b (by omega), bmod_id (by omega)]) dX11_tries_131 ?_
          refine pw_bastore C lay_59 (by omega) (by decide) (by omega) dX11_tries_132 ?_
          refine pw_iconst C dX11_tries_133 ?_
          refine pw_istore4 C (by decide) dX11_tries_134 ?_
          have cut_136 : ∀ (fu : Nat) (w : Int) (M2 : Mem), Sm [57, 59] M1 M2 → (0 ≤ w ∧ w ≤ M 43 6) → (∀ i, 0 ≤ i → i < n → M2 59 i = M 59 i) → (M2 59 n = c) → (LnM (cfM M) (M2 59) (M2 57) n) → (∀ u, 0 ≤ u → u < w → M 46 u = 1 → ∀ k, 0 ≤ k → k ≤ M 43 7 → M2 57 (81 * u + 9 * (n + 1) + k) = edW (cfM M) (M2 59) u (n + 1) k) → (M 43 6 - w).toNat < fu → PW X K LAY 5 (0, 0) (Zv X K LAY (fun M' => (∀ i, 0 ≤ i → i < n → M' 59 i = M 59 i) ∧ (LnM (cfM M) (M' 59) (M' 57) n) ∧ (MiR (cfM M) (M' 43 30) (M' 43 29) (M' 58) sz ((vl (M 43 1) (M 59) n + 1) * M 43 1 ^ (sz - n).toNat)) ∧ Sm [43, 57, 58, 59] M M' ∧ Fm [29, 30] M M')) 136 [some (rV K 43), some (iV n), some (iV sz), some (iV c), some (iV w)] [] M2 := by
            intro fu
            induction fu with
            | zero => intro _ _ _ _ _ _ _ _ hm; exact absurd hm (Nat.not_lt_zero _)
            | succ fu ih =>
              intro w M2 hF136 hw t1 t2 t3 t4 hm
              have ih_136 := ih
              have hm_136 := hm
              have ec2 : cfM M2 = cfM M := by rw [← ec1]; exact cfM_e (congrFun (hF136 43 (by decide)) 1) (congrFun (hF136 43 (by decide)) 3) (congrFun (hF136 43 (by decide)) 4) (congrFun (hF136 43 (by decide)) 5) (congrFun (hF136 43 (by decide)) 6) (congrFun (hF136 43 (by decide)) 7) (congrFun (hF136 43 (by decide)) 10) (hF136 44 (by decide)) (hF136 45 (by decide)) (hF136 46 (by decide)) (hF136 47 (by decide)) (hF136 48 (by decide))
              have hx2 : ∀ i, 0 ≤ i → i < n + 1 → 0 ≤ M2 59 i ∧ M2 59 i < M 43 1 := fun i q1 q2 => by
                by_cases e : i = n
                · rw [e, t2]; omega
                · rw [t1 i q1 (by omega)]; exact hx i q1 (by omega)
              refine pw_iload4 C dX11_tries_136 ?_
              refine pw_aload0 C dX11_tries_138 ?_
              refine g_43_6 C fl_X11_85 dX11_tries_139 ?_
              refine pw_top C _ (congrFun (hF136 43 (by decide)) _) ?_
              refine pw_top C _ (hJ117 6 (by decide)) ?_
              refine pw_icmp_ge (tgt := 171) C dX11_tries_142 (by decide) (by omega) (by omega) (fun h142 => ?_) (fun h142 => ?_)
              · have t5 : LnM (cfM M) (M2 59) (M2 57) (n + 1) := fun u u1 u2 u3 i q1 q2 k k1 k2 => by
                  by_cases e : i = n + 1
                  · rw [e]; exact t4 u u1 (by have h9 : kW (cfM M) = M 43 6 := rfl; omega) u3 k k1 k2
                  · exact t3 u u1 u2 u3 i q1 (by omega) k k1 k2
                have ev : vl (M 43 1) (M2 59) (n + 1) = vl (M 43 1) (M 59) n * M 43 1 + c := by rw [vl_s (by omega), t2, vl_congr (n := n) t1 n (by omega) (Int.le_refl _)]
                have e43 : M2 43 = M1 43 := hF136 43 (by decide)
                have e1 : M2 43 1 = M 43 1 := by rw [e43]; exact hJ117 1 (by decide)
                refine pw_aload0 C dX11_tries_171 ?_
                refine pw_iload1 C dX11_tries_172 ?_
                refine pw_iconst C dX11_tries_173 ?_
                refine pw_iadd C dX11_tries_174 ?_
                refine pw_iload2 C dX11_tries_175 ?_
                have nz176_43 : M2 43 = M1 43 := (hF136 43 (by decide))
                have nz176_58 : M2 58 = M1 58 := (hF136 58 (by decide))
                refine pw_cVv2 C (c_X11_tries_7 _ K _ _ _ (9) (by rw [ec2]; exact hW) (hsz) (by omega) (by rw [e1]; exact hx2) (by rw [ec2]; exact t5) (by rw [ec2, em1, e1, ev, e43, hF136 58 (by decide)]; exact g3) (by decide) (by omega)) cb_X11_tries lay_43 kc_11 rfl ml_X11_204 dX11_tries_176 (by decide) (Nat.le_of_ble_eq_true rfl) (fun M176 hQ => ?_)
                obtain ⟨hx1_176, hl1_176, hm1_176, hF176, hJ176⟩ := hQ
                rw [ec2] at hl1_176 hm1_176
                rw [em1, e1, ev] at hm1_176
                refine pw_iinc3 C (by decide) dX11_tries_179 ?_
                refine pw_goto (tgt := 117) C dX11_tries_182 (by decide) ?_
                refine pw_fgt (fgt_k (fgt_k (fgt_k (fgt_k (fgt_no fgt_nil))))) ?_
                exact ih_117 _ _ (Sm_trans (Sm_trans (Sm_trans Sm_refl hF117 (by decide)) hF136 (by decide)) hF176 (by decide)) (Fm_tr (Fm_fr (Fm_tr Fm_refl hJ117 (by decide)) hF136 (by decide)) hJ176 (by decide)) (by omega) (by intro i q1 q2; rw [hx1_176 i q1 (by omega)]; exact t1 i q1 q2) (by exact LnM_d hl1_176 (by omega)) (by rw [← Int.add_assoc]; exact hm1_176) (by omega)
              · have hpw := wm_p hW w (by omega) (by omega)
                refine pw_aload0 C dX11_tries_145 ?_
                refine g_43_9 C fl_X11_27 dX11_tries_146 ?_
                refine pw_iload4 C dX11_tries_149 ?_
                refine pw_iaload C lay_46 (by omega) (by decide) dX11_tries_151 ?_
                refine pw_top C _ (congrFun (hF136 46 (by decide)) _) ?_
                refine pw_top C _ (congrFun (hF117 46 (by decide)) _) ?_
                refine pw_iconst C dX11_tries_152 ?_
                refine pw_icmp_ne (tgt := 165) C dX11_tries_153 (by decide) (by omega) (by omega) (fun h153 => ?_) (fun h153 => ?_)
                · refine pw_iinc4 C (by decide) dX11_tries_165 ?_
                  refine pw_goto (tgt := 136) C dX11_tries_168 (by decide) ?_
                  exact ih_136 _ _ (Sm_trans Sm_refl hF136 (by decide)) (by omega) (by first | exact t1 | (rw [hF162 59 (by decide)]; exact t1)) (by first | exact t2 | (rw [hF162 59 (by decide)]; exact t2)) (by
                        first
                          | exact t3
                          | (rw [hF162 59 (by decide)]
                             intro u u1 u2 u3 i q1 q2 k k1 k2
                             have h8 : kL (cfM M) = M 43 7 := rfl
                             rw [h1_162, if_neg (by omega)]
                             exact t3 u u1 u2 u3 i q1 q2 k k1 k2)) (by
                        intro u q1 q2 q3 k k1 k2
                        first
                          | exact t4 u q1 (by rcases Int.lt_or_eq_of_le (show u ≤ w by omega) with z | z; exact z; rw [z] at q3; omega) q3 k k1 k2
                          | (rw [h1_162, hF162 59 (by decide)]
                             by_cases e : u = w
                             · rw [e, if_pos (by omega), show 81 * w + 9 * (n + 1) + k - (81 * w + 9 * (n + 1)) = k by omega]
                             · rw [if_neg (by omega)]
                               exact t4 u q1 (by omega) q3 k k1 k2)) (by omega)
                · refine pw_aload0 C dX11_tries_156 ?_
                  refine pw_iload4 C dX11_tries_157 ?_
                  refine pw_iload1 C dX11_tries_159 ?_
                  refine pw_iconst C dX11_tries_160 ?_
                  refine pw_iadd C dX11_tries_161 ?_
                  have nz162_43 : M2 43 = M1 43 := (hF136 43 (by decide))
                  refine pw_cVv2 C (c_X11_goesOn _ K _ _ _ (by rw [ec2]; exact hW) (by rw [hF136 43 (by decide), hJ117 6 (by decide)]; omega) (by omega) (by intro i q1 q2; have := hx2 i q1 q2; omega) (by rw [hF136 43 (by decide), hJ117 7 (by decide), ec2, show n + 1 - 1 = n by omega]; exact t3 w (by omega) (by show w < M 43 6; omega) (by show M 46 w = 1; omega) n (by omega) (Int.le_refl _))) cb_X11_goesOn lay_43 kc_11 rfl ml_X11_201 dX11_tries_162 (by decide) (Nat.le_of_ble_eq_true rfl) (fun M162 hQ => ?_)
                  obtain ⟨h1_162, hF162⟩ := hQ
                  rw [ec2, hF136 43 (by decide), hJ117 7 (by decide)] at h1_162
                  refine pw_iinc4 C (by decide) dX11_tries_165 ?_
                  refine pw_goto (tgt := 136) C dX11_tries_168 (by decide) ?_
                  exact ih_136 _ _ (Sm_trans (Sm_trans Sm_refl hF136 (by decide)) hF162 (by decide)) (by omega) (by first | exact t1 | (rw [hF162 59 (by decide)]; exact t1)) (by first | exact t2 | (rw [hF162 59 (by decide)]; exact t2)) (by
                        first
                          | exact t3
                          | (rw [hF162 59 (by decide)]
                             intro u u1 u2 u3 i q1 q2 k k1 k2
                             have h8 : kL (cfM M) = M 43 7 := rfl
                             rw [h1_162, if_neg (by omega)]
                             exact t3 u u1 u2 u3 i q1 q2 k k1 k2)) (by
                        intro u q1 q2 q3 k k1 k2
                        first
                          | exact t4 u q1 (by rcases Int.lt_or_eq_of_le (show u ≤ w by omega) with z | z; exact z; rw [z] at q3; omega) q3 k k1 k2
                          | (rw [h1_162, hF162 59 (by decide)]
                             by_cases e : u = w
                             · rw [e, if_pos (by omega), show 81 * w + 9 * (n + 1) + k - (81 * w + 9 * (n + 1)) = k by omega]
                             · rw [if_neg (by omega)]
                               exact t4 u q1 (by omega) q3 k k1 k2)) (by omega)
          exact cut_136 _ _ _ (Sm_up Sm_refl (by decide)) (by omega) (by intro i q1 q2; rw [rd_ne (by omega)]; exact g1 i q1 q2) (by exact rd_eq) (by rw [up2_ne (show (57 : Nat) ≠ 59 by decide)]; exact LnM_x g2 (fun i q1 q2 => by rw [rd_ne (by omega)])) (by intro u q1 q2; omega) (Nat.lt_succ_self _)
    exact cut_117 _ _ _ Sm_refl Fm_refl (by omega) (by intro i _ _; rfl) (by exact hl) (by
          have e9 : vl (M 43 1) (M 59) n * M 43 1 ^ 8 = (vl (M 43 1) (M 59) n * M 43 1 + 0) * M 43 1 ^ 7 := pwl 7
          rw [← e9]; exact hmi) (Nat.lt_succ_self _)
  · exfalso; omega
theorem c_X11_tries_any (l : Launch) (K : KX) (M : Mem) (n sz : Int) (hW : WfK (cfM M)) (hsz : 1 ≤ sz ∧ sz ≤ 8) (hn : 0 ≤ n ∧ n ≤ sz) (hx : ∀ i, 0 ≤ i → i < n → 0 ≤ M 59 i ∧ M 59 i < M 43 1) (hl : LnM (cfM M) (M 59) (M 57) n) (hmi : MiR (cfM M) (M 43 30) (M 43 29) (M 58) sz (vl (M 43 1) (M 59) n * M 43 1 ^ (sz - n).toNat)) : MCv l K LAY yX11_tries cX11_tries 5 none  10 [rV K 43, iV n, iV sz] M (fun M' => (∀ i, 0 ≤ i → i < n → M' 59 i = M 59 i) ∧ (LnM (cfM M) (M' 59) (M' 57) n) ∧ (MiR (cfM M) (M' 43 30) (M' 43 29) (M' 58) sz ((vl (M 43 1) (M 59) n + 1) * M 43 1 ^ (sz - n).toNat)) ∧ Sm [43, 57, 58, 59] M M' ∧ Fm [29, 30] M M') := by
  have hc : sz - n = 0 ∨ sz - n = 1 ∨ sz - n = 2 ∨ sz - n = 3 ∨ sz - n = 4 ∨ sz - n = 5 ∨ sz - n = 6 ∨ sz - n = 7 ∨ sz - n = 8 := by omega
  rcases hc with hc | hc | hc | hc | hc | hc | hc | hc | hc
  · exact c_X11_tries_0 l K M n sz 10 hW hsz hn hx hl hmi (by decide) hc
  · exact c_X11_tries_1 l K M n sz 10 hW hsz hn hx hl hmi (by decide) hc
  · exact c_X11_tries_2 l K M n sz 10 hW hsz hn hx hl hmi (by decide) hc
  · exact c_X11_tries_3 l K M n sz 10 hW hsz hn hx hl hmi (by decide) hc
  · exact c_X11_tries_4 l K M n sz 10 hW hsz hn hx hl hmi (by decide) hc
  · exact c_X11_tries_5 l K M n sz 10 hW hsz hn hx hl hmi (by decide) hc
  · exact c_X11_tries_6 l K M n sz 10 hW hsz hn hx hl hmi (by decide) hc
  · exact c_X11_tries_7 l K M n sz 10 hW hsz hn hx hl hmi (by decide) hc
  · exact c_X11_tries_8 l K M n sz 10 hW hsz hn hx hl hmi (by decide) hc
