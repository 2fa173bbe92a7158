set_option maxHeartbeats 4000000 in
set_option maxRecDepth 100000 in
theorem c_X11_feed (l : Launch) (K : KX) (M : Mem) (a b c d e : Int) (ha : -2147483648 ≤ a ∧ a ≤ 2147483647) (hb : -2147483648 ≤ b ∧ b ≤ 2147483647) (hc : -2147483648 ≤ c ∧ c ≤ 2147483647) (hd : -2147483648 ≤ d ∧ d ≤ 2147483647) (he : -2147483648 ≤ e ∧ e ≤ 2147483647) (hts : 0 ≤ M 43 17 ∧ M 43 17 ≤ 40) : MCi l K LAY yX11_feed cX11_feed 8 (some .int) 2 [rV K 43, iV a, iV b, iV c, iV d, iV e] M (fun r M' => (if M 43 17 ≤ 20 then r = M 43 17 + 20 ∧ M' 43 17 = M 43 17 + 20 ∧ M' 43 0 = 0 ∧ (∀ j, M' 49 j = if M 43 17 ≤ j ∧ j < M 43 17 + 20 then by8 (if j - M 43 17 < 4 then a else if j - M 43 17 < 8 then b else if j - M 43 17 < 12 then c else if j - M 43 17 < 16 then d else e) (24 - 8 * ((j - M 43 17) % 4)) else M 49 j) else r = -1 ∧ M' = up2 M 43 0 0) ∧ Sm [43, 49] M M' ∧ Fm [0, 17] M M') := by
  refine mci_intro RX11 rfl [some (rV K 43), some (iV a), some (iV b), some (iV c), some (iV d), some (iV e), none, none] rfl (by decide +kernel) (cat_r (cat_i (cat_i (cat_i (cat_i (cat_i cat_nil)))))) (Nat.le_of_ble_eq_true rfl) (fun X hX C => ?_)
  subst hX
  refine pw_aload0 C dX11_feed_0 ?_
  refine pw_iconst C dX11_feed_1 ?_
  refine p_43_0 C fl_X11_1 dX11_feed_2 ?_
  refine pw_aload0 C dX11_feed_5 ?_
  refine g_43_17 C fl_X11_100 dX11_feed_6 ?_
  refine pw_top C _ (rd_ne (by decide)) ?_
  refine pw_bipush C dX11_feed_9 (by decide) ?_
  refine pw_iadd C dX11_feed_11 ?_
  refine pw_bipush C dX11_feed_12 (by decide) ?_
  refine pw_icmp_le (tgt := 19) C dX11_feed_14 (by decide) (by omega) (by omega) (fun h14 => ?_) (fun h14 => ?_)
  · refine pw_iconst C dX11_feed_19 ?_
    refine pw_istore6 C (by decide) dX11_feed_20 ?_
    have cut_22 : ∀ (fu : Nat) (k : Int) (M1 : Mem), Sm [43, 49] M M1 → Fm [0, 17] M M1 → (0 ≤ k ∧ k ≤ 20) → (M1 43 0 = 0) → (M1 43 17 = M 43 17 + k) → (∀ j, M1 49 j = if M 43 17 ≤ j ∧ j < M 43 17 + k then by8 (if j - M 43 17 < 4 then a else if j - M 43 17 < 8 then b else if j - M 43 17 < 12 then c else if j - M 43 17 < 16 then d else e) (24 - 8 * ((j - M 43 17) % 4)) else M 49 j) → (20 - k).toNat < fu → PW X K LAY 8 (0, 0) (Zi X K LAY (fun r M' => (if M 43 17 ≤ 20 then r = M 43 17 + 20 ∧ M' 43 17 = M 43 17 + 20 ∧ M' 43 0 = 0 ∧ (∀ j, M' 49 j = if M 43 17 ≤ j ∧ j < M 43 17 + 20 then by8 (if j - M 43 17 < 4 then a else if j - M 43 17 < 8 then b else if j - M 43 17 < 12 then c else if j - M 43 17 < 16 then d else e) (24 - 8 * ((j - M 43 17) % 4)) else M 49 j) else r = -1 ∧ M' = up2 M 43 0 0) ∧ Sm [43, 49] M M' ∧ Fm [0, 17] M M')) 22 [some (rV K 43), some (iV a), some (iV b), some (iV c), some (iV d), some (iV e), some (iV k), none] [] M1 := by
      intro fu
      induction fu with
      | zero => intro _ _ _ _ _ _ _ _ hm; exact absurd hm (Nat.not_lt_zero _)
      | succ fu ih =>
        intro k M1 hF22 hJ22 hk h0 h1 h2 hm
        have ih_22 := ih
        have hm_22 := hm
        refine pw_iload6 C dX11_feed_22 ?_
        refine pw_bipush C dX11_feed_24 (by decide) ?_
        refine pw_icmp_ge (tgt := 116) C dX11_feed_26 (by decide) (by omega) (by omega) (fun h26 => ?_) (fun h26 => ?_)
        · refine pw_aload0 C dX11_feed_116 ?_
          refine g_43_17 C fl_X11_100 dX11_feed_117 ?_
          exact pw_iretI C dX11_feed_120 (⟨by rw [if_pos (by omega)]; refine ⟨by omega, by omega, h0, fun j => ?_⟩; rw [h2 j, show k = 20 by omega], (Sm_trans Sm_refl hF22 (by decide)), (Fm_tr Fm_refl hJ22 (by decide))⟩)
        · have cut_75 : ∀  (v : Int), (v = (if k < 4 then a else if k < 8 then b else if k < 12 then c else if k < 16 then d else e)) → PW X K LAY 8 (0, 0) (Zi X K LAY (fun r M' => (if M 43 17 ≤ 20 then r = M 43 17 + 20 ∧ M' 43 17 = M 43 17 + 20 ∧ M' 43 0 = 0 ∧ (∀ j, M' 49 j = if M 43 17 ≤ j ∧ j < M 43 17 + 20 then by8 (if j - M 43 17 < 4 then a else if j - M 43 17 < 8 then b else if j - M 43 17 < 12 then c else if j - M 43 17 < 16 then d else e) (24 - 8 * ((j - M 43 17) % 4)) else M 49 j) else r = -1 ∧ M' = up2 M 43 0 0) ∧ Sm [43, 49] M M' ∧ Fm [0, 17] M M')) 75 [some (rV K 43), some (iV a), some (iV b), some (iV c), some (iV d), some (iV e), some (iV k), none] [iV v] M1 := by
            intro v hv
            have hvr : -2147483648 ≤ v ∧ v ≤ 2147483647 := by rw [hv]; (repeat' split) <;> omega
            refine pw_istore7 C (by decide) dX11_feed_75 ?_
            refine pw_aload0 C dX11_feed_77 ?_
            refine g_43_16 C fl_X11_36 dX11_feed_78 ?_
            refine pw_aload0 C dX11_feed_81 ?_
            refine g_43_17 C fl_X11_100 dX11_feed_82 ?_
            refine pw_iload7 C dX11_feed_85 ?_
            refine pw_bipush C dX11_feed_87 (by decide) ?_
            refine pw_bipush C dX11_feed_89 (by decide) ?_
            refine pw_iload6 C dX11_feed_91 ?_
            refine pw_iconst C dX11_feed_93 ?_
            refine pw_irem C (by omega) (by omega) dX11_feed_94 ?_
            refine pw_imul C dX11_feed_95 ?_
            refine pw_isub C dX11_feed_96 ?_
            refine pw_ishr C (v / 2 ^ (24 - 8 * (k % 4)).toNat) (b_shr hvr (by omega)) dX11_feed_97 ?_
            refine pw_i2b C (by8 v (24 - 8 * (k % 4))) (b_i2b (shr_rng hvr)) dX11_feed_98 ?_
            refine pw_bastore C lay_49 (by omega) (by decide) (by8_rng _ _) dX11_feed_99 ?_
            refine pw_aload0 C dX11_feed_100 ?_
            refine pw_dup C rfl dX11_feed_101 ?_
            refine g_43_17 C fl_X11_100 dX11_feed_102 ?_
            refine pw_top C _ (rd_nc (by decide)) ?_
            refine pw_iconst C dX11_feed_105 ?_
            refine pw_iadd C dX11_feed_106 ?_
            refine p_43_17 C fl_X11_100 dX11_feed_107 ?_
            refine pw_iinc6 C (by decide) dX11_feed_110 ?_
            refine pw_goto (tgt := 22) C dX11_feed_113 (by decide) ?_
            refine pw_fgt (fgt_k (fgt_k (fgt_k (fgt_k (fgt_k (fgt_k (fgt_k (fgt_no fgt_nil)))))))) ?_
            exact ih_22 _ _ (Sm_up (Sm_up (Sm_trans Sm_refl hF22 (by decide)) (by decide)) (by decide)) (Fm_up (Fm_nc (Fm_tr Fm_refl hJ22 (by decide)) (by decide)) (by decide)) (by omega) (by rw [rd_ne (by decide), rd_nc (by decide)]; exact h0) (by rw [rd_eq, h1]; omega) (by
                  intro j
                  rw [rd_nc (by decide), h1]
                  by_cases q : j = M 43 17 + k
                  · rw [q, rd_eq, if_pos (by omega), show M 43 17 + k - M 43 17 = k by omega, hv]
                  · rw [rd_ne q, h2 j]
                    by_cases q2 : M 43 17 ≤ j ∧ j < M 43 17 + k
                    · rw [if_pos q2, if_pos (show M 43 17 ≤ j ∧ j < M 43 17 + (k + 1) by omega)]
                    · rw [if_neg q2, if_neg (show ¬ (M 43 17 ≤ j ∧ j < M 43 17 + (k + 1)) by omega)]) (by omega)
          refine pw_iload6 C dX11_feed_29 ?_
          refine pw_iconst C dX11_feed_31 ?_
          refine pw_icmp_ge (tgt := 39) C dX11_feed_32 (by decide) (by omega) (by omega) (fun h32 => ?_) (fun h32 => ?_)
          · refine pw_iload6 C dX11_feed_39 ?_
            refine pw_bipush C dX11_feed_41 (by decide) ?_
            refine pw_icmp_ge (tgt := 50) C dX11_feed_43 (by decide) (by omega) (by omega) (fun h43 => ?_) (fun h43 => ?_)
            · refine pw_iload6 C dX11_feed_50 ?_
              refine pw_bipush C dX11_feed_52 (by decide) ?_
              refine pw_icmp_ge (tgt := 61) C dX11_feed_54 (by decide) (by omega) (by omega) (fun h54 => ?_) (fun h54 => ?_)
              · refine pw_iload6 C dX11_feed_61 ?_
                refine pw_bipush C dX11_feed_63 (by decide) ?_
                refine pw_icmp_ge (tgt := 73) C dX11_feed_65 (by decide) (by omega) (by omega) (fun h65 => ?_) (fun h65 => ?_)
                · refine pw_iload5 C dX11_feed_73 ?_
                  exact cut_75 _ (by rw [if_neg (by omega), if_neg (by omega), if_neg (by omega), if_neg (by omega)])
                · refine pw_iload4 C dX11_feed_68 ?_
                  refine pw_goto (tgt := 75) C dX11_feed_70 (by decide) ?_
                  exact cut_75 _ (by rw [if_neg (by omega), if_neg (by omega), if_neg (by omega), if_pos (by omega)])
              · refine pw_iload3 C dX11_feed_57 ?_
                refine pw_goto (tgt := 75) C dX11_feed_58 (by decide) ?_
                exact cut_75 _ (by rw [if_neg (by omega), if_neg (by omega), if_pos (by omega)])
            · refine pw_iload2 C dX11_feed_46 ?_
              refine pw_goto (tgt := 75) C dX11_feed_47 (by decide) ?_
              exact cut_75 _ (by rw [if_neg (by omega), if_pos (by omega)])
          · refine pw_iload1 C dX11_feed_35 ?_
            refine pw_goto (tgt := 75) C dX11_feed_36 (by decide) ?_
            exact cut_75 _ (by rw [if_pos (by omega)])
    exact cut_22 _ _ _ (Sm_up Sm_refl (by decide)) (Fm_up Fm_refl (by decide)) (by omega) (by exact rd_eq) (by rw [rd_ne (by decide)]; omega) (by intro j; rw [rd_nc (by decide), if_neg (by omega)]) (Nat.lt_succ_self _)
  · refine pw_iconst C dX11_feed_17 ?_
    exact pw_iretI C dX11_feed_18 (⟨by rw [if_neg (by omega)]; exact ⟨rfl, rfl⟩, (Sm_up Sm_refl (by decide)), (Fm_up Fm_refl (by decide))⟩)
set_option maxHeartbeats 4000000 in
set_option maxRecDepth 100000 in
theorem c_X11_takes (l : Launch) (K : KX) (M : Mem) (lo hi : Int) (hlo : -2147483648 ≤ lo ∧ lo ≤ 2147483647) (hhi : -2147483648 ≤ hi ∧ hi ≤ 2147483647) (hl : 2 ≤ M 43 1 ∧ M 43 1 ≤ 4) (hts : 0 ≤ M 43 17 ∧ M 43 17 ≤ 40) (htb : ∀ j, 0 ≤ j → j < M 43 17 → -128 ≤ M 49 j ∧ M 49 j ≤ 127) : MCi l K LAY yX11_takes cX11_takes 5 (some .boolean) 2 [rV K 43, iV lo, iV hi] M (fun r M' => (M' 43 17 = 0) ∧ (M' 43 19 = M 43 17) ∧ (∀ j, 0 ≤ j → j < M 43 17 → M' 50 j = (M 49 j - 97).bmod 256) ∧ ((((lo ≤ M 43 17 ∧ M 43 17 ≤ hi) ∧ allL (M 49) (M 43 1) (M 43 17)) ∧ r = 1) ∨ (¬ ((lo ≤ M 43 17 ∧ M 43 17 ≤ hi) ∧ allL (M 49) (M 43 1) (M 43 17)) ∧ r = 0)) ∧ Sm [43, 50] M M' ∧ Fm [17, 19] M M') := by
  refine mci_intro RX11 rfl [some (rV K 43), some (iV lo), some (iV hi), none, none] rfl (by decide +kernel) (cat_r (cat_i (cat_i cat_nil))) (Nat.le_of_ble_eq_true rfl) (fun X hX C => ?_)
  subst hX
  refine pw_aload0 C dX11_takes_0 ?_
  refine pw_aload0 C dX11_takes_1 ?_
  refine g_43_17 C fl_X11_100 dX11_takes_2 ?_
  refine p_43_19 C fl_X11_103 dX11_takes_5 ?_
  refine pw_aload0 C dX11_takes_8 ?_
  refine pw_iconst C dX11_takes_9 ?_
  refine p_43_17 C fl_X11_100 dX11_takes_10 ?_
  refine pw_aload0 C dX11_takes_13 ?_
  refine g_43_19 C fl_X11_103 dX11_takes_14 ?_
  refine pw_top C _ (rd_ne (by decide)) ?_
  refine pw_top C _ rd_eq ?_
  refine pw_iload1 C dX11_takes_17 ?_
  refine pw_iload2 C dX11_takes_18 ?_
  refine pw_cSi3 C (c_X11_within _ K _ _ _ _ (by omega) (by omega) (by omega)) cb_X11_within ml_X11_81 dX11_takes_19 (by decide) (Nat.le_of_ble_eq_true rfl) (fun r19 M19 hQ => ?_)
  obtain ⟨rfl, hMe⟩ := hQ
  replace hMe := hMe.symm
  subst hMe
  refine pw_istore3 C (by decide) dX11_takes_22 ?_
  refine pw_iconst C dX11_takes_23 ?_
  refine pw_istore4 C (by decide) dX11_takes_24 ?_
  have cut_26 : ∀ (fu : Nat) (g k : Int) (M1 : Mem), Sm [43, 50] M M1 → Fm [17, 19] M M1 → (0 ≤ k ∧ k ≤ M 43 17) → (M1 43 17 = 0) → (M1 43 19 = M 43 17) → (∀ j, 0 ≤ j → j < k → M1 50 j = (M 49 j - 97).bmod 256) → ((((lo ≤ M 43 17 ∧ M 43 17 ≤ hi) ∧ allL (M 49) (M 43 1) k) ∧ g = 1) ∨ (¬ ((lo ≤ M 43 17 ∧ M 43 17 ≤ hi) ∧ allL (M 49) (M 43 1) k) ∧ g = 0)) → (M 43 17 - k).toNat < fu → PW X K LAY 5 (0, 0) (Zi X K LAY (fun r M' => (M' 43 17 = 0) ∧ (M' 43 19 = M 43 17) ∧ (∀ j, 0 ≤ j → j < M 43 17 → M' 50 j = (M 49 j - 97).bmod 256) ∧ ((((lo ≤ M 43 17 ∧ M 43 17 ≤ hi) ∧ allL (M 49) (M 43 1) (M 43 17)) ∧ r = 1) ∨ (¬ ((lo ≤ M 43 17 ∧ M 43 17 ≤ hi) ∧ allL (M 49) (M 43 1) (M 43 17)) ∧ r = 0)) ∧ Sm [43, 50] M M' ∧ Fm [17, 19] M M')) 26 [some (rV K 43), some (iV lo), some (iV hi), some (iV g), some (iV k)] [] M1 := by
    intro fu
    induction fu with
    | zero => intro _ _ _ _ _ _ _ _ _ _ hm; exact absurd hm (Nat.not_lt_zero _)
    | succ fu ih =>
      intro g k M1 hF26 hJ26 hk q1 q2 q3 hg hm
      have ih_26 := ih
      have hm_26 := hm
      refine pw_iload4 C dX11_takes_26 ?_
      refine pw_aload0 C dX11_takes_28 ?_
      refine g_43_19 C fl_X11_103 dX11_takes_29 ?_
      refine pw_top C (M 43 17) q2 ?_
      refine pw_icmp_ge (tgt := 93) C dX11_takes_32 (by decide) (by omega) (by omega) (fun h32 => ?_) (fun h32 => ?_)
      · refine pw_iload3 C dX11_takes_93 ?_
        exact pw_zretI C dX11_takes_94 (by rcases hg with q | q; exact Or.inr q.2; exact Or.inl q.2) (⟨by exact q1, by exact q2, by intro j z1 z2; exact q3 j z1 (by omega), by rw [show k = M 43 17 by omega] at hg; exact hg, (Sm_trans Sm_refl hF26 (by decide)), (Fm_tr Fm_refl hJ26 (by decide))⟩)
      · have hbk := htb k (by omega) (by omega)
        have hg01 : g = 0 ∨ g = 1 := hg.elim (fun h => Or.inr h.2) (fun h => Or.inl h.2)
        have cut_68 : ∀  (g2 : Int), ((((lo ≤ M 43 17 ∧ M 43 17 ≤ hi) ∧ allL (M 49) (M 43 1) (k + 1)) ∧ g2 = 1) ∨ (¬ ((lo ≤ M 43 17 ∧ M 43 17 ≤ hi) ∧ allL (M 49) (M 43 1) (k + 1)) ∧ g2 = 0)) → PW X K LAY 5 (0, 0) (Zi X K LAY (fun r M' => (M' 43 17 = 0) ∧ (M' 43 19 = M 43 17) ∧ (∀ j, 0 ≤ j → j < M 43 17 → M' 50 j = (M 49 j - 97).bmod 256) ∧ ((((lo ≤ M 43 17 ∧ M 43 17 ≤ hi) ∧ allL (M 49) (M 43 1) (M 43 17)) ∧ r = 1) ∨ (¬ ((lo ≤ M 43 17 ∧ M 43 17 ≤ hi) ∧ allL (M 49) (M 43 1) (M 43 17)) ∧ r = 0)) ∧ Sm [43, 50] M M' ∧ Fm [17, 19] M M')) 68 [some (rV K 43), some (iV lo), some (iV hi), some (iV g), some (iV k)] [iV g2] M1 := by
          intro g2 hg2
          refine pw_istore3 C (by decide) dX11_takes_68 ?_
          refine pw_aload0 C dX11_takes_69 ?_
          refine g_43_18 C fl_X11_39 dX11_takes_70 ?_
          refine pw_iload4 C dX11_takes_73 ?_
          refine pw_aload0 C dX11_takes_75 ?_
          refine g_43_16 C fl_X11_36 dX11_takes_76 ?_
          refine pw_iload4 C dX11_takes_79 ?_
          refine pw_baload C lay_49 (by omega) (by decide) dX11_takes_81 ?_
          refine pw_top C _ (congrFun (hF26 49 (by decide)) _) ?_
          refine pw_bipush C dX11_takes_82 (by decide) ?_
          refine pw_isub C dX11_takes_84 ?_
          refine pw_i2b C ((M 49 k - 97).bmod 256) (b_i2b (by omega)) dX11_takes_85 ?_
          refine pw_bastore C lay_50 (by omega) (by decide) (bmod_rng _) dX11_takes_86 ?_
          refine pw_iinc4 C (by decide) dX11_takes_87 ?_
          refine pw_goto (tgt := 26) C dX11_takes_90 (by decide) ?_
          exact ih_26 _ _ _ (Sm_up (Sm_trans Sm_refl hF26 (by decide)) (by decide)) (Fm_nc (Fm_tr Fm_refl hJ26 (by decide)) (by decide)) (by omega) (by rw [rd_nc (by decide)]; exact q1) (by rw [rd_nc (by decide)]; exact q2) (by
                intro j z1 z2
                by_cases z : j = k
                · rw [z]; exact rd_eq
                · rw [rd_ne z]; exact q3 j z1 (by omega)) (by exact hg2) (by omega)
        refine pw_iload3 C dX11_takes_35 ?_
        refine pw_if_eq (tgt := 67) C dX11_takes_36 (by decide) (by omega) (fun h36 => ?_) (fun h36 => ?_)
        · refine pw_iconst C dX11_takes_67 ?_
          exact cut_68 _ (by first | (refine Or.inr ⟨fun h => ?_, rfl⟩; rcases hg with q | q; omega; exact q.1 ⟨h.1, fun j z1 z2 => h.2 j z1 (by omega)⟩) | exact Or.inr ⟨fun h => by have := h.2 k (by omega) (by omega); omega, rfl⟩)
        · refine pw_aload0 C dX11_takes_39 ?_
          refine g_43_16 C fl_X11_36 dX11_takes_40 ?_
          refine pw_iload4 C dX11_takes_43 ?_
          refine pw_baload C lay_49 (by omega) (by decide) dX11_takes_45 ?_
          refine pw_top C _ (congrFun (hF26 49 (by decide)) _) ?_
          refine pw_bipush C dX11_takes_46 (by decide) ?_
          refine pw_bipush C dX11_takes_48 (by decide) ?_
          refine pw_aload0 C dX11_takes_50 ?_
          refine g_43_1 C fl_X11_13 dX11_takes_51 ?_
          refine pw_top C _ (hJ26 1 (by decide)) ?_
          refine pw_iadd C dX11_takes_54 ?_
          refine pw_iconst C dX11_takes_55 ?_
          refine pw_isub C dX11_takes_56 ?_
          refine pw_cSi3 C (c_X11_within _ K _ _ _ _ (by omega) (by omega) (by omega)) cb_X11_within ml_X11_81 dX11_takes_57 (by decide) (Nat.le_of_ble_eq_true rfl) (fun r57 M57 hQ => ?_)
          obtain ⟨rfl, hMe⟩ := hQ
          replace hMe := hMe.symm
          subst hMe
          refine pw_if_eq (tgt := 67) C dX11_takes_60 (by decide) (by split <;> omega) (fun h60 => ?_) (fun h60 => ?_)
          · have e60 : ¬ (97 ≤ M 49 k ∧ M 49 k ≤ 97 + M 43 1 - 1) := fun h => by rw [if_pos h] at h60; omega
            refine pw_iconst C dX11_takes_67 ?_
            exact cut_68 _ (by first | (refine Or.inr ⟨fun h => ?_, rfl⟩; rcases hg with q | q; omega; exact q.1 ⟨h.1, fun j z1 z2 => h.2 j z1 (by omega)⟩) | exact Or.inr ⟨fun h => by have := h.2 k (by omega) (by omega); omega, rfl⟩)
          · have e60 : (97 ≤ M 49 k ∧ M 49 k ≤ 97 + M 43 1 - 1) := Decidable.byContradiction fun h => by rw [if_neg h] at h60; omega
            refine pw_iconst C dX11_takes_63 ?_
            refine pw_goto (tgt := 68) C dX11_takes_64 (by decide) ?_
            exact cut_68 _ (by
                  refine Or.inl ⟨?_, rfl⟩
                  rcases hg with q | q
                  · refine ⟨q.1.1, fun j z1 z2 => ?_⟩
                    by_cases z : j = k
                    · rw [z]; omega
                    · exact q.1.2 j z1 (by omega)
                  · omega)
  exact cut_26 _ _ _ _ (Sm_up (Sm_up Sm_refl (by decide)) (by decide)) (Fm_up (Fm_up Fm_refl (by decide)) (by decide)) (by omega) (by exact rd_eq) (by rw [rd_ne (by decide)]; exact rd_eq) (by intro j q1 q2; omega) (by
        by_cases q : lo ≤ M 43 17 ∧ M 43 17 ≤ hi
        · rw [if_pos q]; exact Or.inl ⟨⟨q, fun j q1 q2 => by omega⟩, rfl⟩
        · rw [if_neg q]; exact Or.inr ⟨fun h => q h.1, rfl⟩) (Nat.lt_succ_self _)
