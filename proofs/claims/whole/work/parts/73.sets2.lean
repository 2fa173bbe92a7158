set_option maxHeartbeats 4000000 in
set_option maxRecDepth 100000 in
theorem c_X4_sortByDistance (l : Launch) (K : KX) (M : Mem) (wh : Int) (hwh : 0 ≤ wh ∧ wh ≤ 56) (hn : 0 ≤ M 12 2 ∧ M 12 2 ≤ 8) (hP : PermO (M 28) (M 12 2)) (hD : ∀ t, 0 ≤ t → t < M 12 2 → 0 ≤ M 17 (wh + t) ∧ M 17 (wh + t) ≤ 63) : MCv l K LAY yX4_sortByDistance cX4_sortByDistance 7 none 1 [rV K 24, rV K 17, iV wh] M (fun M' => (PermO (M' 28) (M 12 2)) ∧ (SrtO (fun t => M 17 (wh + t)) (M' 28) (M 12 2)) ∧ Sm [28] M M') := by
  refine mcv_intro RX4 rfl [some (rV K 24), some (rV K 17), some (iV wh), none, none, none, none] rfl (by decide +kernel) (cat_r (cat_r (cat_i cat_nil))) (Nat.le_of_ble_eq_true rfl) (fun X hX C => ?_)
  subst hX
  refine pw_iconst C dX4_sortByDistance_0 ?_
  refine pw_istore3 C (by decide) dX4_sortByDistance_1 ?_
  have cut_2 : ∀ (fu : Nat) (i : Int) (M1 : Mem), Sm [28] M M1 → (1 ≤ i ∧ (i ≤ M 12 2 ∨ (i = 1 ∧ M 12 2 = 0))) → (PermO (M1 28) (M 12 2)) → (SrtO (fun t => M 17 (wh + t)) (M1 28) i) → (M 12 2 + 1 - i).toNat < fu → PW X K LAY 7 (0, 0) (Zv X K LAY (fun M' => (PermO (M' 28) (M 12 2)) ∧ (SrtO (fun t => M 17 (wh + t)) (M' 28) (M 12 2)) ∧ Sm [28] M M')) 2 [some (rV K 24), some (rV K 17), some (iV wh), some (iV i), none, none, none] [] M1 := by
    intro fu
    induction fu with
    | zero => intro _ _ _ _ _ _ hm; exact absurd hm (Nat.not_lt_zero _)
    | succ fu ih =>
      intro i M1 hF2 hi g1 g2 hm
      have ih_2 := ih
      have hm_2 := hm
      refine pw_iload3 C dX4_sortByDistance_2 ?_
      refine pw_aload0 C dX4_sortByDistance_3 ?_
      refine g_24_2 C fl_X4_32 dX4_sortByDistance_4 ?_
      refine g_12_2 C fl_X4_66 dX4_sortByDistance_7 ?_
      refine pw_top C _ (congrFun (hF2 12 (by decide)) _) ?_
      refine pw_icmp_ge (tgt := 94) C dX4_sortByDistance_10 (by decide) (by omega) (by omega) (fun h10 => ?_) (fun h10 => ?_)
      · exact pw_vretV C dX4_sortByDistance_94 (⟨by exact g1, by intro x y q1 q2 q3; exact g2 x y q1 q2 (by omega), (Sm_trans Sm_refl hF2 (by decide))⟩)
      · have hOi := g1.1 i (by omega) (by omega)
        have hDi := hD (M1 28 i) hOi.1 hOi.2
        refine pw_aload0 C dX4_sortByDistance_13 ?_
        refine g_24_5 C fl_X4_25 dX4_sortByDistance_14 ?_
        refine pw_iload3 C dX4_sortByDistance_17 ?_
        refine pw_iaload C lay_28 (by omega) (by decide) dX4_sortByDistance_18 ?_
        refine pw_istore4 C (by decide) dX4_sortByDistance_19 ?_
        refine pw_aload1 C dX4_sortByDistance_21 ?_
        refine pw_iload2 C dX4_sortByDistance_22 ?_
        refine pw_iload4 C dX4_sortByDistance_23 ?_
        refine pw_iadd C dX4_sortByDistance_25 ?_
        refine pw_iaload C lay_17 (by omega) (by decide) dX4_sortByDistance_26 ?_
        refine pw_top C _ (congrFun (hF2 17 (by decide)) _) ?_
        refine pw_istore5 C (by decide) dX4_sortByDistance_27 ?_
        refine pw_iload3 C dX4_sortByDistance_29 ?_
        refine pw_iconst C dX4_sortByDistance_30 ?_
        refine pw_isub C dX4_sortByDistance_31 ?_
        refine pw_istore6 C (by decide) dX4_sortByDistance_32 ?_
        have cut_34 : ∀ (fu : Nat) (j : Int) (M2 : Mem), Sm [28] M M2 → (-1 ≤ j ∧ j < i) → (∀ x, (x ≤ j ∨ i < x) → M2 28 x = M1 28 x) → (∀ x, j + 1 < x → x ≤ i → M2 28 x = M1 28 (x - 1)) → (∀ x, j < x → x < i → M 17 (wh + M1 28 i) < M 17 (wh + M1 28 x)) → (j + 1).toNat < fu → PW X K LAY 7 (0, 0) (Zv X K LAY (fun M' => (PermO (M' 28) (M 12 2)) ∧ (SrtO (fun t => M 17 (wh + t)) (M' 28) (M 12 2)) ∧ Sm [28] M M')) 34 [some (rV K 24), some (rV K 17), some (iV wh), some (iV i), some (iV (M1 28 i)), some (iV (M 17 (wh + M1 28 i))), some (iV j)] [] M2 := by
          intro fu
          induction fu with
          | zero => intro _ _ _ _ _ _ _ hm; exact absurd hm (Nat.not_lt_zero _)
          | succ fu ih =>
            intro j M2 hF34 hj k1 k2 k3 hm
            have ih_34 := ih
            have hm_34 := hm
            refine pw_iload6 C dX4_sortByDistance_34 ?_
            refine pw_if_lt (tgt := 77) C dX4_sortByDistance_36 (by decide) (by omega) (fun h36 => ?_) (fun h36 => ?_)
            · have hlj : 0 ≤ j → M 17 (wh + M1 28 j) ≤ M 17 (wh + M1 28 i) := fun h => by omega
              refine pw_aload0 C dX4_sortByDistance_77 ?_
              refine g_24_5 C fl_X4_25 dX4_sortByDistance_78 ?_
              refine pw_iload6 C dX4_sortByDistance_81 ?_
              refine pw_iconst C dX4_sortByDistance_83 ?_
              refine pw_iadd C dX4_sortByDistance_84 ?_
              refine pw_iload4 C dX4_sortByDistance_85 ?_
              refine pw_iastore C lay_28 (by omega) (by decide) dX4_sortByDistance_87 ?_
              refine pw_iinc3 C (by decide) dX4_sortByDistance_88 ?_
              refine pw_goto (tgt := 2) C dX4_sortByDistance_91 (by decide) ?_
              refine pw_fgt (fgt_k (fgt_k (fgt_k (fgt_k (fgt_no (fgt_no (fgt_no fgt_nil))))))) ?_
              have hins : ∀ x, (up2 M2 28 (j + 1) (M1 28 i)) 28 x = if x = j + 1 then M1 28 i else if j + 1 < x ∧ x ≤ i then M1 28 (x - 1) else M1 28 x := by
                intro x
                rw [rd_if]
                by_cases e : x = j + 1
                · rw [if_pos e, if_pos e]
                · rw [if_neg e, if_neg e]
                  by_cases g : j + 1 < x ∧ x ≤ i
                  · rw [if_pos g]; exact k2 x g.1 g.2
                  · rw [if_neg g]; exact k1 x (by omega)
              exact ih_2 _ _ (Sm_up (Sm_trans Sm_refl hF34 (by decide)) (by decide)) (by omega) (by exact ins_perm g1 (by omega) hj hins) (by exact ins_sort (D := (fun t => M 17 (wh + t))) (by omega) hj g2 k3 hlj hins) (by omega)
            · have hOj := g1.1 j (by omega) (by omega)
              have hDj := hD (M1 28 j) hOj.1 hOj.2
              refine pw_aload1 C dX4_sortByDistance_39 ?_
              refine pw_iload2 C dX4_sortByDistance_40 ?_
              refine pw_aload0 C dX4_sortByDistance_41 ?_
              refine g_24_5 C fl_X4_25 dX4_sortByDistance_42 ?_
              refine pw_iload6 C dX4_sortByDistance_45 ?_
              refine pw_iaload C lay_28 (by omega) (by decide) dX4_sortByDistance_47 ?_
              refine pw_top C (M1 28 j) (k1 j (by omega)) ?_
              refine pw_iadd C dX4_sortByDistance_48 ?_
              refine pw_iaload C lay_17 (by omega) (by decide) dX4_sortByDistance_49 ?_
              refine pw_top C _ (congrFun (hF34 17 (by decide)) _) ?_
              refine pw_iload5 C dX4_sortByDistance_50 ?_
              refine pw_icmp_le (tgt := 77) C dX4_sortByDistance_52 (by decide) (by omega) (by omega) (fun h52 => ?_) (fun h52 => ?_)
              · have hlj : 0 ≤ j → M 17 (wh + M1 28 j) ≤ M 17 (wh + M1 28 i) := fun h => by omega
                refine pw_aload0 C dX4_sortByDistance_77 ?_
                refine g_24_5 C fl_X4_25 dX4_sortByDistance_78 ?_
                refine pw_iload6 C dX4_sortByDistance_81 ?_
                refine pw_iconst C dX4_sortByDistance_83 ?_
                refine pw_iadd C dX4_sortByDistance_84 ?_
                refine pw_iload4 C dX4_sortByDistance_85 ?_
                refine pw_iastore C lay_28 (by omega) (by decide) dX4_sortByDistance_87 ?_
                refine pw_iinc3 C (by decide) dX4_sortByDistance_88 ?_
                refine pw_goto (tgt := 2) C dX4_sortByDistance_91 (by decide) ?_
                refine pw_fgt (fgt_k (fgt_k (fgt_k (fgt_k (fgt_no (fgt_no (fgt_no fgt_nil))))))) ?_
                have hins : ∀ x, (up2 M2 28 (j + 1) (M1 28 i)) 28 x = if x = j + 1 then M1 28 i else if j + 1 < x ∧ x ≤ i then M1 28 (x - 1) else M1 28 x := by
                  intro x
                  rw [rd_if]
                  by_cases e : x = j + 1
                  · rw [if_pos e, if_pos e]
                  · rw [if_neg e, if_neg e]
                    by_cases g : j + 1 < x ∧ x ≤ i
                    · rw [if_pos g]; exact k2 x g.1 g.2
                    · rw [if_neg g]; exact k1 x (by omega)
                exact ih_2 _ _ (Sm_up (Sm_trans Sm_refl hF34 (by decide)) (by decide)) (by omega) (by exact ins_perm g1 (by omega) hj hins) (by exact ins_sort (D := (fun t => M 17 (wh + t))) (by omega) hj g2 k3 hlj hins) (by omega)
              · refine pw_aload0 C dX4_sortByDistance_55 ?_
                refine g_24_5 C fl_X4_25 dX4_sortByDistance_56 ?_
                refine pw_iload6 C dX4_sortByDistance_59 ?_
                refine pw_iconst C dX4_sortByDistance_61 ?_
                refine pw_iadd C dX4_sortByDistance_62 ?_
                refine pw_aload0 C dX4_sortByDistance_63 ?_
                refine g_24_5 C fl_X4_25 dX4_sortByDistance_64 ?_
                refine pw_iload6 C dX4_sortByDistance_67 ?_
                refine pw_iaload C lay_28 (by omega) (by decide) dX4_sortByDistance_69 ?_
                refine pw_top C (M1 28 j) (k1 j (by omega)) ?_
                refine pw_iastore C lay_28 (by omega) (by decide) dX4_sortByDistance_70 ?_
                refine pw_iinc6 C (by decide) dX4_sortByDistance_71 ?_
                refine pw_goto (tgt := 34) C dX4_sortByDistance_74 (by decide) ?_
                exact ih_34 _ _ (Sm_up (Sm_trans Sm_refl hF34 (by decide)) (by decide)) (by omega) (by intro x q; rw [rd_ne (by omega)]; exact k1 x (by omega)) (by
                      intro x q1 q2
                      by_cases e : x = j + 1
                      · rw [e, rd_eq, show j + 1 - 1 = j by omega]
                      · rw [rd_ne e]; exact k2 x (by omega) q2) (by
                      intro x q1 q2
                      by_cases e : x = j
                      · rw [e]; exact h52
                      · exact k3 x (by omega) q2) (by omega)
        exact cut_34 _ _ _ (Sm_trans Sm_refl hF2 (by decide)) (by omega) (by intro x q; rfl) (by intro x q1 q2; omega) (by intro x q1 q2; omega) (Nat.lt_succ_self _)
  exact cut_2 _ _ _ Sm_refl (by omega) (by exact hP) (by intro x y q1 q2 q3; rw [show x = y by omega]; exact Int.le_refl _) (Nat.lt_succ_self _)
theorem b_key {d p : Int} (hd : 0 ≤ d ∧ d ≤ 63) (hp : 0 ≤ p ∧ p ≤ 16383) : Int32.ofInt (d * 2 ^ (14 : Int).toNat) ||| Int32.ofInt p = Int32.ofInt (d * 16384 + p) := by
  have e0 : (2 : Int) ^ (14 : Int).toNat = 16384 := by decide
  rw [e0, b_or (by omega) hp.1]
  congr 1
  obtain ⟨x, rfl⟩ := Int.eq_ofNat_of_zero_le hd.1
  obtain ⟨y, rfl⟩ := Int.eq_ofNat_of_zero_le hp.1
  have e1 : ((x : Int) * 16384).toNat = 2 ^ 14 * x := by omega
  rw [e1, Int.toNat_natCast, ← Nat.two_pow_add_eq_or_of_lt (show y < 2 ^ 14 by omega) x]
  omega
set_option maxHeartbeats 4000000 in
set_option maxRecDepth 100000 in
theorem c_X4_holdNearest (l : Launch) (K : KX) (M : Mem) (wd : Int → Int) (hwd : M 15 4 = 8) (hlen : 0 ≤ M 15 0 ∧ M 15 0 ≤ 7) (hn : 0 ≤ M 12 2 ∧ M 12 2 ≤ 8) (hP : PermO (M 28) (M 12 2)) (hS : SrtO (fun t => M 17 (M 15 0 * 8 + t)) (M 28) (M 12 2)) (hD : ∀ t, 0 ≤ t → t < M 12 2 → 0 ≤ M 17 (M 15 0 * 8 + t) ∧ M 17 (M 15 0 * 8 + t) ≤ 63) (hw : ∀ t, 0 ≤ t → t < M 12 2 → 0 ≤ wd t ∧ wd t < 8) (hb : ∀ t, 0 ≤ t → t < M 12 2 → M 13 t = 1 * 2 ^ (wd t).toNat) (hpk : 0 ≤ M 19 (M 15 0) ∧ M 19 (M 15 0) ≤ 16383) (hky : ∀ S, 0 ≤ S → S < 256 → 0 ≤ M 26 S ∧ M 26 S ≤ 2147483647) : MCv l K LAY yX4_holdNearest cX4_holdNearest 6 none 2 [rV K 24, rV K 15] M (fun M' => (Snd (M 26) (M' 26) wd (fun t => M 17 (M 15 0 * 8 + t)) (M 12 2) (M 19 (M 15 0))) ∧ (Dec (M 26) (M' 26)) ∧ (∃ A, (0 ≤ A ∧ A < 256) ∧ Cmp (M' 26) wd (fun t => M 17 (M 15 0 * 8 + t)) (M 12 2) (M 19 (M 15 0)) A ∧ Bts wd (M 28) (M 12 2) A) ∧ (∀ S, 0 ≤ S → S < 256 → 0 ≤ M' 26 S ∧ M' 26 S ≤ 2147483647) ∧ Sm [26] M M') := by
  refine mcv_intro RX4 rfl [some (rV K 24), some (rV K 15), none, none, none, none] rfl (by decide +kernel) (cat_r (cat_r cat_nil)) (Nat.le_of_ble_eq_true rfl) (fun X hX C => ?_)
  subst hX
  refine pw_aload1 C dX4_holdNearest_0 ?_
  refine pw_cVi0 C (c_X8_whole _ K _ ) cb_X8_whole lay_15 kc_8 rfl ml_X4_82 dX4_holdNearest_1 (by decide) (Nat.le_of_ble_eq_true rfl) (fun r1 M1 hQ => ?_)
  obtain ⟨rfl, hMe⟩ := hQ
  replace hMe := hMe.symm
  subst hMe
  refine pw_top C (M 15 0 * 8) (by rw [hwd]) ?_
  refine pw_istore2 C (by decide) dX4_holdNearest_4 ?_
  refine pw_aload1 C dX4_holdNearest_5 ?_
  refine pw_cVi0 C (c_X8_packedRow _ K _ (hlen)) cb_X8_packedRow lay_15 kc_8 rfl ml_X4_99 dX4_holdNearest_6 (by decide) (Nat.le_of_ble_eq_true rfl) (fun r6 M6 hQ => ?_)
  obtain ⟨rfl, hMe⟩ := hQ
  replace hMe := hMe.symm
  subst hMe
  refine pw_istore3 C (by decide) dX4_holdNearest_9 ?_
  refine pw_iconst C dX4_holdNearest_10 ?_
  refine pw_istore4 C (by decide) dX4_holdNearest_11 ?_
  refine pw_aload0 C dX4_holdNearest_13 ?_
  refine pw_iload4 C dX4_holdNearest_14 ?_
  refine pw_iload3 C dX4_holdNearest_16 ?_
  refine pw_cVv2 C (c_X4_hold _ K _ _ _ (by decide) (by omega) (hky)) cb_X4_hold lay_24 kc_4 rfl ml_X4_102 dX4_holdNearest_17 (by decide) (Nat.le_of_ble_eq_true rfl) (fun M17 hQ => ?_)
  obtain ⟨h1_17, hF17⟩ := hQ
  have h0s := hold_0 (K := M 26) (K' := M17 26) (wd := wd) (D := (fun t => M 17 (M 15 0 * 8 + t))) (O := M 28) (n := M 12 2) (pk := M 19 (M 15 0)) hpk.1 h1_17
  have kr17 : ∀ S, 0 ≤ S → S < 256 → 0 ≤ M17 26 S ∧ M17 26 S ≤ 2147483647 := fun S q1 q2 => by rw [h1_17 S]; have := hky S q1 q2; split <;> omega
  refine pw_iconst C dX4_holdNearest_20 ?_
  refine pw_istore5 C (by decide) dX4_holdNearest_21 ?_
  have cut_23 : ∀ (fu : Nat) (A i : Int) (M1 : Mem), Sm [26] M M1 → (0 ≤ i ∧ i ≤ M 12 2) → (0 ≤ A ∧ A < 256) → (Snd (M 26) (M1 26) wd (fun t => M 17 (M 15 0 * 8 + t)) (M 12 2) (M 19 (M 15 0))) → (Dec (M 26) (M1 26)) → (Cmp (M1 26) wd (fun t => M 17 (M 15 0 * 8 + t)) (M 12 2) (M 19 (M 15 0)) A) → (Bts wd (M 28) i A) → (∀ S, 0 ≤ S → S < 256 → 0 ≤ M1 26 S ∧ M1 26 S ≤ 2147483647) → (M 12 2 - i).toNat < fu → PW X K LAY 6 (0, 0) (Zv X K LAY (fun M' => (Snd (M 26) (M' 26) wd (fun t => M 17 (M 15 0 * 8 + t)) (M 12 2) (M 19 (M 15 0))) ∧ (Dec (M 26) (M' 26)) ∧ (∃ A, (0 ≤ A ∧ A < 256) ∧ Cmp (M' 26) wd (fun t => M 17 (M 15 0 * 8 + t)) (M 12 2) (M 19 (M 15 0)) A ∧ Bts wd (M 28) (M 12 2) A) ∧ (∀ S, 0 ≤ S → S < 256 → 0 ≤ M' 26 S ∧ M' 26 S ≤ 2147483647) ∧ Sm [26] M M')) 23 [some (rV K 24), some (rV K 15), some (iV (M 15 0 * 8)), some (iV (M 19 (M 15 0))), some (iV A), some (iV i)] [] M1 := by
    intro fu
    induction fu with
    | zero => intro _ _ _ _ _ _ _ _ _ _ _ hm; exact absurd hm (Nat.not_lt_zero _)
    | succ fu ih =>
      intro A i M1 hF23 hi hA g1 g2 g3 g4 g5 hm
      have ih_23 := ih
      have hm_23 := hm
      refine pw_iload5 C dX4_holdNearest_23 ?_
      refine pw_aload0 C dX4_holdNearest_25 ?_
      refine g_24_2 C fl_X4_32 dX4_holdNearest_26 ?_
      refine g_12_2 C fl_X4_66 dX4_holdNearest_29 ?_
      refine pw_top C _ (congrFun (hF23 12 (by decide)) _) ?_
      refine pw_icmp_ge (tgt := 86) C dX4_holdNearest_32 (by decide) (by omega) (by omega) (fun h32 => ?_) (fun h32 => ?_)
      · exact pw_vretV C dX4_holdNearest_86 (⟨by exact g1, by exact g2, by refine ⟨A, hA, g3, ?_⟩; rw [show M 12 2 = i by omega]; exact g4, by exact g5, (Sm_trans Sm_refl hF23 (by decide))⟩)
      · have hOi := hP.1 i (by omega) (by omega)
        have hDi := hD (M 28 i) hOi.1 hOi.2
        have hwi := hw (M 28 i) hOi.1 hOi.2
        have hor := orb_rng hA hwi
        have hp2 := p2_lt (n := wd (M 28 i)) (by omega)
        refine pw_iload4 C dX4_holdNearest_35 ?_
        refine pw_aload0 C dX4_holdNearest_37 ?_
        refine g_24_2 C fl_X4_32 dX4_holdNearest_38 ?_
        refine g_12_3 C fl_X4_106 dX4_holdNearest_41 ?_
        refine pw_aload0 C dX4_holdNearest_44 ?_
        refine g_24_5 C fl_X4_25 dX4_holdNearest_45 ?_
        refine pw_iload5 C dX4_holdNearest_48 ?_
        refine pw_iaload C lay_28 (by omega) (by decide) dX4_holdNearest_50 ?_
        refine pw_top C _ (congrFun (hF23 28 (by decide)) _) ?_
        refine pw_iaload C lay_13 (by omega) (by decide) dX4_holdNearest_51 ?_
        refine pw_top C _ (congrFun (hF23 13 (by decide)) _) ?_
        refine pw_top C (1 * 2 ^ (wd (M 28 i)).toNat) (hb _ hOi.1 hOi.2) ?_
        refine pw_ior C (orb A (wd (M 28 i))) (b_or (by omega) (by omega)) dX4_holdNearest_52 ?_
        refine pw_istore4 C (by decide) dX4_holdNearest_53 ?_
        refine pw_aload0 C dX4_holdNearest_55 ?_
        refine pw_iload4 C dX4_holdNearest_56 ?_
        refine pw_aload1 C dX4_holdNearest_58 ?_
        refine g_15_3 C fl_X4_79 dX4_holdNearest_59 ?_
        refine pw_iload2 C dX4_holdNearest_62 ?_
        refine pw_aload0 C dX4_holdNearest_63 ?_
        refine g_24_5 C fl_X4_25 dX4_holdNearest_64 ?_
        refine pw_iload5 C dX4_holdNearest_67 ?_
        refine pw_iaload C lay_28 (by omega) (by decide) dX4_holdNearest_69 ?_
        refine pw_top C _ (congrFun (hF23 28 (by decide)) _) ?_
        refine pw_iadd C dX4_holdNearest_70 ?_
        refine pw_iaload C lay_17 (by omega) (by decide) dX4_holdNearest_71 ?_
        refine pw_top C _ (congrFun (hF23 17 (by decide)) _) ?_
        refine pw_bipush C dX4_holdNearest_72 (by decide) ?_
        refine pw_ishl C (M 17 (M 15 0 * 8 + M 28 i) * 2 ^ (14 : Int).toNat) (b_shl (by omega) (by decide) (by rw [show (2 : Int) ^ (14 : Int).toNat = 16384 by decide]; omega)) dX4_holdNearest_74 ?_
        refine pw_iload3 C dX4_holdNearest_75 ?_
        refine pw_ior C (M 17 (M 15 0 * 8 + M 28 i) * 16384 + M 19 (M 15 0)) (b_key hDi hpk) dX4_holdNearest_76 ?_
        refine pw_cVv2 C (c_X4_hold _ K _ _ _ (hor) (by omega) (g5)) cb_X4_hold lay_24 kc_4 rfl ml_X4_102 dX4_holdNearest_77 (by decide) (Nat.le_of_ble_eq_true rfl) (fun M77 hQ => ?_)
        obtain ⟨h1_77, hF77⟩ := hQ
        have hss := hold_s (K := M 26) (K1 := M1 26) (K2 := M77 26) (wd := wd) (D := (fun t => M 17 (M 15 0 * 8 + t))) (O := M 28) (n := M 12 2) (pk := M 19 (M 15 0)) (i := i) (A := A) hpk.1 (by omega) hA hP hS hD hw g1 g2 g3 g4 h1_77
        have kr77 : ∀ S, 0 ≤ S → S < 256 → 0 ≤ M77 26 S ∧ M77 26 S ≤ 2147483647 := fun S q1 q2 => by rw [h1_77 S]; have := g5 S q1 q2; split <;> omega
        refine pw_iinc5 C (by decide) dX4_holdNearest_80 ?_
        refine pw_goto (tgt := 23) C dX4_holdNearest_83 (by decide) ?_
        exact ih_23 _ _ _ (Sm_trans (Sm_trans Sm_refl hF23 (by decide)) hF77 (by decide)) (by omega) (by exact hor) (by exact hss.1) (by exact hss.2.1) (by exact hss.2.2.1) (by exact hss.2.2.2) (by exact kr77) (by omega)
  exact cut_23 _ _ _ _ (Sm_trans Sm_refl hF17 (by decide)) (by omega) (by omega) (by exact h0s.1) (by exact h0s.2.1) (by exact h0s.2.2.1) (by exact h0s.2.2.2) (by exact kr17) (Nat.lt_succ_self _)
