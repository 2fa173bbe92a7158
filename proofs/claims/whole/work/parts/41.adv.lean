theorem b_and3 {a : Int} (ha : 0 ≤ a) : Int32.ofInt a &&& Int32.ofInt 3 = Int32.ofInt (a % 4) := by
  rw [b_and ha (by decide)]
  obtain ⟨x, rfl⟩ := Int.eq_ofNat_of_zero_le ha
  congr 1
  rw [show (3 : Int).toNat = 2 ^ 2 - 1 by decide, Int.toNat_natCast, Nat.and_two_pow_sub_one_eq_mod]
  rfl
theorem b_and15 {a : Int} (ha : 0 ≤ a) : Int32.ofInt a &&& Int32.ofInt 15 = Int32.ofInt (a % 16) := by
  rw [b_and ha (by decide)]
  obtain ⟨x, rfl⟩ := Int.eq_ofNat_of_zero_le ha
  congr 1
  rw [show (15 : Int).toNat = 2 ^ 4 - 1 by decide, Int.toNat_natCast, Nat.and_two_pow_sub_one_eq_mod]
  rfl
theorem pow24 {m : Int} (h : 0 ≤ m) : (2 : Int) ^ (2 * m).toNat = 4 ^ m.toNat := by
  rw [show (2 * m).toNat = 2 * m.toNat by omega, Int.pow_mul]
  rfl
set_option maxHeartbeats 4000000 in
set_option maxRecDepth 100000 in
theorem c_X8_letterAt (l : Launch) (K : KX) (M : Mem) (k n i : Int) (hk : 0 ≤ k ∧ k ≤ 2147483647) (hi : 0 ≤ i ∧ i < n ∧ n ≤ 8) : MCi l K LAY yX8_letterAt cX8_letterAt 3 (some .int) 1 [iV k, iV n, iV i] M (fun r M' => (r = dg 4 n k i) ∧ M' = M) := by
  refine mci_intro RX8 rfl [some (iV k), some (iV n), some (iV i)] rfl (by decide +kernel) (cat_i (cat_i (cat_i cat_nil))) (Nat.le_of_ble_eq_true rfl) (fun X hX C => ?_)
  subst hX
  refine pw_iload0 C dX8_letterAt_0 ?_
  refine pw_iconst C dX8_letterAt_1 ?_
  refine pw_iload1 C dX8_letterAt_2 ?_
  refine pw_iconst C dX8_letterAt_3 ?_
  refine pw_isub C dX8_letterAt_4 ?_
  refine pw_iload2 C dX8_letterAt_5 ?_
  refine pw_isub C dX8_letterAt_6 ?_
  refine pw_imul C dX8_letterAt_7 ?_
  refine pw_ishr C (k / 2 ^ (2 * (n - 1 - i)).toNat) (b_shr (by omega) (by omega)) dX8_letterAt_8 ?_
  refine pw_iconst C dX8_letterAt_9 ?_
  refine pw_iand C (k / 2 ^ (2 * (n - 1 - i)).toNat % 4) (b_and3 (Int.ediv_nonneg hk.1 (Int.le_of_lt (Int.pow_pos (by decide))))) dX8_letterAt_10 ?_
  exact pw_iretI C dX8_letterAt_11 (⟨by rw [pow24 (by omega)]; rfl, rfl⟩)
set_option maxHeartbeats 4000000 in
set_option maxRecDepth 100000 in
theorem c_X8_spotAt (l : Launch) (K : KX) (M : Mem) (k i : Int) (hk : 0 ≤ k ∧ k ≤ 2147483647) (hi : 0 ≤ i ∧ i < 8) : MCi l K LAY yX8_spotAt cX8_spotAt 2 (some .int) 1 [iV k, iV i] M (fun r M' => (r = k / 2 ^ (4 * i).toNat % 16) ∧ M' = M) := by
  refine mci_intro RX8 rfl [some (iV k), some (iV i)] rfl (by decide +kernel) (cat_i (cat_i cat_nil)) (Nat.le_of_ble_eq_true rfl) (fun X hX C => ?_)
  subst hX
  refine pw_iload0 C dX8_spotAt_0 ?_
  refine pw_iconst C dX8_spotAt_1 ?_
  refine pw_iload1 C dX8_spotAt_2 ?_
  refine pw_imul C dX8_spotAt_3 ?_
  refine pw_ishr C (k / 2 ^ (4 * i).toNat) (b_shr (by omega) (by omega)) dX8_spotAt_4 ?_
  refine pw_bipush C dX8_spotAt_5 (by decide) ?_
  refine pw_iand C (k / 2 ^ (4 * i).toNat % 16) (b_and15 (Int.ediv_nonneg hk.1 (Int.le_of_lt (Int.pow_pos (by decide))))) dX8_spotAt_7 ?_
  exact pw_iretI C dX8_spotAt_8 (⟨rfl, rfl⟩)
set_option maxHeartbeats 4000000 in
set_option maxRecDepth 100000 in
theorem c_X9_letterOfRow (l : Launch) (K : KX) (M : Mem) (k i : Int) (hk : 0 ≤ k ∧ k ≤ 2147483647) (hi : -2147483648 ≤ i ∧ i ≤ 2147483647) (hl : 0 ≤ M 6 1 ∧ M 6 1 ≤ 7) : MCi l K LAY yX9_letterOfRow cX9_letterOfRow 3 (some .int) 2 [rV K 6, iV k, iV i] M (fun r M' => (r = if 0 ≤ i ∧ i < M 6 1 then dg 4 (M 6 1) k i else -1) ∧ M' = M) := by
  refine mci_intro RX9 rfl [some (rV K 6), some (iV k), some (iV i)] rfl (by decide +kernel) (cat_r (cat_i (cat_i cat_nil))) (Nat.le_of_ble_eq_true rfl) (fun X hX C => ?_)
  subst hX
  refine pw_iload2 C dX9_letterOfRow_0 ?_
  refine pw_if_lt (tgt := 12) C dX9_letterOfRow_1 (by decide) (by omega) (fun h1 => ?_) (fun h1 => ?_)
  · refine pw_iconst C dX9_letterOfRow_12 ?_
    refine pw_goto (tgt := 25) C dX9_letterOfRow_13 (by decide) ?_
    exact pw_iretI C dX9_letterOfRow_25 (⟨by first | rw [if_pos (by omega)] | rw [if_neg (by omega)], rfl⟩)
  · refine pw_iload2 C dX9_letterOfRow_4 ?_
    refine pw_aload0 C dX9_letterOfRow_5 ?_
    refine g_6_1 C fl_X9_15 dX9_letterOfRow_6 ?_
    refine pw_icmp_lt (tgt := 16) C dX9_letterOfRow_9 (by decide) (by omega) (by omega) (fun h9 => ?_) (fun h9 => ?_)
    · refine pw_iload1 C dX9_letterOfRow_16 ?_
      refine pw_aload0 C dX9_letterOfRow_17 ?_
      refine g_6_1 C fl_X9_15 dX9_letterOfRow_18 ?_
      refine pw_iload2 C dX9_letterOfRow_21 ?_
      refine pw_cSi3 C (c_X8_letterAt _ K _ _ _ _ (by omega) (by omega)) cb_X8_letterAt ml_X9_38 dX9_letterOfRow_22 (by decide) (Nat.le_of_ble_eq_true rfl) (fun r22 M22 hQ => ?_)
      obtain ⟨rfl, hMe⟩ := hQ
      replace hMe := hMe.symm
      subst hMe
      exact pw_iretI C dX9_letterOfRow_25 (⟨by first | rw [if_pos (by omega)] | rw [if_neg (by omega)], rfl⟩)
    · refine pw_iconst C dX9_letterOfRow_12 ?_
      refine pw_goto (tgt := 25) C dX9_letterOfRow_13 (by decide) ?_
      exact pw_iretI C dX9_letterOfRow_25 (⟨by first | rw [if_pos (by omega)] | rw [if_neg (by omega)], rfl⟩)
set_option maxHeartbeats 4000000 in
set_option maxRecDepth 100000 in
theorem c_X3_advance (l : Launch) (K : KX) (M : Mem) (q : Nat) (la n : Int) (n1 : Nat) (hq : LAY[q]? = some (1, n1, [])) (hnq : n1 < 2147483648) (hq1 : 1 ≠ q) (hla : 0 ≤ la ∧ la < n ∧ n ≤ (n1 : Int)) (hl : 2 ≤ M 1 0 ∧ M 1 0 ≤ 4) (hx : ∀ i, 0 ≤ i → i ≤ la → 0 ≤ M q i ∧ M q i < M 1 0) : MCi l K LAY yX3_advance cX3_advance 6 (some .int) 1 [rV K 1, rV K q, iV la, iV n] M (fun r M' => (((∀ i, 0 ≤ i → i ≤ la → M q i = M 1 0 - 1) ∧ r = -1 ∧ M' = M) ∨ ((0 ≤ r ∧ r ≤ la) ∧ M q r < M 1 0 - 1 ∧ (∀ i, r < i → i ≤ la → M q i = M 1 0 - 1) ∧ ∀ i, M' q i = if i = r then M q r + 1 else if r < i ∧ i < n then 0 else M q i)) ∧ Sm [q] M M') := by
  refine mci_intro RX3 rfl [some (rV K 1), some (rV K q), some (iV la), some (iV n), none, none] rfl (by decide +kernel) (cat_r (cat_r (cat_i (cat_i cat_nil)))) (Nat.le_of_ble_eq_true rfl) (fun X hX C => ?_)
  subst hX
  refine pw_iload2 C dX3_advance_0 ?_
  refine pw_istore4 C (by decide) dX3_advance_1 ?_
  have cut_3 : ∀ (fu : Nat) (p : Int), (-1 ≤ p ∧ p ≤ la) → (∀ i, p < i → i ≤ la → M q i = M 1 0 - 1) → (p + 1).toNat < fu → PW X K LAY 6 (0, 0) (Zi X K LAY (fun r M' => (((∀ i, 0 ≤ i → i ≤ la → M q i = M 1 0 - 1) ∧ r = -1 ∧ M' = M) ∨ ((0 ≤ r ∧ r ≤ la) ∧ M q r < M 1 0 - 1 ∧ (∀ i, r < i → i ≤ la → M q i = M 1 0 - 1) ∧ ∀ i, M' q i = if i = r then M q r + 1 else if r < i ∧ i < n then 0 else M q i)) ∧ Sm [q] M M')) 3 [some (rV K 1), some (rV K q), some (iV la), some (iV n), some (iV p), none] [] M := by
    intro fu
    induction fu with
    | zero => intro _ _ _ hm; exact absurd hm (Nat.not_lt_zero _)
    | succ fu ih =>
      intro p hp h1 hm
      have ih_3 := ih
      have hm_3 := hm
      refine pw_iload4 C dX3_advance_3 ?_
      refine pw_if_lt (tgt := 27) C dX3_advance_5 (by decide) (by omega) (fun h5 => ?_) (fun h5 => ?_)
      · refine pw_iload4 C dX3_advance_27 ?_
        refine pw_if_ge (tgt := 34) C dX3_advance_29 (by decide) (by omega) (fun h29 => ?_) (fun h29 => ?_)
        · have hpl : M q p < M 1 0 - 1 := by omega
          refine pw_aload1 C dX3_advance_34 ?_
          refine pw_iload4 C dX3_advance_35 ?_
          refine pw_dup2 C rfl rfl dX3_advance_37 ?_
          refine pw_iaload C hq (by omega) (hnq) dX3_advance_38 ?_
          refine pw_iconst C dX3_advance_39 ?_
          refine pw_iadd C dX3_advance_40 ?_
          refine pw_iastore C hq (by omega) (hnq) dX3_advance_41 ?_
          refine pw_iload4 C dX3_advance_42 ?_
          refine pw_iconst C dX3_advance_44 ?_
          refine pw_iadd C dX3_advance_45 ?_
          refine pw_istore5 C (by decide) dX3_advance_46 ?_
          have cut_48 : ∀ (fu : Nat) (j : Int) (M1 : Mem), Sm [q] M M1 → (p + 1 ≤ j ∧ j ≤ n) → (∀ i, M1 q i = if i = p then M q p + 1 else if p < i ∧ i < j then 0 else M q i) → (n - j).toNat < fu → PW X K LAY 6 (0, 0) (Zi X K LAY (fun r M' => (((∀ i, 0 ≤ i → i ≤ la → M q i = M 1 0 - 1) ∧ r = -1 ∧ M' = M) ∨ ((0 ≤ r ∧ r ≤ la) ∧ M q r < M 1 0 - 1 ∧ (∀ i, r < i → i ≤ la → M q i = M 1 0 - 1) ∧ ∀ i, M' q i = if i = r then M q r + 1 else if r < i ∧ i < n then 0 else M q i)) ∧ Sm [q] M M')) 48 [some (rV K 1), some (rV K q), some (iV la), some (iV n), some (iV p), some (iV j)] [] M1 := by
            intro fu
            induction fu with
            | zero => intro _ _ _ _ _ hm; exact absurd hm (Nat.not_lt_zero _)
            | succ fu ih =>
              intro j M1 hF48 hj h2 hm
              have ih_48 := ih
              have hm_48 := hm
              refine pw_iload5 C dX3_advance_48 ?_
              refine pw_iload3 C dX3_advance_50 ?_
              refine pw_icmp_ge (tgt := 65) C dX3_advance_51 (by decide) (by omega) (by omega) (fun h51 => ?_) (fun h51 => ?_)
              · refine pw_iload4 C dX3_advance_65 ?_
                exact pw_iretI C dX3_advance_67 (⟨by refine Or.inr ⟨by omega, by omega, h1, fun i => ?_⟩; rw [h2 i, show j = n by omega], (Sm_trans Sm_refl hF48 (fun _ h => h))⟩)
              · refine pw_aload1 C dX3_advance_54 ?_
                refine pw_iload5 C dX3_advance_55 ?_
                refine pw_iconst C dX3_advance_57 ?_
                refine pw_iastore C hq (by omega) (hnq) dX3_advance_58 ?_
                refine pw_iinc5 C (by decide) dX3_advance_59 ?_
                refine pw_goto (tgt := 48) C dX3_advance_62 (by decide) ?_
                exact ih_48 _ _ (Sm_up (Sm_trans Sm_refl hF48 (fun _ h => h)) (by simp)) (by omega) (by
                      intro i
                      by_cases e : i = j
                      · rw [e, rd_eq, if_neg (by omega), if_pos (by omega)]
                      · rw [rd_ne e, h2 i]
                        by_cases e2 : i = p
                        · rw [if_pos e2, if_pos e2]
                        · rw [if_neg e2, if_neg e2]
                          by_cases e3 : p < i ∧ i < j
                          · rw [if_pos e3, if_pos (by omega)]
                          · rw [if_neg e3, if_neg (by omega)]) (by omega)
          exact cut_48 _ _ _ (Sm_up Sm_refl (by simp)) (by omega) (by
                intro i
                by_cases e : i = p
                · rw [e, rd_eq, if_pos rfl]
                · rw [rd_ne e, if_neg e, if_neg (by omega)]) (Nat.lt_succ_self _)
        · refine pw_iconst C dX3_advance_32 ?_
          exact pw_iretI C dX3_advance_33 (⟨by exact Or.inl ⟨fun i q1 q2 => h1 i (by omega) q2, rfl, rfl⟩, Sm_refl⟩)
      · have hxp := hx p (by omega) (by omega)
        refine pw_aload1 C dX3_advance_8 ?_
        refine pw_iload4 C dX3_advance_9 ?_
        refine pw_iaload C hq (by omega) (hnq) dX3_advance_11 ?_
        refine pw_aload0 C dX3_advance_12 ?_
        refine g_1_0 C fl_X3_9 dX3_advance_13 ?_
        refine pw_iconst C dX3_advance_16 ?_
        refine pw_isub C dX3_advance_17 ?_
        refine pw_icmp_lt (tgt := 27) C dX3_advance_18 (by decide) (by omega) (by omega) (fun h18 => ?_) (fun h18 => ?_)
        · refine pw_iload4 C dX3_advance_27 ?_
          refine pw_if_ge (tgt := 34) C dX3_advance_29 (by decide) (by omega) (fun h29 => ?_) (fun h29 => ?_)
          · have hpl : M q p < M 1 0 - 1 := by omega
            refine pw_aload1 C dX3_advance_34 ?_
            refine pw_iload4 C dX3_advance_35 ?_
            refine pw_dup2 C rfl rfl dX3_advance_37 ?_
            refine pw_iaload C hq (by omega) (hnq) dX3_advance_38 ?_
            refine pw_iconst C dX3_advance_39 ?_
            refine pw_iadd C dX3_advance_40 ?_
            refine pw_iastore C hq (by omega) (hnq) dX3_advance_41 ?_
            refine pw_iload4 C dX3_advance_42 ?_
            refine pw_iconst C dX3_advance_44 ?_
            refine pw_iadd C dX3_advance_45 ?_
            refine pw_istore5 C (by decide) dX3_advance_46 ?_
            have cut_48 : ∀ (fu : Nat) (j : Int) (M1 : Mem), Sm [q] M M1 → (p + 1 ≤ j ∧ j ≤ n) → (∀ i, M1 q i = if i = p then M q p + 1 else if p < i ∧ i < j then 0 else M q i) → (n - j).toNat < fu → PW X K LAY 6 (0, 0) (Zi X K LAY (fun r M' => (((∀ i, 0 ≤ i → i ≤ la → M q i = M 1 0 - 1) ∧ r = -1 ∧ M' = M) ∨ ((0 ≤ r ∧ r ≤ la) ∧ M q r < M 1 0 - 1 ∧ (∀ i, r < i → i ≤ la → M q i = M 1 0 - 1) ∧ ∀ i, M' q i = if i = r then M q r + 1 else if r < i ∧ i < n then 0 else M q i)) ∧ Sm [q] M M')) 48 [some (rV K 1), some (rV K q), some (iV la), some (iV n), some (iV p), some (iV j)] [] M1 := by
              intro fu
              induction fu with
              | zero => intro _ _ _ _ _ hm; exact absurd hm (Nat.not_lt_zero _)
              | succ fu ih =>
                intro j M1 hF48 hj h2 hm
                have ih_48 := ih
                have hm_48 := hm
                refine pw_iload5 C dX3_advance_48 ?_
                refine pw_iload3 C dX3_advance_50 ?_
                refine pw_icmp_ge (tgt := 65) C dX3_advance_51 (by decide) (by omega) (by omega) (fun h51 => ?_) (fun h51 => ?_)
                · refine pw_iload4 C dX3_advance_65 ?_
                  exact pw_iretI C dX3_advance_67 (⟨by refine Or.inr ⟨by omega, by omega, h1, fun i => ?_⟩; rw [h2 i, show j = n by omega], (Sm_trans Sm_refl hF48 (fun _ h => h))⟩)
                · refine pw_aload1 C dX3_advance_54 ?_
                  refine pw_iload5 C dX3_advance_55 ?_
                  refine pw_iconst C dX3_advance_57 ?_
                  refine pw_iastore C hq (by omega) (hnq) dX3_advance_58 ?_
                  refine pw_iinc5 C (by decide) dX3_advance_59 ?_
                  refine pw_goto (tgt := 48) C dX3_advance_62 (by decide) ?_
                  exact ih_48 _ _ (Sm_up (Sm_trans Sm_refl hF48 (fun _ h => h)) (by simp)) (by omega) (by
                        intro i
                        by_cases e : i = j
                        · rw [e, rd_eq, if_neg (by omega), if_pos (by omega)]
                        · rw [rd_ne e, h2 i]
                          by_cases e2 : i = p
                          · rw [if_pos e2, if_pos e2]
                          · rw [if_neg e2, if_neg e2]
                            by_cases e3 : p < i ∧ i < j
                            · rw [if_pos e3, if_pos (by omega)]
                            · rw [if_neg e3, if_neg (by omega)]) (by omega)
            exact cut_48 _ _ _ (Sm_up Sm_refl (by simp)) (by omega) (by
                  intro i
                  by_cases e : i = p
                  · rw [e, rd_eq, if_pos rfl]
                  · rw [rd_ne e, if_neg e, if_neg (by omega)]) (Nat.lt_succ_self _)
          · refine pw_iconst C dX3_advance_32 ?_
            exact pw_iretI C dX3_advance_33 (⟨by exact Or.inl ⟨fun i q1 q2 => h1 i (by omega) q2, rfl, rfl⟩, Sm_refl⟩)
        · refine pw_iinc4 C (by decide) dX3_advance_21 ?_
          refine pw_goto (tgt := 3) C dX3_advance_24 (by decide) ?_
          exact ih_3 _ (by omega) (by
                intro i q1 q2
                by_cases e : i = p
                · rw [e]; omega
                · exact h1 i (by omega) q2) (by omega)
  exact cut_3 _ _ (by omega) (by intro i q1 q2; omega) (Nat.lt_succ_self _)
