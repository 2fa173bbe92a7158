theorem b_and14 {a : Int} (ha : 0 ≤ a) : Int32.ofInt a &&& Int32.ofInt 16383 = Int32.ofInt (a % 16384) := by
  rw [b_and ha (by decide)]
  obtain ⟨x, rfl⟩ := Int.eq_ofNat_of_zero_le ha
  congr 1
  rw [show (16383 : Int).toNat = 2 ^ 14 - 1 by decide, Int.toNat_natCast, Nat.and_two_pow_sub_one_eq_mod]
  rfl
set_option maxHeartbeats 4000000 in
set_option maxRecDepth 100000 in
theorem c_X4_reachOf (l : Launch) (K : KX) (M : Mem) (k : Int) (hk : 0 ≤ k ∧ k ≤ 2147483647) : MCi l K LAY yX4_reachOf cX4_reachOf 2 (some .int) 1 [rV K 24, iV k] M (fun r M' => (r = k / 16384) ∧ M' = M) := by
  refine mci_intro RX4 rfl [some (rV K 24), some (iV k)] rfl (by decide +kernel) (cat_r (cat_i cat_nil)) (Nat.le_of_ble_eq_true rfl) (fun X hX C => ?_)
  subst hX
  refine pw_iload1 C dX4_reachOf_0 ?_
  refine pw_bipush C dX4_reachOf_1 (by decide) ?_
  refine pw_ishr C (k / 2 ^ (14 : Int).toNat) (b_shr (by omega) (by decide)) dX4_reachOf_3 ?_
  exact pw_iretI C dX4_reachOf_4 (⟨by rfl, rfl⟩)
set_option maxHeartbeats 4000000 in
set_option maxRecDepth 100000 in
theorem c_X4_rowOf (l : Launch) (K : KX) (M : Mem) (k : Int) (hk : 0 ≤ k ∧ k ≤ 2147483647) : MCi l K LAY yX4_rowOf cX4_rowOf 2 (some .int) 1 [rV K 24, iV k] M (fun r M' => (r = k % 16384) ∧ M' = M) := by
  refine mci_intro RX4 rfl [some (rV K 24), some (iV k)] rfl (by decide +kernel) (cat_r (cat_i cat_nil)) (Nat.le_of_ble_eq_true rfl) (fun X hX C => ?_)
  subst hX
  refine pw_iload1 C dX4_rowOf_0 ?_
  refine pw_sipush C dX4_rowOf_1 (by decide) ?_
  refine pw_iand C (k % 16384) (b_and14 (by omega)) dX4_rowOf_4 ?_
  exact pw_iretI C dX4_rowOf_5 (⟨rfl, rfl⟩)
set_option maxHeartbeats 4000000 in
set_option maxRecDepth 100000 in
theorem c_X4_hold (l : Launch) (K : KX) (M : Mem) (s k : Int) (hs : 0 ≤ s ∧ s < 256) (hk : 0 ≤ k ∧ k ≤ 2147483647) (hky : ∀ S, 0 ≤ S → S < 256 → 0 ≤ M 26 S ∧ M 26 S ≤ 2147483647) : MCv l K LAY yX4_hold cX4_hold 3 none 1 [rV K 24, iV s, iV k] M (fun M' => (∀ j, M' 26 j = if j = s ∧ k < M 26 s then k else M 26 j) ∧ Sm [26] M M') := by
  refine mcv_intro RX4 rfl [some (rV K 24), some (iV s), some (iV k)] rfl (by decide +kernel) (cat_r (cat_i (cat_i cat_nil))) (Nat.le_of_ble_eq_true rfl) (fun X hX C => ?_)
  subst hX
  have hks := hky s hs.1 hs.2
  refine pw_iload2 C dX4_hold_0 ?_
  refine pw_aload0 C dX4_hold_1 ?_
  refine g_24_3 C fl_X4_19 dX4_hold_2 ?_
  refine pw_iload1 C dX4_hold_5 ?_
  refine pw_iaload C lay_26 (by omega) (by decide) dX4_hold_6 ?_
  refine pw_icmp_ge (tgt := 17) C dX4_hold_7 (by decide) (by omega) (by omega) (fun h7 => ?_) (fun h7 => ?_)
  · exact pw_vretV C dX4_hold_17 (⟨by
          first
            | (intro j; rw [if_neg (by omega)])
            | (intro j; rw [rd_if]; by_cases e : j = s
               · rw [if_pos e, if_pos ⟨e, by omega⟩]
               · rw [if_neg e, if_neg (fun h => e h.1)]), Sm_refl⟩)
  · refine pw_aload0 C dX4_hold_10 ?_
    refine g_24_3 C fl_X4_19 dX4_hold_11 ?_
    refine pw_iload1 C dX4_hold_14 ?_
    refine pw_iload2 C dX4_hold_15 ?_
    refine pw_iastore C lay_26 (by omega) (by decide) dX4_hold_16 ?_
    exact pw_vretV C dX4_hold_17 (⟨by
          first
            | (intro j; rw [if_neg (by omega)])
            | (intro j; rw [rd_if]; by_cases e : j = s
               · rw [if_pos e, if_pos ⟨e, by omega⟩]
               · rw [if_neg e, if_neg (fun h => e h.1)]), (Sm_up Sm_refl (by decide))⟩)
set_option maxHeartbeats 4000000 in
set_option maxRecDepth 100000 in
theorem c_X4_holdSmallerSets (l : Launch) (K : KX) (M : Mem) (hky : ∀ S, 0 ≤ S → S < 256 → 0 ≤ M 26 S ∧ M 26 S ≤ 2147483647) : MCv l K LAY yX4_holdSmallerSets cX4_holdSmallerSets 4 none 2 [rV K 24] M (fun M' => (Low 8 (M 26) (M' 26)) ∧ Sm [26] M M') := by
  refine mcv_intro RX4 rfl [some (rV K 24), none, none, none] rfl (by decide +kernel) (cat_r cat_nil) (Nat.le_of_ble_eq_true rfl) (fun X hX C => ?_)
  subst hX
  refine pw_iconst C dX4_holdSmallerSets_0 ?_
  refine pw_istore1 C (by decide) dX4_holdSmallerSets_1 ?_
  have cut_2 : ∀ (fu : Nat) (w : Int) (M1 : Mem), Sm [26] M M1 → (0 ≤ w ∧ w ≤ 8) → (Low w (M 26) (M1 26)) → (∀ S, 0 ≤ S → S < 256 → 0 ≤ M1 26 S ∧ M1 26 S ≤ 2147483647) → (8 - w).toNat < fu → PW X K LAY 4 (0, 0) (Zv X K LAY (fun M' => (Low 8 (M 26) (M' 26)) ∧ Sm [26] M M')) 2 [some (rV K 24), some (iV w), none, none] [] M1 := by
    intro fu
    induction fu with
    | zero => intro _ _ _ _ _ _ hm; exact absurd hm (Nat.not_lt_zero _)
    | succ fu ih =>
      intro w M1 hF2 hw g gr hm
      have ih_2 := ih
      have hm_2 := hm
      refine pw_iload1 C dX4_holdSmallerSets_2 ?_
      refine pw_bipush C dX4_holdSmallerSets_3 (by decide) ?_
      refine pw_icmp_ge (tgt := 52) C dX4_holdSmallerSets_5 (by decide) (by omega) (by omega) (fun h5 => ?_) (fun h5 => ?_)
      · exact pw_vretV C dX4_holdSmallerSets_52 (⟨by rw [show (8 : Int) = w by omega]; exact g, (Sm_trans Sm_refl hF2 (by decide))⟩)
      · have hp2 := p2_lt (n := w) (by omega)
        refine pw_iconst C dX4_holdSmallerSets_8 ?_
        refine pw_iload1 C dX4_holdSmallerSets_9 ?_
        refine pw_ishl C (1 * 2 ^ w.toNat) (b_shl (by decide) (by omega) (by omega)) dX4_holdSmallerSets_10 ?_
        refine pw_istore2 C (by decide) dX4_holdSmallerSets_11 ?_
        refine pw_iconst C dX4_holdSmallerSets_12 ?_
        refine pw_istore3 C (by decide) dX4_holdSmallerSets_13 ?_
        have cut_14 : ∀ (fu : Nat) (t : Int) (M2 : Mem), Sm [26] M M2 → (0 ≤ t ∧ t ≤ 256) → (∀ S, 0 ≤ S → S < 256 → M2 26 S = if (S < t ∧ S.toNat.testBit w.toNat = false) ∧ M1 26 (orb S w) < M1 26 S then M1 26 (orb S w) else M1 26 S) → (∀ S, 0 ≤ S → S < 256 → 0 ≤ M2 26 S ∧ M2 26 S ≤ 2147483647) → (256 - t).toNat < fu → PW X K LAY 4 (0, 0) (Zv X K LAY (fun M' => (Low 8 (M 26) (M' 26)) ∧ Sm [26] M M')) 14 [some (rV K 24), some (iV w), some (iV (1 * 2 ^ w.toNat)), some (iV t)] [] M2 := by
          intro fu
          induction fu with
          | zero => intro _ _ _ _ _ _ hm; exact absurd hm (Nat.not_lt_zero _)
          | succ fu ih =>
            intro t M2 hF14 ht k1 kr hm
            have ih_14 := ih
            have hm_14 := hm
            refine pw_iload3 C dX4_holdSmallerSets_14 ?_
            refine pw_sipush C dX4_holdSmallerSets_15 (by decide) ?_
            refine pw_icmp_ge (tgt := 46) C dX4_holdSmallerSets_18 (by decide) (by omega) (by omega) (fun h18 => ?_) (fun h18 => ?_)
            · refine pw_iinc1 C (by decide) dX4_holdSmallerSets_46 ?_
              refine pw_goto (tgt := 2) C dX4_holdSmallerSets_49 (by decide) ?_
              refine pw_fgt (fgt_k (fgt_k (fgt_no (fgt_no fgt_nil)))) ?_
              exact ih_2 _ _ (Sm_trans Sm_refl hF14 (by decide)) (by omega) (by
                    refine Low_s (by omega) g (fun S q1 q2 => ?_)
                    rw [k1 S q1 q2]
                    by_cases z : S.toNat.testBit w.toNat = false ∧ M1 26 (orb S w) < M1 26 S
                    · rw [if_pos z, if_pos ⟨⟨by omega, z.1⟩, z.2⟩]
                    · rw [if_neg z, if_neg (fun h => z ⟨h.1.2, h.2⟩)]) (by exact kr) (by omega)
            · have hor := orb_rng (a := t) (w := w) (by omega) (by omega)
              have hko := kr (orb t w) hor.1 hor.2
              have cut_40 : ∀  (M3 : Mem), Sm [26] M M3 → (∀ S, 0 ≤ S → S < 256 → M3 26 S = if (S < t + 1 ∧ S.toNat.testBit w.toNat = false) ∧ M1 26 (orb S w) < M1 26 S then M1 26 (orb S w) else M1 26 S) → PW X K LAY 4 (0, 0) (Zv X K LAY (fun M' => (Low 8 (M 26) (M' 26)) ∧ Sm [26] M M')) 40 [some (rV K 24), some (iV w), some (iV (1 * 2 ^ w.toNat)), some (iV t)] [] M3 := by
                intro M3 hF40 l1
                refine pw_iinc3 C (by decide) dX4_holdSmallerSets_40 ?_
                refine pw_goto (tgt := 14) C dX4_holdSmallerSets_43 (by decide) ?_
                exact ih_14 _ _ (Sm_trans Sm_refl hF40 (by decide)) (by omega) (by exact l1) (by intro S q1 q2; rw [l1 S q1 q2]; have z1 := gr S q1 q2; have z2 := orb_rng (a := S) (w := w) (by omega) (by omega); have z3 := gr _ z2.1 z2.2; split <;> omega) (by omega)
              refine pw_iload3 C dX4_holdSmallerSets_21 ?_
              refine pw_iload2 C dX4_holdSmallerSets_22 ?_
              refine pw_iand C (((t.toNat &&& (1 * 2 ^ w.toNat : Int).toNat : Nat) : Int)) (b_and (by omega) (by omega)) dX4_holdSmallerSets_23 ?_
              refine pw_if_ne (tgt := 40) C dX4_holdSmallerSets_24 (by decide) (by have h9 : t.toNat &&& (1 * 2 ^ w.toNat : Int).toNat ≤ t.toNat := Nat.and_le_left; omega) (fun h24 => ?_) (fun h24 => ?_)
              · have hbt : ¬ t.toNat.testBit w.toNat = false := fun h => h24 ((and_p2 (a := t) (w := w) (by omega) (by omega)).mpr h)
                exact cut_40 _ (Sm_trans Sm_refl hF14 (by decide)) (by
                      intro S q1 q2
                      rw [k1 S q1 q2]
                      by_cases e : S = t
                      · rw [if_neg (fun h => by omega), if_neg (fun h => hbt (by rw [← e]; exact h.1.2))]
                      · by_cases z : (S < t ∧ S.toNat.testBit w.toNat = false) ∧ M1 26 (orb S w) < M1 26 S
                        · rw [if_pos z, if_pos ⟨⟨by omega, z.1.2⟩, z.2⟩]
                        · rw [if_neg z, if_neg (fun h => z ⟨⟨by omega, h.1.2⟩, h.2⟩)])
              · have hbt := (and_p2 (a := t) (w := w) (by omega) (by omega)).mp h24
                refine pw_aload0 C dX4_holdSmallerSets_27 ?_
                refine pw_iload3 C dX4_holdSmallerSets_28 ?_
                refine pw_aload0 C dX4_holdSmallerSets_29 ?_
                refine g_24_3 C fl_X4_19 dX4_holdSmallerSets_30 ?_
                refine pw_iload3 C dX4_holdSmallerSets_33 ?_
                refine pw_iload2 C dX4_holdSmallerSets_34 ?_
                refine pw_ior C (orb t w) (b_or (by omega) (by omega)) dX4_holdSmallerSets_35 ?_
                refine pw_iaload C lay_26 (hor) (by decide) dX4_holdSmallerSets_36 ?_
                refine pw_cVv2 C (c_X4_hold _ K _ _ _ (by omega) (hko) (kr)) cb_X4_hold lay_24 kc_4 rfl ml_X4_102 dX4_holdSmallerSets_37 (by decide) (Nat.le_of_ble_eq_true rfl) (fun M37 hQ => ?_)
                obtain ⟨h1_37, hF37⟩ := hQ
                exact cut_40 _ (Sm_trans (Sm_trans Sm_refl hF14 (by decide)) hF37 (by decide)) (by
                      intro S q1 q2
                      have e1 : M2 26 (orb t w) = M1 26 (orb t w) := by
                        rw [k1 _ hor.1 hor.2, if_neg (fun h => by have := orb_bit (a := t) (w := w) (i := w.toNat) |>.mpr (Or.inr rfl); rw [h.1.2] at this; cases this)]
                      have e2 : M2 26 t = M1 26 t := by rw [k1 t (by omega) (by omega), if_neg (fun h => by omega)]
                      rw [h1_37 S, e1, e2]
                      by_cases e : S = t
                      · rw [e]
                        by_cases z : M1 26 (orb t w) < M1 26 t
                        · rw [if_pos ⟨rfl, z⟩, if_pos ⟨⟨by omega, hbt⟩, z⟩]
                        · rw [if_neg (fun h => z h.2), e2, if_neg (fun h => z h.2)]
                      · rw [if_neg (fun h => e h.1), k1 S q1 q2]
                        by_cases z : (S < t ∧ S.toNat.testBit w.toNat = false) ∧ M1 26 (orb S w) < M1 26 S
                        · rw [if_pos z, if_pos ⟨⟨by omega, z.1.2⟩, z.2⟩]
                        · rw [if_neg z, if_neg (fun h => z ⟨⟨by omega, h.1.2⟩, h.2⟩)])
        exact cut_14 _ _ _ (Sm_trans Sm_refl hF2 (by decide)) (by omega) (by intro S q1 q2; rw [if_neg (fun h => by omega)]) (by exact gr) (Nat.lt_succ_self _)
  exact cut_2 _ _ _ Sm_refl (by omega) (by exact Low_0) (by exact hky) (Nat.lt_succ_self _)
