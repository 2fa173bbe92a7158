theorem pw_val {X : CX} {K : KX} {lay : List PD} {nL : Nat} {cs : Nat × Nat} {Z : State → Prop} {pc : Nat} {st : List Value} {M : Mem} {L : List (Option Value)} {v w : Value} (h : v = w) (k : PW X K lay nL cs Z pc L (w :: st) M) : PW X K lay nL cs Z pc L (v :: st) M := by
  rw [h]
  exact k
theorem iV_add (x y : Int32) : iV (x.toInt + y.toInt) = iV (x + y).toInt := by
  unfold iV
  rw [Int32.ofInt_add, ofI_toI, ofI_toI, ofI_toI]
theorem iV_sub (x y : Int32) : iV (x.toInt - y.toInt) = iV (x - y).toInt := by
  unfold iV
  rw [Int32.ofInt_sub, ofI_toI, ofI_toI, ofI_toI]
set_option maxHeartbeats 4000000 in
set_option maxRecDepth 100000 in
theorem c_J6_bitCount_0f7a4 (l : Launch) (K : KX) (M : Mem) (x : Int) (hx : 0 ≤ x ∧ x < 256) : MCi l K LAY yJ6_bitCount_0f7a4 cJ6_bitCount_0f7a4 1 (some .int) 0 [iV x] M (fun r M' => (r = bc8 x) ∧ M' = M) := by
  refine mci_intro RJ6 rfl [some (iV x)] rfl (by decide +kernel) (cat_i cat_nil) (Nat.le_of_ble_eq_true rfl) (fun X hX C => ?_)
  subst hX
  have hfin : (bcF (Int32.ofInt x)).toInt = bc8 x := by rw [nI_toN (by omega), bcF_ok _ (by omega)]; rfl
  obtain ⟨a, ha⟩ : ∃ a : Int32, a = Int32.ofInt x := ⟨_, rfl⟩
  rw [← ha] at hfin
  have hxa : x = a.toInt := by rw [ha, i32_rng (by omega)]
  generalize bc8 x = res at hfin ⊢
  clear ha hx
  subst hxa
  refine pw_iload0 C dJ6_bitCount_0f7a4_0 ?_
  refine pw_iload0 C dJ6_bitCount_0f7a4_1 ?_
  refine pw_iconst C dJ6_bitCount_0f7a4_2 ?_
  refine pw_iushr C (((a.toUInt32 >>> ((1 : Int32).toUInt32 &&& Int32.toUInt32 31)).toInt32).toInt) (by rw [ofI_toI, ofI_toI]; rfl) dJ6_bitCount_0f7a4_3 ?_
  refine pw_ldcw C (z := 1431655765) (by decide) ct_J6_265 dJ6_bitCount_0f7a4_4 ?_
  refine pw_iand C ((((a.toUInt32 >>> ((1 : Int32).toUInt32 &&& Int32.toUInt32 31)).toInt32 &&& 1431655765)).toInt) (by rw [ofI_toI, ofI_toI]; rfl) dJ6_bitCount_0f7a4_7 ?_
  refine pw_isub C dJ6_bitCount_0f7a4_8 ?_
  refine pw_val (iV_sub _ _) ?_
  refine pw_istore0 C (by decide) dJ6_bitCount_0f7a4_9 ?_
  generalize hb : a - ((a.toUInt32 >>> ((1 : Int32).toUInt32 &&& Int32.toUInt32 31)).toInt32 &&& 1431655765) = b
  refine pw_iload0 C dJ6_bitCount_0f7a4_10 ?_
  refine pw_ldcw C (z := 858993459) (by decide) ct_J6_266 dJ6_bitCount_0f7a4_11 ?_
  refine pw_iand C (((b &&& 858993459)).toInt) (by rw [ofI_toI, ofI_toI]; rfl) dJ6_bitCount_0f7a4_14 ?_
  refine pw_iload0 C dJ6_bitCount_0f7a4_15 ?_
  refine pw_iconst C dJ6_bitCount_0f7a4_16 ?_
  refine pw_iushr C (((b.toUInt32 >>> ((2 : Int32).toUInt32 &&& Int32.toUInt32 31)).toInt32).toInt) (by rw [ofI_toI, ofI_toI]; rfl) dJ6_bitCount_0f7a4_17 ?_
  refine pw_ldcw C (z := 858993459) (by decide) ct_J6_266 dJ6_bitCount_0f7a4_18 ?_
  refine pw_iand C ((((b.toUInt32 >>> ((2 : Int32).toUInt32 &&& Int32.toUInt32 31)).toInt32 &&& 858993459)).toInt) (by rw [ofI_toI, ofI_toI]; rfl) dJ6_bitCount_0f7a4_21 ?_
  refine pw_iadd C dJ6_bitCount_0f7a4_22 ?_
  refine pw_val (iV_add _ _) ?_
  refine pw_istore0 C (by decide) dJ6_bitCount_0f7a4_23 ?_
  generalize hcc : (b &&& 858993459) + ((b.toUInt32 >>> ((2 : Int32).toUInt32 &&& Int32.toUInt32 31)).toInt32 &&& 858993459) = c
  refine pw_iload0 C dJ6_bitCount_0f7a4_24 ?_
  refine pw_iload0 C dJ6_bitCount_0f7a4_25 ?_
  refine pw_iconst C dJ6_bitCount_0f7a4_26 ?_
  refine pw_iushr C (((c.toUInt32 >>> ((4 : Int32).toUInt32 &&& Int32.toUInt32 31)).toInt32).toInt) (by rw [ofI_toI, ofI_toI]; rfl) dJ6_bitCount_0f7a4_27 ?_
  refine pw_iadd C dJ6_bitCount_0f7a4_28 ?_
  refine pw_val (iV_add _ _) ?_
  refine pw_ldcw C (z := 252645135) (by decide) ct_J6_267 dJ6_bitCount_0f7a4_29 ?_
  refine pw_iand C ((((c + (c.toUInt32 >>> ((4 : Int32).toUInt32 &&& Int32.toUInt32 31)).toInt32) &&& 252645135)).toInt) (by rw [ofI_toI, ofI_toI]; rfl) dJ6_bitCount_0f7a4_32 ?_
  refine pw_istore0 C (by decide) dJ6_bitCount_0f7a4_33 ?_
  generalize hdd : ((c + (c.toUInt32 >>> ((4 : Int32).toUInt32 &&& Int32.toUInt32 31)).toInt32) &&& 252645135) = d
  refine pw_iload0 C dJ6_bitCount_0f7a4_34 ?_
  refine pw_iload0 C dJ6_bitCount_0f7a4_35 ?_
  refine pw_bipush C dJ6_bitCount_0f7a4_36 (by decide) ?_
  refine pw_iushr C (((d.toUInt32 >>> ((8 : Int32).toUInt32 &&& Int32.toUInt32 31)).toInt32).toInt) (by rw [ofI_toI, ofI_toI]; rfl) dJ6_bitCount_0f7a4_38 ?_
  refine pw_iadd C dJ6_bitCount_0f7a4_39 ?_
  refine pw_val (iV_add _ _) ?_
  refine pw_istore0 C (by decide) dJ6_bitCount_0f7a4_40 ?_
  generalize hee : d + (d.toUInt32 >>> ((8 : Int32).toUInt32 &&& Int32.toUInt32 31)).toInt32 = e
  refine pw_iload0 C dJ6_bitCount_0f7a4_41 ?_
  refine pw_iload0 C dJ6_bitCount_0f7a4_42 ?_
  refine pw_bipush C dJ6_bitCount_0f7a4_43 (by decide) ?_
  refine pw_iushr C (((e.toUInt32 >>> ((16 : Int32).toUInt32 &&& Int32.toUInt32 31)).toInt32).toInt) (by rw [ofI_toI, ofI_toI]; rfl) dJ6_bitCount_0f7a4_45 ?_
  refine pw_iadd C dJ6_bitCount_0f7a4_46 ?_
  refine pw_val (iV_add _ _) ?_
  refine pw_istore0 C (by decide) dJ6_bitCount_0f7a4_47 ?_
  generalize hff : e + (e.toUInt32 >>> ((16 : Int32).toUInt32 &&& Int32.toUInt32 31)).toInt32 = f
  refine pw_iload0 C dJ6_bitCount_0f7a4_48 ?_
  refine pw_bipush C dJ6_bitCount_0f7a4_49 (by decide) ?_
  refine pw_iand C (((f &&& 63)).toInt) (by rw [ofI_toI, ofI_toI]; rfl) dJ6_bitCount_0f7a4_51 ?_
  exact pw_iretI C dJ6_bitCount_0f7a4_52 (⟨by rw [← hfin]; unfold bcF; simp only [hb, hcc, hdd, hee, hff], rfl⟩)
set_option maxHeartbeats 4000000 in
set_option maxRecDepth 100000 in
theorem c_X6_add (l : Launch) (K : KX) (M : Mem) (x : Int) (hx : -2147483648 ≤ x ∧ x ≤ 2147483647) (hs : 0 ≤ (M 3 0) ∧ (M 3 0) ≤ 36) : MCv l K LAY yX6_add cX6_add 3 none 1 [rV K 3, iV x] M (fun M' => (M' 3 0 = M 3 0 + 4) ∧ (∀ j, M' 5 j = if M 3 0 ≤ j ∧ j < M 3 0 + 4 then by8 x (24 - 8 * (j - M 3 0)) else M 5 j) ∧ Sm [3, 5] M M') := by
  refine mcv_intro RX6 rfl [some (rV K 3), some (iV x), none] rfl (by decide +kernel) (cat_r (cat_i cat_nil)) (Nat.le_of_ble_eq_true rfl) (fun X hX C => ?_)
  subst hX
  refine pw_bipush C dX6_add_0 (by decide) ?_
  refine pw_istore2 C (by decide) dX6_add_2 ?_
  have cut_3 : ∀ (fu : Nat) (sh : Int) (M1 : Mem), Sm [3, 5] M M1 → (sh % 8 = 0 ∧ -8 ≤ sh ∧ sh ≤ 24) → (M1 3 0 = M 3 0 + (24 - sh) / 8) → (∀ j, M1 5 j = if M 3 0 ≤ j ∧ j < M 3 0 + (24 - sh) / 8 then by8 x (24 - 8 * (j - M 3 0)) else M 5 j) → (sh + 8).toNat < fu → PW X K LAY 3 (0, 0) (Zv X K LAY (fun M' => (M' 3 0 = M 3 0 + 4) ∧ (∀ j, M' 5 j = if M 3 0 ≤ j ∧ j < M 3 0 + 4 then by8 x (24 - 8 * (j - M 3 0)) else M 5 j) ∧ Sm [3, 5] M M')) 3 [some (rV K 3), some (iV x), some (iV sh)] [] M1 := by
    intro fu
    induction fu with
    | zero => intro _ _ _ _ _ _ hm; exact absurd hm (Nat.not_lt_zero _)
    | succ fu ih =>
      intro sh M1 hF3 h0 h1 h2 hm
      have ih_3 := ih
      have hm_3 := hm
      refine pw_iload2 C dX6_add_3 ?_
      refine pw_if_lt (tgt := 45) C dX6_add_4 (by decide) (by omega) (fun h4 => ?_) (fun h4 => ?_)
      · exact pw_vretV C dX6_add_45 (⟨by rw [h1]; omega, by intro j; rw [h2, show (24 - sh) / 8 = 4 by omega], (Sm_trans Sm_refl hF3 (by decide))⟩)
      · refine pw_aload0 C dX6_add_7 ?_
        refine g_3_0 C fl_X6_9 dX6_add_8 ?_
        refine pw_bipush C dX6_add_11 (by decide) ?_
        refine pw_icmp_ge (tgt := 45) C dX6_add_13 (by decide) (by omega) (by omega) (fun h13 => ?_) (fun h13 => ?_)
        · exfalso; omega
        · refine pw_aload0 C dX6_add_16 ?_
          refine g_3_2 C fl_X6_19 dX6_add_17 ?_
          refine pw_aload0 C dX6_add_20 ?_
          refine g_3_0 C fl_X6_9 dX6_add_21 ?_
          refine pw_iload1 C dX6_add_24 ?_
          refine pw_iload2 C dX6_add_25 ?_
          refine pw_ishr C (x / 2 ^ sh.toNat) (b_shr hx (by omega)) dX6_add_26 ?_
          refine pw_i2b C (by8 x sh) (b_i2b (by have h9 := b_shr (s := sh) hx (by omega); have h8 := i32_rng hx; exact shr_rng hx)) dX6_add_27 ?_
          refine pw_bastore C lay_5 (by omega) (by decide) (by8_rng x sh) dX6_add_28 ?_
          refine pw_aload0 C dX6_add_29 ?_
          refine pw_dup C rfl dX6_add_30 ?_
          refine g_3_0 C fl_X6_9 dX6_add_31 ?_
          refine pw_top C _ (rd_nc (by decide)) ?_
          refine pw_iconst C dX6_add_34 ?_
          refine pw_iadd C dX6_add_35 ?_
          refine p_3_0 C fl_X6_9 dX6_add_36 ?_
          refine pw_iinc2 C (by decide) dX6_add_39 ?_
          refine pw_goto (tgt := 3) C dX6_add_42 (by decide) ?_
          exact ih_3 _ _ (Sm_up (Sm_up (Sm_trans Sm_refl hF3 (by decide)) (by decide)) (by decide)) (by omega) (by rw [rd_eq, h1]; omega) (by
                intro j
                rw [rd_nc (by decide), h1]
                by_cases e : j = M 3 0 + (24 - sh) / 8
                · rw [e, rd_eq, if_pos (by omega)]
                  congr 1
                  omega
                · rw [rd_ne e, h2]
                  by_cases e2 : M 3 0 ≤ j ∧ j < M 3 0 + (24 - sh) / 8
                  · rw [if_pos e2, if_pos (by omega)]
                  · rw [if_neg e2, if_neg (by omega)]) (by omega)
  exact cut_3 _ _ _ Sm_refl (by omega) (by omega) (by intro j; rw [if_neg (by omega)]) (Nat.lt_succ_self _)
set_option maxHeartbeats 4000000 in
set_option maxRecDepth 100000 in
theorem c_X10_feed (l : Launch) (K : KX) (M : Mem) (a b c d e : Int) (ha : -2147483648 ≤ a ∧ a ≤ 2147483647) (hb : -2147483648 ≤ b ∧ b ≤ 2147483647) (hc : -2147483648 ≤ c ∧ c ≤ 2147483647) (hd : -2147483648 ≤ d ∧ d ≤ 2147483647) (he : -2147483648 ≤ e ∧ e ≤ 2147483647) (hs : 0 ≤ (M 3 0) ∧ (M 3 0) ≤ 40) : MCi l K LAY yX10_feed cX10_feed 6 (some .int) 2 [rV K 0, iV a, iV b, iV c, iV d, iV e] M (fun r M' => (if (M 3 0) ≤ 20 then r = M 3 0 + 20 ∧ M' 3 0 = M 3 0 + 20 ∧ (∀ j, M' 5 j = if M 3 0 ≤ j ∧ j < M 3 0 + 20 then by8 (if j - M 3 0 < 4 then a else if j - M 3 0 < 8 then b else if j - M 3 0 < 12 then c else if j - M 3 0 < 16 then d else e) (24 - 8 * ((j - M 3 0) % 4)) else M 5 j) else r = -1 ∧ M' = M) ∧ Sm [3, 5] M M') := by
  refine mci_intro RX10 rfl [some (rV K 0), some (iV a), some (iV b), some (iV c), some (iV d), some (iV e)] rfl (by decide +kernel) (cat_r (cat_i (cat_i (cat_i (cat_i (cat_i cat_nil)))))) (Nat.le_of_ble_eq_true rfl) (fun X hX C => ?_)
  subst hX
  refine pw_aload0 C dX10_feed_0 ?_
  refine g_0_1 C fl_X10_19 dX10_feed_1 ?_
  refine g_3_0 C fl_X10_113 dX10_feed_4 ?_
  refine pw_bipush C dX10_feed_7 (by decide) ?_
  refine pw_iadd C dX10_feed_9 ?_
  refine pw_bipush C dX10_feed_10 (by decide) ?_
  refine pw_icmp_le (tgt := 17) C dX10_feed_12 (by decide) (by omega) (by omega) (fun h12 => ?_) (fun h12 => ?_)
  · refine pw_aload0 C dX10_feed_17 ?_
    refine g_0_1 C fl_X10_19 dX10_feed_18 ?_
    refine pw_iload1 C dX10_feed_21 ?_
    refine pw_cVv1 C (c_X6_add _ K _ _ (by omega) (by omega)) cb_X6_add lay_3 kc_6 rfl ml_X10_114 dX10_feed_22 (by decide) (Nat.le_of_ble_eq_true rfl) (fun M22 hQ => ?_)
    obtain ⟨hz_22, hb_22, hF22⟩ := hQ
    refine pw_aload0 C dX10_feed_25 ?_
    refine g_0_1 C fl_X10_19 dX10_feed_26 ?_
    refine pw_iload2 C dX10_feed_29 ?_
    refine pw_cVv1 C (c_X6_add _ K _ _ (by omega) (by omega)) cb_X6_add lay_3 kc_6 rfl ml_X10_114 dX10_feed_30 (by decide) (Nat.le_of_ble_eq_true rfl) (fun M30 hQ => ?_)
    obtain ⟨hz_30, hb_30, hF30⟩ := hQ
    refine pw_aload0 C dX10_feed_33 ?_
    refine g_0_1 C fl_X10_19 dX10_feed_34 ?_
    refine pw_iload3 C dX10_feed_37 ?_
    refine pw_cVv1 C (c_X6_add _ K _ _ (by omega) (by omega)) cb_X6_add lay_3 kc_6 rfl ml_X10_114 dX10_feed_38 (by decide) (Nat.le_of_ble_eq_true rfl) (fun M38 hQ => ?_)
    obtain ⟨hz_38, hb_38, hF38⟩ := hQ
    refine pw_aload0 C dX10_feed_41 ?_
    refine g_0_1 C fl_X10_19 dX10_feed_42 ?_
    refine pw_iload4 C dX10_feed_45 ?_
    refine pw_cVv1 C (c_X6_add _ K _ _ (by omega) (by omega)) cb_X6_add lay_3 kc_6 rfl ml_X10_114 dX10_feed_47 (by decide) (Nat.le_of_ble_eq_true rfl) (fun M47 hQ => ?_)
    obtain ⟨hz_47, hb_47, hF47⟩ := hQ
    refine pw_aload0 C dX10_feed_50 ?_
    refine g_0_1 C fl_X10_19 dX10_feed_51 ?_
    refine pw_iload5 C dX10_feed_54 ?_
    refine pw_cVv1 C (c_X6_add _ K _ _ (by omega) (by omega)) cb_X6_add lay_3 kc_6 rfl ml_X10_114 dX10_feed_56 (by decide) (Nat.le_of_ble_eq_true rfl) (fun M56 hQ => ?_)
    obtain ⟨hz_56, hb_56, hF56⟩ := hQ
    refine pw_aload0 C dX10_feed_59 ?_
    refine g_0_1 C fl_X10_19 dX10_feed_60 ?_
    refine g_3_0 C fl_X10_113 dX10_feed_63 ?_
    exact pw_iretI C dX10_feed_66 (⟨by
          rw [if_pos (by omega)]
          refine ⟨by omega, by omega, fun j => ?_⟩
          rw [hb_56, hb_47, hb_38, hb_30, hb_22]
          by_cases e0 : M 3 0 ≤ j ∧ j < M 3 0 + 20
          · rw [if_pos e0]
            have hq : j - M 3 0 < 4 ∨ (4 ≤ j - M 3 0 ∧ j - M 3 0 < 8) ∨ (8 ≤ j - M 3 0 ∧ j - M 3 0 < 12) ∨ (12 ≤ j - M 3 0 ∧ j - M 3 0 < 16) ∨ 16 ≤ j - M 3 0 := by omega
            rcases hq with q | q | q | q | q
            · rw [if_neg (by omega), if_neg (by omega), if_neg (by omega), if_neg (by omega), if_pos (by omega), if_pos (by omega)]; congr 1; omega
            · rw [if_neg (by omega), if_neg (by omega), if_neg (by omega), if_pos (by omega), if_neg (by omega), if_pos (by omega)]; congr 1; omega
            · rw [if_neg (by omega), if_neg (by omega), if_pos (by omega), if_neg (by omega), if_neg (by omega), if_pos (by omega)]; congr 1; omega
            · rw [if_neg (by omega), if_pos (by omega), if_neg (by omega), if_neg (by omega), if_neg (by omega), if_pos (by omega)]; congr 1; omega
            · rw [if_pos (by omega), if_neg (by omega), if_neg (by omega), if_neg (by omega), if_neg (by omega)]; congr 1; omega
          · rw [if_neg e0, if_neg (by omega), if_neg (by omega), if_neg (by omega), if_neg (by omega), if_neg (by omega)], (Sm_trans (Sm_trans (Sm_trans (Sm_trans (Sm_trans Sm_refl hF22 (by decide)) hF30 (by decide)) hF38 (by decide)) hF47 (by decide)) hF56 (by decide))⟩)
  · refine pw_iconst C dX10_feed_15 ?_
    exact pw_iretI C dX10_feed_16 (⟨by rw [if_neg (by omega)]; exact ⟨rfl, rfl⟩, Sm_refl⟩)
/-- all bytes of the tape are letters -/
def allL (b : Int → Int) (n s : Int) : Prop := ∀ j, 0 ≤ j → j < s → 97 ≤ b j ∧ b j < 97 + n
set_option maxHeartbeats 4000000 in
set_option maxRecDepth 100000 in
theorem c_X6_take (l : Launch) (K : KX) (M : Mem) (n : Int) (hn : 2 ≤ n ∧ n ≤ 4) (hs : 0 ≤ (M 3 0) ∧ (M 3 0) ≤ 40) (hb : ∀ j, 0 ≤ j → j < (M 3 0) → -128 ≤ M 5 j ∧ M 5 j ≤ 127) : MCi l K LAY yX6_take cX6_take 5 (some .int) 1 [rV K 3, iV n] M (fun r M' => (M' 3 0 = 0) ∧ ((allL (M 5) n ((M 3 0)) ∧ r = (M 3 0) ∧ (∀ j, 0 ≤ j → j < (M 3 0) → M' 4 j = M 5 j - 97)) ∨ (¬ allL (M 5) n ((M 3 0)) ∧ r = -1)) ∧ Sm [3, 4] M M') := by
  refine mci_intro RX6 rfl [some (rV K 3), some (iV n), none, none, none] rfl (by decide +kernel) (cat_r (cat_i cat_nil)) (Nat.le_of_ble_eq_true rfl) (fun X hX C => ?_)
  subst hX
  refine pw_aload0 C dX6_take_0 ?_
  refine g_3_0 C fl_X6_9 dX6_take_1 ?_
  refine pw_istore2 C (by decide) dX6_take_4 ?_
  refine pw_aload0 C dX6_take_5 ?_
  refine pw_iconst C dX6_take_6 ?_
  refine p_3_0 C fl_X6_9 dX6_take_7 ?_
  refine pw_iconst C dX6_take_10 ?_
  refine pw_istore3 C (by decide) dX6_take_11 ?_
  have cut_12 : ∀ (fu : Nat) (i : Int) (M1 : Mem), Sm [3, 4] M M1 → (0 ≤ i ∧ i ≤ M 3 0) → (M1 3 0 = 0) → (∀ j, 0 ≤ j → j < i → 97 ≤ M 5 j ∧ M 5 j < 97 + n ∧ M1 4 j = M 5 j - 97) → (M 3 0 - i).toNat < fu → PW X K LAY 5 (0, 0) (Zi X K LAY (fun r M' => (M' 3 0 = 0) ∧ ((allL (M 5) n ((M 3 0)) ∧ r = (M 3 0) ∧ (∀ j, 0 ≤ j → j < (M 3 0) → M' 4 j = M 5 j - 97)) ∨ (¬ allL (M 5) n ((M 3 0)) ∧ r = -1)) ∧ Sm [3, 4] M M')) 12 [some (rV K 3), some (iV n), some (iV (M 3 0)), some (iV i), none] [] M1 := by
    intro fu
    induction fu with
    | zero => intro _ _ _ _ _ _ hm; exact absurd hm (Nat.not_lt_zero _)
    | succ fu ih =>
      intro i M1 hF12 hi hz h1 hm
      have ih_12 := ih
      have hm_12 := hm
      refine pw_iload3 C dX6_take_12 ?_
      refine pw_iload2 C dX6_take_13 ?_
      refine pw_icmp_ge (tgt := 55) C dX6_take_14 (by decide) (by omega) (by omega) (fun h14 => ?_) (fun h14 => ?_)
      · refine pw_iload2 C dX6_take_55 ?_
        exact pw_iretI C dX6_take_56 (⟨by exact hz, by exact Or.inl ⟨fun j q1 q2 => ⟨(h1 j q1 (by omega)).1, (h1 j q1 (by omega)).2.1⟩, rfl, fun j q1 q2 => (h1 j q1 (by omega)).2.2⟩, (Sm_trans Sm_refl hF12 (by decide))⟩)
      · have hbi := hb i (by omega) (by omega)
        refine pw_aload0 C dX6_take_17 ?_
        refine g_3_2 C fl_X6_19 dX6_take_18 ?_
        refine pw_iload3 C dX6_take_21 ?_
        refine pw_baload C lay_5 (by omega) (by decide) dX6_take_22 ?_
        refine pw_top C _ (congrFun (hF12 5 (by decide)) _) ?_
        refine pw_bipush C dX6_take_23 (by decide) ?_
        refine pw_isub C dX6_take_25 ?_
        refine pw_istore4 C (by decide) dX6_take_26 ?_
        refine pw_iload4 C dX6_take_28 ?_
        refine pw_if_lt (tgt := 39) C dX6_take_30 (by decide) (by omega) (fun h30 => ?_) (fun h30 => ?_)
        · refine pw_iconst C dX6_take_39 ?_
          exact pw_iretI C dX6_take_40 (⟨by exact hz, by exact Or.inr ⟨fun h => by have := h i (by omega) (by omega); omega, rfl⟩, (Sm_trans Sm_refl hF12 (by decide))⟩)
        · refine pw_iload4 C dX6_take_33 ?_
          refine pw_iload1 C dX6_take_35 ?_
          refine pw_icmp_lt (tgt := 41) C dX6_take_36 (by decide) (by omega) (by omega) (fun h36 => ?_) (fun h36 => ?_)
          · refine pw_aload0 C dX6_take_41 ?_
            refine g_3_1 C fl_X6_15 dX6_take_42 ?_
            refine pw_iload3 C dX6_take_45 ?_
            refine pw_iload4 C dX6_take_46 ?_
            refine pw_iastore C lay_4 (by omega) (by decide) dX6_take_48 ?_
            refine pw_iinc3 C (by decide) dX6_take_49 ?_
            refine pw_goto (tgt := 12) C dX6_take_52 (by decide) ?_
            refine pw_fgt (fgt_k (fgt_k (fgt_k (fgt_k (fgt_no fgt_nil))))) ?_
            exact ih_12 _ _ (Sm_up (Sm_trans Sm_refl hF12 (by decide)) (by decide)) (by omega) (by rw [rd_nc (by decide)]; exact hz) (by
                  intro j q1 q2
                  by_cases e : j = i
                  · rw [e, rd_eq]; omega
                  · rw [rd_ne e]; exact h1 j q1 (by omega)) (by omega)
          · refine pw_iconst C dX6_take_39 ?_
            exact pw_iretI C dX6_take_40 (⟨by exact hz, by exact Or.inr ⟨fun h => by have := h i (by omega) (by omega); omega, rfl⟩, (Sm_trans Sm_refl hF12 (by decide))⟩)
  exact cut_12 _ _ _ (Sm_up Sm_refl (by decide)) (by omega) (by exact rd_eq) (by intro j q1 q2; omega) (Nat.lt_succ_self _)
