/-- the four bytes of a number, the highest first: the byte that is shifted down by sh -/
def by8 (x sh : Int) : Int := (x / 2 ^ sh.toNat).bmod 256
theorem by8_rng (x sh : Int) : -128 ≤ by8 x sh ∧ by8 x sh ≤ 127 := bmod_rng _
/-- as bits: the places below n where p is v -/
def hvN (p : Int → Int) (v : Int) : Nat → Nat
  | 0 => 0
  | n + 1 => if p (n : Int) = v then hvN p v n ||| 2 ^ n else hvN p v n
def bsI (p : Int → Int) (v n : Int) : Int := ((hvN p v n.toNat : Nat) : Int)
theorem hvN_lt (p : Int → Int) (v : Int) : ∀ n, hvN p v n < 2 ^ n
  | 0 => by simp [hvN]
  | n + 1 => by
    have h := hvN_lt p v n
    unfold hvN
    have h2 : 2 ^ n < 2 ^ (n + 1) := Nat.pow_lt_pow_right (by decide) (by omega)
    split
    · exact Nat.or_lt_two_pow (by omega) h2
    · omega
theorem hvN_bit (p : Int → Int) (v : Int) : ∀ n i, (hvN p v n).testBit i = (decide (i < n) && decide (p (i : Int) = v))
  | 0, i => by simp [hvN]
  | n + 1, i => by
    have h := hvN_bit p v n i
    unfold hvN
    split
    · rename_i hp
      rw [Nat.testBit_or, h, Nat.testBit_two_pow]
      by_cases hi : n = i
      · subst hi
        simp [hp]
      · have : (i < n + 1) ↔ (i < n) := by omega
        simp [hi, this]
    · rename_i hp
      rw [h]
      by_cases hi : n = i
      · subst hi
        simp [hp]
      · have : (i < n + 1) ↔ (i < n) := by omega
        simp [this]
theorem bsI_rng {p : Int → Int} {v n : Int} (hn : n ≤ 8) : 0 ≤ bsI p v n ∧ bsI p v n < 256 := by
  have h := hvN_lt p v n.toNat
  have h2 : 2 ^ n.toNat ≤ 2 ^ 8 := Nat.pow_le_pow_right (by decide) (by omega)
  unfold bsI
  omega
theorem bsI_0 {p : Int → Int} {v : Int} : bsI p v 0 = 0 := rfl
theorem bsI_yes {p : Int → Int} {v n : Int} (h0 : 0 ≤ n) (h : p n = v) : bsI p v (n + 1) = (((bsI p v n).toNat ||| (1 * 2 ^ n.toNat : Int).toNat : Nat) : Int) := by
  obtain ⟨x, rfl⟩ := Int.eq_ofNat_of_zero_le h0
  unfold bsI
  rw [show ((x : Int) + 1).toNat = x + 1 by omega, show (x : Int).toNat = x by omega]
  have e : ((1 * 2 ^ x : Int)).toNat = 2 ^ x := by
    rw [Int.one_mul, show ((2 : Int) ^ x) = ((2 ^ x : Nat) : Int) by rw [Int.natCast_pow]; rfl]
    rfl
  rw [e, hvN, if_pos h]
  rfl
theorem bsI_no {p : Int → Int} {v n : Int} (h0 : 0 ≤ n) (h : p n ≠ v) : bsI p v (n + 1) = bsI p v n := by
  obtain ⟨x, rfl⟩ := Int.eq_ofNat_of_zero_le h0
  unfold bsI
  rw [show ((x : Int) + 1).toNat = x + 1 by omega, show (x : Int).toNat = x by omega, hvN, if_neg h]
theorem p2_lt {n : Int} (h : 0 ≤ n ∧ n ≤ 8) : (1 : Int) * 2 ^ n.toNat < 512 ∧ (0 : Int) < 1 * 2 ^ n.toNat := by
  rw [Int.one_mul]
  have h2 := pow_le_lt (s := n.toNat) (n := 8) (by omega)
  have h3 : (0 : Int) < 2 ^ n.toNat := Int.pow_pos (by decide)
  have e : (2 : Int) ^ 8 = 256 := by decide
  omega
set_option maxHeartbeats 4000000 in
set_option maxRecDepth 100000 in
theorem c_X9_has (l : Launch) (K : KX) (M : Mem) (w : Int) (hw : -2147483648 ≤ w ∧ w ≤ 2147483647) (hs : 0 ≤ (M 6 0) ∧ (M 6 0) ≤ 8) : MCi l K LAY yX9_has cX9_has 2 (some .boolean) 1 [rV K 6, iV w] M (fun r M' => (r = if 0 ≤ w ∧ w < (M 6 0) then 1 else 0) ∧ M' = M) := by
  refine mci_intro RX9 rfl [some (rV K 6), some (iV w)] rfl (by decide +kernel) (cat_r (cat_i cat_nil)) (Nat.le_of_ble_eq_true rfl) (fun X hX C => ?_)
  subst hX
  refine pw_iload1 C dX9_has_0 ?_
  refine pw_if_lt (tgt := 16) C dX9_has_1 (by decide) (by omega) (fun h1 => ?_) (fun h1 => ?_)
  · refine pw_iconst C dX9_has_16 ?_
    exact pw_zretI C dX9_has_17 (by decide) (⟨by split <;> omega, rfl⟩)
  · refine pw_iload1 C dX9_has_4 ?_
    refine pw_aload0 C dX9_has_5 ?_
    refine g_6_0 C fl_X9_9 dX9_has_6 ?_
    refine pw_icmp_ge (tgt := 16) C dX9_has_9 (by decide) (by omega) (by omega) (fun h9 => ?_) (fun h9 => ?_)
    · refine pw_iconst C dX9_has_16 ?_
      exact pw_zretI C dX9_has_17 (by decide) (⟨by split <;> omega, rfl⟩)
    · refine pw_iconst C dX9_has_12 ?_
      refine pw_goto (tgt := 17) C dX9_has_13 (by decide) ?_
      exact pw_zretI C dX9_has_17 (by decide) (⟨by split <;> omega, rfl⟩)
set_option maxHeartbeats 4000000 in
set_option maxRecDepth 100000 in
theorem c_X7_has (l : Launch) (K : KX) (M : Mem) (w : Int) (hw : -2147483648 ≤ w ∧ w ≤ 2147483647) (hs : 0 ≤ (M 9 0) ∧ (M 9 0) ≤ 5) : MCi l K LAY yX7_has cX7_has 2 (some .boolean) 1 [rV K 9, iV w] M (fun r M' => (r = if 0 ≤ w ∧ w < (M 9 0) then 1 else 0) ∧ M' = M) := by
  refine mci_intro RX7 rfl [some (rV K 9), some (iV w)] rfl (by decide +kernel) (cat_r (cat_i cat_nil)) (Nat.le_of_ble_eq_true rfl) (fun X hX C => ?_)
  subst hX
  refine pw_iload1 C dX7_has_0 ?_
  refine pw_if_lt (tgt := 16) C dX7_has_1 (by decide) (by omega) (fun h1 => ?_) (fun h1 => ?_)
  · refine pw_iconst C dX7_has_16 ?_
    exact pw_zretI C dX7_has_17 (by decide) (⟨by split <;> omega, rfl⟩)
  · refine pw_iload1 C dX7_has_4 ?_
    refine pw_aload0 C dX7_has_5 ?_
    refine g_9_0 C fl_X7_9 dX7_has_6 ?_
    refine pw_icmp_ge (tgt := 16) C dX7_has_9 (by decide) (by omega) (by omega) (fun h9 => ?_) (fun h9 => ?_)
    · refine pw_iconst C dX7_has_16 ?_
      exact pw_zretI C dX7_has_17 (by decide) (⟨by split <;> omega, rfl⟩)
    · refine pw_iconst C dX7_has_12 ?_
      refine pw_goto (tgt := 17) C dX7_has_13 (by decide) ?_
      exact pw_zretI C dX7_has_17 (by decide) (⟨by split <;> omega, rfl⟩)
set_option maxHeartbeats 4000000 in
set_option maxRecDepth 100000 in
theorem c_X9_start (l : Launch) (K : KX) (M : Mem) (w : Int) : MCi l K LAY yX9_start cX9_start 2 (some .int) 1 [rV K 6, iV w] M (fun r M' => (r = w * 7) ∧ M' = M) := by
  refine mci_intro RX9 rfl [some (rV K 6), some (iV w)] rfl (by decide +kernel) (cat_r (cat_i cat_nil)) (Nat.le_of_ble_eq_true rfl) (fun X hX C => ?_)
  subst hX
  refine pw_iload1 C dX9_start_0 ?_
  refine pw_bipush C dX9_start_1 (by decide) ?_
  refine pw_imul C dX9_start_3 ?_
  exact pw_iretI C dX9_start_4 (⟨rfl, rfl⟩)
set_option maxHeartbeats 4000000 in
set_option maxRecDepth 100000 in
theorem c_X7_start (l : Launch) (K : KX) (M : Mem) (w : Int) : MCi l K LAY yX7_start cX7_start 2 (some .int) 1 [rV K 9, iV w] M (fun r M' => (r = w * 24) ∧ M' = M) := by
  refine mci_intro RX7 rfl [some (rV K 9), some (iV w)] rfl (by decide +kernel) (cat_r (cat_i cat_nil)) (Nat.le_of_ble_eq_true rfl) (fun X hX C => ?_)
  subst hX
  refine pw_iload1 C dX7_start_0 ?_
  refine pw_bipush C dX7_start_1 (by decide) ?_
  refine pw_imul C dX7_start_3 ?_
  exact pw_iretI C dX7_start_4 (⟨rfl, rfl⟩)
set_option maxHeartbeats 4000000 in
set_option maxRecDepth 100000 in
theorem c_X7_piecesOf (l : Launch) (K : KX) (M : Mem) (t m : Int) (ht : 0 ≤ t ∧ t < 5) : MCi l K LAY yX7_piecesOf cX7_piecesOf 3 (some .int) 1 [rV K 9, iV t, iV m] M (fun r M' => (r = M 11 t - m + 1) ∧ M' = M) := by
  refine mci_intro RX7 rfl [some (rV K 9), some (iV t), some (iV m)] rfl (by decide +kernel) (cat_r (cat_i (cat_i cat_nil))) (Nat.le_of_ble_eq_true rfl) (fun X hX C => ?_)
  subst hX
  refine pw_aload0 C dX7_piecesOf_0 ?_
  refine g_9_2 C fl_X7_19 dX7_piecesOf_1 ?_
  refine pw_iload1 C dX7_piecesOf_4 ?_
  refine pw_iaload C lay_11 (by omega) (by decide) dX7_piecesOf_5 ?_
  refine pw_iload2 C dX7_piecesOf_6 ?_
  refine pw_isub C dX7_piecesOf_7 ?_
  refine pw_iconst C dX7_piecesOf_8 ?_
  refine pw_iadd C dX7_piecesOf_9 ?_
  exact pw_iretI C dX7_piecesOf_10 (⟨rfl, rfl⟩)
set_option maxHeartbeats 4000000 in
set_option maxRecDepth 100000 in
theorem c_X3_rowsOf (l : Launch) (K : KX) (M : Mem) (n : Int) (hn : 0 ≤ n ∧ n ≤ 8) (hl : 2 ≤ (M 1 0) ∧ (M 1 0) ≤ 4) : MCi l K LAY yX3_rowsOf cX3_rowsOf 4 (some .int) 1 [rV K 1, iV n] M (fun r M' => (r = ((M 1 0)) ^ n.toNat) ∧ M' = M) := by
  refine mci_intro RX3 rfl [some (rV K 1), some (iV n), none, none] rfl (by decide +kernel) (cat_r (cat_i cat_nil)) (Nat.le_of_ble_eq_true rfl) (fun X hX C => ?_)
  subst hX
  refine pw_iconst C dX3_rowsOf_0 ?_
  refine pw_istore2 C (by decide) dX3_rowsOf_1 ?_
  refine pw_iconst C dX3_rowsOf_2 ?_
  refine pw_istore3 C (by decide) dX3_rowsOf_3 ?_
  have cut_4 : ∀ (fu : Nat) (v p : Int), (0 ≤ p ∧ p ≤ n) → (v = ((M 1 0)) ^ p.toNat) → (n - p).toNat < fu → PW X K LAY 4 (0, 0) (Zi X K LAY (fun r M' => (r = ((M 1 0)) ^ n.toNat) ∧ M' = M)) 4 [some (rV K 1), some (iV n), some (iV v), some (iV p)] [] M := by
    intro fu
    induction fu with
    | zero => intro _ _ _ _ hm; exact absurd hm (Nat.not_lt_zero _)
    | succ fu ih =>
      intro v p hp hv hm
      have ih_4 := ih
      have hm_4 := hm
      refine pw_iload3 C dX3_rowsOf_4 ?_
      refine pw_iload1 C dX3_rowsOf_5 ?_
      refine pw_icmp_ge (tgt := 22) C dX3_rowsOf_6 (by decide) (by omega) (by omega) (fun h6 => ?_) (fun h6 => ?_)
      · refine pw_iload2 C dX3_rowsOf_22 ?_
        exact pw_iretI C dX3_rowsOf_23 (⟨by rw [hv, show p = n by omega], rfl⟩)
      · refine pw_iload2 C dX3_rowsOf_9 ?_
        refine pw_aload0 C dX3_rowsOf_10 ?_
        refine g_1_0 C fl_X3_9 dX3_rowsOf_11 ?_
        refine pw_imul C dX3_rowsOf_14 ?_
        refine pw_istore2 C (by decide) dX3_rowsOf_15 ?_
        refine pw_iinc3 C (by decide) dX3_rowsOf_16 ?_
        refine pw_goto (tgt := 4) C dX3_rowsOf_19 (by decide) ?_
        exact ih_4 _ _ (by omega) (by rw [hv, show (p + 1).toNat = p.toNat + 1 by omega, Int.pow_succ]) (by omega)
  exact cut_4 _ _ _ (by omega) (by simp) (Nat.lt_succ_self _)
set_option maxHeartbeats 4000000 in
set_option maxRecDepth 100000 in
theorem c_X9_having (l : Launch) (K : KX) (M : Mem) (v : Int) (hv : -2147483648 ≤ v ∧ v ≤ 2147483647) (hs : 0 ≤ (M 6 0) ∧ (M 6 0) ≤ 8) (hp : ∀ w, 0 ≤ w → w < (M 6 0) → 0 ≤ M 8 w ∧ M 8 w ≤ 2) : MCi l K LAY yX9_having cX9_having 4 (some .int) 1 [rV K 6, iV v] M (fun r M' => (r = bsI (M 8) v ((M 6 0))) ∧ M' = M) := by
  refine mci_intro RX9 rfl [some (rV K 6), some (iV v), none, none] rfl (by decide +kernel) (cat_r (cat_i cat_nil)) (Nat.le_of_ble_eq_true rfl) (fun X hX C => ?_)
  subst hX
  refine pw_iconst C dX9_having_0 ?_
  refine pw_istore2 C (by decide) dX9_having_1 ?_
  refine pw_iconst C dX9_having_2 ?_
  refine pw_istore3 C (by decide) dX9_having_3 ?_
  have cut_4 : ∀ (fu : Nat) (b w : Int), (0 ≤ w ∧ w ≤ (M 6 0)) → (b = bsI (M 8) v w) → ((M 6 0) - w).toNat < fu → PW X K LAY 4 (0, 0) (Zi X K LAY (fun r M' => (r = bsI (M 8) v ((M 6 0))) ∧ M' = M)) 4 [some (rV K 6), some (iV v), some (iV b), some (iV w)] [] M := by
    intro fu
    induction fu with
    | zero => intro _ _ _ _ hm; exact absurd hm (Nat.not_lt_zero _)
    | succ fu ih =>
      intro b w hw hb hm
      have ih_4 := ih
      have hm_4 := hm
      refine pw_iload3 C dX9_having_4 ?_
      refine pw_aload0 C dX9_having_5 ?_
      refine g_6_0 C fl_X9_9 dX9_having_6 ?_
      refine pw_icmp_ge (tgt := 34) C dX9_having_9 (by decide) (by omega) (by omega) (fun h9 => ?_) (fun h9 => ?_)
      · refine pw_iload2 C dX9_having_34 ?_
        exact pw_iretI C dX9_having_35 (⟨by rw [hb, show w = (M 6 0) by omega], rfl⟩)
      · have hpw := hp w (by omega) (by omega)
        have hr := bsI_rng (p := M 8) (v := v) (n := w) (by omega)
        have h2 := p2_lt (n := w) (by omega)
        have cut_28 : ∀  (b : Int), (b = bsI (M 8) v (w + 1)) → PW X K LAY 4 (0, 0) (Zi X K LAY (fun r M' => (r = bsI (M 8) v ((M 6 0))) ∧ M' = M)) 28 [some (rV K 6), some (iV v), some (iV b), some (iV w)] [] M := by
          intro b hb2
          refine pw_iinc3 C (by decide) dX9_having_28 ?_
          refine pw_goto (tgt := 4) C dX9_having_31 (by decide) ?_
          exact ih_4 _ _ (by omega) (by exact hb2) (by omega)
        refine pw_aload0 C dX9_having_12 ?_
        refine g_6_3 C fl_X9_22 dX9_having_13 ?_
        refine pw_iload3 C dX9_having_16 ?_
        refine pw_iaload C lay_8 (by omega) (by decide) dX9_having_17 ?_
        refine pw_iload1 C dX9_having_18 ?_
        refine pw_icmp_ne (tgt := 28) C dX9_having_19 (by decide) (by omega) (by omega) (fun h19 => ?_) (fun h19 => ?_)
        · exact cut_28 _ (by rw [hb]; exact (bsI_no (by omega) h19).symm)
        · refine pw_iload2 C dX9_having_22 ?_
          refine pw_iconst C dX9_having_23 ?_
          refine pw_iload3 C dX9_having_24 ?_
          refine pw_ishl C (1 * 2 ^ w.toNat) (b_shl (by omega) (by omega) (by omega)) dX9_having_25 ?_
          refine pw_ior C (((b.toNat ||| (1 * 2 ^ w.toNat : Int).toNat : Nat) : Int)) (b_or (by omega) (by omega)) dX9_having_26 ?_
          refine pw_istore2 C (by decide) dX9_having_27 ?_
          exact cut_28 _ (by rw [hb]; exact (bsI_yes (by omega) h19).symm)
  exact cut_4 _ _ _ (by omega) (by exact bsI_0.symm) (Nat.lt_succ_self _)
set_option maxHeartbeats 4000000 in
set_option maxRecDepth 100000 in
theorem c_X9_hasNear (l : Launch) (K : KX) (M : Mem) (hs : 0 ≤ (M 6 0) ∧ (M 6 0) ≤ 8) (hp : ∀ w, 0 ≤ w → w < (M 6 0) → 0 ≤ M 8 w ∧ M 8 w ≤ 2) : MCi l K LAY yX9_hasNear cX9_hasNear 1 (some .boolean) 2 [rV K 6] M (fun r M' => (r = if bsI (M 8) 1 ((M 6 0)) = 0 then 0 else 1) ∧ M' = M) := by
  refine mci_intro RX9 rfl [some (rV K 6)] rfl (by decide +kernel) (cat_r cat_nil) (Nat.le_of_ble_eq_true rfl) (fun X hX C => ?_)
  subst hX
  have hr := bsI_rng (p := M 8) (v := 1) (n := (M 6 0)) (by omega)
  refine pw_aload0 C dX9_hasNear_0 ?_
  refine pw_iconst C dX9_hasNear_1 ?_
  refine pw_cVi1 C (c_X9_having _ K _ _ (by omega) (by omega) (hp)) cb_X9_having lay_6 kc_9 rfl ml_X9_35 dX9_hasNear_2 (by decide) (Nat.le_of_ble_eq_true rfl) (fun r2 M2 hQ => ?_)
  obtain ⟨rfl, hMe⟩ := hQ
  replace hMe := hMe.symm
  subst hMe
  refine pw_if_eq (tgt := 12) C dX9_hasNear_5 (by decide) (by omega) (fun h5 => ?_) (fun h5 => ?_)
  · refine pw_iconst C dX9_hasNear_12 ?_
    exact pw_zretI C dX9_hasNear_13 (by decide) (⟨by split <;> omega, rfl⟩)
  · refine pw_iconst C dX9_hasNear_8 ?_
    refine pw_goto (tgt := 13) C dX9_hasNear_9 (by decide) ?_
    exact pw_zretI C dX9_hasNear_13 (by decide) (⟨by split <;> omega, rfl⟩)
set_option maxHeartbeats 4000000 in
set_option maxRecDepth 100000 in
theorem c_X3_setPrice (l : Launch) (K : KX) (M : Mem) (a b v : Int) (ha : 0 ≤ a ∧ a ≤ 3) (hb : 0 ≤ b ∧ b ≤ 3) : MCv l K LAY yX3_setPrice cX3_setPrice 4 none 1 [rV K 1, iV a, iV b, iV v] M (fun M' => (M' = up2 (up2 M 2 (a * 4 + b) v) 2 (b * 4 + a) v) ∧ Sm [2] M M') := by
  refine mcv_intro RX3 rfl [some (rV K 1), some (iV a), some (iV b), some (iV v)] rfl (by decide +kernel) (cat_r (cat_i (cat_i (cat_i cat_nil)))) (Nat.le_of_ble_eq_true rfl) (fun X hX C => ?_)
  subst hX
  refine pw_aload0 C dX3_setPrice_0 ?_
  refine g_1_4 C fl_X3_24 dX3_setPrice_1 ?_
  refine pw_iload1 C dX3_setPrice_4 ?_
  refine pw_iconst C dX3_setPrice_5 ?_
  refine pw_imul C dX3_setPrice_6 ?_
  refine pw_iload2 C dX3_setPrice_7 ?_
  refine pw_iadd C dX3_setPrice_8 ?_
  refine pw_iload3 C dX3_setPrice_9 ?_
  refine pw_iastore C lay_2 (by omega) (by decide) dX3_setPrice_10 ?_
  refine pw_aload0 C dX3_setPrice_11 ?_
  refine g_1_4 C fl_X3_24 dX3_setPrice_12 ?_
  refine pw_iload2 C dX3_setPrice_15 ?_
  refine pw_iconst C dX3_setPrice_16 ?_
  refine pw_imul C dX3_setPrice_17 ?_
  refine pw_iload1 C dX3_setPrice_18 ?_
  refine pw_iadd C dX3_setPrice_19 ?_
  refine pw_iload3 C dX3_setPrice_20 ?_
  refine pw_iastore C lay_2 (by omega) (by decide) dX3_setPrice_21 ?_
  exact pw_vretV C dX3_setPrice_22 (⟨by rfl, (Sm_up (Sm_up Sm_refl (by decide)) (by decide))⟩)
set_option maxHeartbeats 4000000 in
set_option maxRecDepth 100000 in
theorem c_X2_forget (l : Launch) (K : KX) (M : Mem) : MCv l K LAY yX2_forget cX2_forget 2 none 1 [rV K 33] M (fun M' => (∀ m, 0 ≤ m → m ≤ 6 → M' 34 m = -2) ∧ Sm [34] M M') := by
  refine mcv_intro RX2 rfl [some (rV K 33), none] rfl (by decide +kernel) (cat_r cat_nil) (Nat.le_of_ble_eq_true rfl) (fun X hX C => ?_)
  subst hX
  refine pw_iconst C dX2_forget_0 ?_
  refine pw_istore1 C (by decide) dX2_forget_1 ?_
  have cut_2 : ∀ (fu : Nat) (i : Int) (M1 : Mem), Sm [34] M M1 → (0 ≤ i ∧ i ≤ 7) → (∀ m, 0 ≤ m → m < i → M1 34 m = -2) → (7 - i).toNat < fu → PW X K LAY 2 (0, 0) (Zv X K LAY (fun M' => (∀ m, 0 ≤ m → m ≤ 6 → M' 34 m = -2) ∧ Sm [34] M M')) 2 [some (rV K 33), some (iV i)] [] M1 := by
    intro fu
    induction fu with
    | zero => intro _ _ _ _ _ hm; exact absurd hm (Nat.not_lt_zero _)
    | succ fu ih =>
      intro i M1 hF2 hi hd hm
      have ih_2 := ih
      have hm_2 := hm
      refine pw_iload1 C dX2_forget_2 ?_
      refine pw_bipush C dX2_forget_3 (by decide) ?_
      refine pw_icmp_gt (tgt := 22) C dX2_forget_5 (by decide) (by omega) (by omega) (fun h5 => ?_) (fun h5 => ?_)
      · exact pw_vretV C dX2_forget_22 (⟨by intro m h1 h2; exact hd m h1 (by omega), (Sm_trans Sm_refl hF2 (by decide))⟩)
      · refine pw_aload0 C dX2_forget_8 ?_
        refine g_33_0 C fl_X2_9 dX2_forget_9 ?_
        refine pw_iload1 C dX2_forget_12 ?_
        refine pw_bipush C dX2_forget_13 (by decide) ?_
        refine pw_iastore C lay_34 (by omega) (by decide) dX2_forget_15 ?_
        refine pw_iinc1 C (by decide) dX2_forget_16 ?_
        refine pw_goto (tgt := 2) C dX2_forget_19 (by decide) ?_
        exact ih_2 _ _ (Sm_up (Sm_trans Sm_refl hF2 (by decide)) (by decide)) (by omega) (by
              intro m h1 h2
              by_cases e : m = i
              · rw [e]; exact rd_eq
              · rw [rd_ne e]; exact hd m h1 (by omega)) (by omega)
  exact cut_2 _ _ _ Sm_refl (by omega) (by intro m h1 h2; omega) (Nat.lt_succ_self _)
set_option maxHeartbeats 4000000 in
set_option maxRecDepth 100000 in
theorem c_X10_forgetCandidates (l : Launch) (K : KX) (M : Mem) : MCv l K LAY yX10_forgetCandidates cX10_forgetCandidates 1 none 1 [rV K 0] M (fun M' => (M' = up2 (up2 M 21 0 0) 24 0 0) ∧ Sm [21, 24] M M') := by
  refine mcv_intro RX10 rfl [some (rV K 0)] rfl (by decide +kernel) (cat_r cat_nil) (Nat.le_of_ble_eq_true rfl) (fun X hX C => ?_)
  subst hX
  refine pw_aload0 C dX10_forgetCandidates_0 ?_
  refine g_0_5 C fl_X10_51 dX10_forgetCandidates_1 ?_
  refine pw_iconst C dX10_forgetCandidates_4 ?_
  refine p_21_0 C (by decide) fl_X10_271 dX10_forgetCandidates_5 ?_
  refine pw_aload0 C dX10_forgetCandidates_8 ?_
  refine g_0_6 C fl_X10_58 dX10_forgetCandidates_9 ?_
  refine pw_iconst C dX10_forgetCandidates_12 ?_
  refine p_24_0 C (by decide) fl_X10_272 dX10_forgetCandidates_13 ?_
  exact pw_vretV C dX10_forgetCandidates_16 (⟨by rfl, (Sm_up (Sm_up Sm_refl (by decide)) (by decide))⟩)
set_option maxHeartbeats 4000000 in
set_option maxRecDepth 100000 in
theorem c_X10_forgetDistances (l : Launch) (K : KX) (M : Mem) : MCv l K LAY yX10_forgetDistances cX10_forgetDistances 1 none 2 [rV K 0] M (fun M' => (M' 21 0 = 0) ∧ (M' 24 0 = 0) ∧ (∀ m, 0 ≤ m → m ≤ 6 → M' 34 m = -2) ∧ Sm [21, 24, 34] M M') := by
  refine mcv_intro RX10 rfl [some (rV K 0)] rfl (by decide +kernel) (cat_r cat_nil) (Nat.le_of_ble_eq_true rfl) (fun X hX C => ?_)
  subst hX
  refine pw_aload0 C dX10_forgetDistances_0 ?_
  refine pw_cVv0 C (c_X10_forgetCandidates _ K _ ) cb_X10_forgetCandidates lay_0 kc_10 rfl ml_X10_110 dX10_forgetDistances_1 (by decide) (Nat.le_of_ble_eq_true rfl) (fun M1 hQ => ?_)
  obtain ⟨hp_1, hF1⟩ := hQ
  refine pw_aload0 C dX10_forgetDistances_4 ?_
  refine g_0_8 C fl_X10_74 dX10_forgetDistances_5 ?_
  refine pw_cVv0 C (c_X2_forget _ K _ ) cb_X2_forget lay_33 kc_2 rfl ml_X10_136 dX10_forgetDistances_8 (by decide) (Nat.le_of_ble_eq_true rfl) (fun M8 hQ => ?_)
  obtain ⟨hr_8, hF8⟩ := hQ
  exact pw_vretV C dX10_forgetDistances_11 (⟨by rw [hF8 21 (by decide), hp_1]; rfl, by rw [hF8 24 (by decide), hp_1]; rfl, by exact hr_8, (Sm_trans (Sm_trans Sm_refl hF1 (by decide)) hF8 (by decide))⟩)
set_option maxHeartbeats 4000000 in
set_option maxRecDepth 100000 in
theorem c_X10_forgetWords (l : Launch) (K : KX) (M : Mem) : MCv l K LAY yX10_forgetWords cX10_forgetWords 1 none 2 [rV K 0] M (fun M' => (M' = up2 (up2 (up2 M 21 0 0) 24 0 0) 29 0 0) ∧ Sm [21, 24, 29] M M') := by
  refine mcv_intro RX10 rfl [some (rV K 0)] rfl (by decide +kernel) (cat_r cat_nil) (Nat.le_of_ble_eq_true rfl) (fun X hX C => ?_)
  subst hX
  refine pw_aload0 C dX10_forgetWords_0 ?_
  refine pw_cVv0 C (c_X10_forgetCandidates _ K _ ) cb_X10_forgetCandidates lay_0 kc_10 rfl ml_X10_110 dX10_forgetWords_1 (by decide) (Nat.le_of_ble_eq_true rfl) (fun M1 hQ => ?_)
  obtain ⟨hp_1, hF1⟩ := hQ
  refine pw_aload0 C dX10_forgetWords_4 ?_
  refine g_0_7 C fl_X10_65 dX10_forgetWords_5 ?_
  refine pw_iconst C dX10_forgetWords_8 ?_
  refine p_29_0 C (by decide) fl_X10_97 dX10_forgetWords_9 ?_
  exact pw_vretV C dX10_forgetWords_12 (⟨by rw [hp_1], (Sm_up (Sm_trans Sm_refl hF1 (by decide)) (by decide))⟩)
set_option maxHeartbeats 4000000 in
set_option maxRecDepth 100000 in
theorem c_X10_isLetterOfFour (l : Launch) (K : KX) (M : Mem) (a : Int) (ha : -2147483648 ≤ a ∧ a ≤ 2147483647) : MCi l K LAY yX10_isLetterOfFour cX10_isLetterOfFour 1 (some .boolean) 1 [iV a] M (fun r M' => (r = if 0 ≤ a ∧ a < 4 then 1 else 0) ∧ M' = M) := by
  refine mci_intro RX10 rfl [some (iV a)] rfl (by decide +kernel) (cat_i cat_nil) (Nat.le_of_ble_eq_true rfl) (fun X hX C => ?_)
  subst hX
  refine pw_iload0 C dX10_isLetterOfFour_0 ?_
  refine pw_if_lt (tgt := 13) C dX10_isLetterOfFour_1 (by decide) (by omega) (fun h1 => ?_) (fun h1 => ?_)
  · refine pw_iconst C dX10_isLetterOfFour_13 ?_
    exact pw_zretI C dX10_isLetterOfFour_14 (by decide) (⟨by split <;> omega, rfl⟩)
  · refine pw_iload0 C dX10_isLetterOfFour_4 ?_
    refine pw_iconst C dX10_isLetterOfFour_5 ?_
    refine pw_icmp_ge (tgt := 13) C dX10_isLetterOfFour_6 (by decide) (by omega) (by omega) (fun h6 => ?_) (fun h6 => ?_)
    · refine pw_iconst C dX10_isLetterOfFour_13 ?_
      exact pw_zretI C dX10_isLetterOfFour_14 (by decide) (⟨by split <;> omega, rfl⟩)
    · refine pw_iconst C dX10_isLetterOfFour_9 ?_
      refine pw_goto (tgt := 14) C dX10_isLetterOfFour_10 (by decide) ?_
      exact pw_zretI C dX10_isLetterOfFour_14 (by decide) (⟨by split <;> omega, rfl⟩)
set_option maxHeartbeats 4000000 in
set_option maxRecDepth 100000 in
theorem c_X10_letters (l : Launch) (K : KX) (M : Mem) (n : Int) (hn : -2147483648 ≤ n ∧ n ≤ 2147483647) (hs : 0 ≤ (M 6 0) ∧ (M 6 0) ≤ 8) (ht : 0 ≤ (M 9 0) ∧ (M 9 0) ≤ 5) : MCi l K LAY yX10_letters cX10_letters 2 (some .boolean) 3 [rV K 0, iV n] M (fun r M' => (if 2 ≤ n ∧ n ≤ 4 ∧ (M 6 0) = 0 ∧ (M 9 0) = 0 then r = 1 ∧ M' = up2 M 1 0 n else r = 0 ∧ M' = M) ∧ Sm [1] M M') := by
  refine mci_intro RX10 rfl [some (rV K 0), some (iV n)] rfl (by decide +kernel) (cat_r (cat_i cat_nil)) (Nat.le_of_ble_eq_true rfl) (fun X hX C => ?_)
  subst hX
  refine pw_iload1 C dX10_letters_0 ?_
  refine pw_iconst C dX10_letters_1 ?_
  refine pw_icmp_lt (tgt := 30) C dX10_letters_2 (by decide) (by omega) (by omega) (fun h2 => ?_) (fun h2 => ?_)
  · refine pw_iconst C dX10_letters_30 ?_
    exact pw_zretI C dX10_letters_31 (by decide) (⟨by rw [if_neg (by omega)]; exact ⟨rfl, rfl⟩, Sm_refl⟩)
  · refine pw_iload1 C dX10_letters_5 ?_
    refine pw_iconst C dX10_letters_6 ?_
    refine pw_icmp_gt (tgt := 30) C dX10_letters_7 (by decide) (by omega) (by omega) (fun h7 => ?_) (fun h7 => ?_)
    · refine pw_iconst C dX10_letters_30 ?_
      exact pw_zretI C dX10_letters_31 (by decide) (⟨by rw [if_neg (by omega)]; exact ⟨rfl, rfl⟩, Sm_refl⟩)
    · refine pw_aload0 C dX10_letters_10 ?_
      refine g_0_2 C fl_X10_26 dX10_letters_11 ?_
      refine g_6_0 C fl_X10_78 dX10_letters_14 ?_
      refine pw_if_gt (tgt := 30) C dX10_letters_17 (by decide) (by omega) (fun h17 => ?_) (fun h17 => ?_)
      · refine pw_iconst C dX10_letters_30 ?_
        exact pw_zretI C dX10_letters_31 (by decide) (⟨by rw [if_neg (by omega)]; exact ⟨rfl, rfl⟩, Sm_refl⟩)
      · refine pw_aload0 C dX10_letters_20 ?_
        refine g_0_3 C fl_X10_33 dX10_letters_21 ?_
        refine g_9_0 C fl_X10_82 dX10_letters_24 ?_
        refine pw_if_le (tgt := 32) C dX10_letters_27 (by decide) (by omega) (fun h27 => ?_) (fun h27 => ?_)
        · refine pw_aload0 C dX10_letters_32 ?_
          refine g_0_0 C fl_X10_10 dX10_letters_33 ?_
          refine pw_iload1 C dX10_letters_36 ?_
          refine p_1_0 C fl_X10_83 dX10_letters_37 ?_
          refine pw_iconst C dX10_letters_40 ?_
          exact pw_zretI C dX10_letters_41 (by decide) (⟨by rw [if_pos (by omega)]; exact ⟨rfl, rfl⟩, (Sm_up Sm_refl (by decide))⟩)
        · refine pw_iconst C dX10_letters_30 ?_
          exact pw_zretI C dX10_letters_31 (by decide) (⟨by rw [if_neg (by omega)]; exact ⟨rfl, rfl⟩, Sm_refl⟩)
set_option maxHeartbeats 4000000 in
set_option maxRecDepth 100000 in
theorem c_X10_end (l : Launch) (K : KX) (M : Mem) (n : Int) (hn : -2147483648 ≤ n ∧ n ≤ 2147483647) (hs : 0 ≤ (M 3 0) ∧ (M 3 0) ≤ 40) : MCi l K LAY yX10_end cX10_end 2 (some .int) 3 [rV K 0, iV n] M (fun r M' => (if 0 ≤ n ∧ n ≤ (M 3 0) then r = n ∧ M' = up2 M 3 0 n else r = -1 ∧ M' = M) ∧ Sm [3] M M') := by
  refine mci_intro RX10 rfl [some (rV K 0), some (iV n)] rfl (by decide +kernel) (cat_r (cat_i cat_nil)) (Nat.le_of_ble_eq_true rfl) (fun X hX C => ?_)
  subst hX
  refine pw_iload1 C dX10_end_0 ?_
  refine pw_if_lt (tgt := 15) C dX10_end_1 (by decide) (by omega) (fun h1 => ?_) (fun h1 => ?_)
  · refine pw_iconst C dX10_end_15 ?_
    exact pw_iretI C dX10_end_16 (⟨by rw [if_neg (by omega)]; exact ⟨rfl, rfl⟩, Sm_refl⟩)
  · refine pw_iload1 C dX10_end_4 ?_
    refine pw_aload0 C dX10_end_5 ?_
    refine g_0_1 C fl_X10_19 dX10_end_6 ?_
    refine g_3_0 C fl_X10_113 dX10_end_9 ?_
    refine pw_icmp_le (tgt := 17) C dX10_end_12 (by decide) (by omega) (by omega) (fun h12 => ?_) (fun h12 => ?_)
    · refine pw_aload0 C dX10_end_17 ?_
      refine g_0_1 C fl_X10_19 dX10_end_18 ?_
      refine pw_iload1 C dX10_end_21 ?_
      refine p_3_0 C fl_X10_113 dX10_end_22 ?_
      refine pw_iload1 C dX10_end_25 ?_
      exact pw_iretI C dX10_end_26 (⟨by rw [if_pos (by omega)]; exact ⟨rfl, rfl⟩, (Sm_up Sm_refl (by decide))⟩)
    · refine pw_iconst C dX10_end_15 ?_
      exact pw_iretI C dX10_end_16 (⟨by rw [if_neg (by omega)]; exact ⟨rfl, rfl⟩, Sm_refl⟩)
set_option maxHeartbeats 4000000 in
set_option maxRecDepth 100000 in
theorem c_X10_drop (l : Launch) (K : KX) (M : Mem) (v : Int) (hv : -2147483648 ≤ v ∧ v ≤ 2147483647) : MCi l K LAY yX10_drop cX10_drop 2 (some .boolean) 3 [rV K 0, iV v] M (fun r M' => (if 1 ≤ v ∧ v ≤ 9 then r = 1 ∧ M' = up2 (up2 M 1 2 v) 29 0 0 else r = 0 ∧ M' = M) ∧ Sm [1, 29] M M') := by
  refine mci_intro RX10 rfl [some (rV K 0), some (iV v)] rfl (by decide +kernel) (cat_r (cat_i cat_nil)) (Nat.le_of_ble_eq_true rfl) (fun X hX C => ?_)
  subst hX
  refine pw_iload1 C dX10_drop_0 ?_
  refine pw_iconst C dX10_drop_1 ?_
  refine pw_icmp_lt (tgt := 11) C dX10_drop_2 (by decide) (by omega) (by omega) (fun h2 => ?_) (fun h2 => ?_)
  · refine pw_iconst C dX10_drop_11 ?_
    exact pw_zretI C dX10_drop_12 (by decide) (⟨by rw [if_neg (by omega)]; exact ⟨rfl, rfl⟩, Sm_refl⟩)
  · refine pw_iload1 C dX10_drop_5 ?_
    refine pw_bipush C dX10_drop_6 (by decide) ?_
    refine pw_icmp_le (tgt := 13) C dX10_drop_8 (by decide) (by omega) (by omega) (fun h8 => ?_) (fun h8 => ?_)
    · refine pw_aload0 C dX10_drop_13 ?_
      refine g_0_0 C fl_X10_10 dX10_drop_14 ?_
      refine pw_iload1 C dX10_drop_17 ?_
      refine p_1_2 C fl_X10_104 dX10_drop_18 ?_
      refine pw_aload0 C dX10_drop_21 ?_
      refine g_0_7 C fl_X10_65 dX10_drop_22 ?_
      refine pw_iconst C dX10_drop_25 ?_
      refine p_29_0 C (by decide) fl_X10_97 dX10_drop_26 ?_
      refine pw_iconst C dX10_drop_29 ?_
      exact pw_zretI C dX10_drop_30 (by decide) (⟨by rw [if_pos (by omega)]; exact ⟨rfl, rfl⟩, (Sm_up (Sm_up Sm_refl (by decide)) (by decide))⟩)
    · refine pw_iconst C dX10_drop_11 ?_
      exact pw_zretI C dX10_drop_12 (by decide) (⟨by rw [if_neg (by omega)]; exact ⟨rfl, rfl⟩, Sm_refl⟩)
set_option maxHeartbeats 4000000 in
set_option maxRecDepth 100000 in
theorem c_X10_gap (l : Launch) (K : KX) (M : Mem) (v : Int) (hv : -2147483648 ≤ v ∧ v ≤ 2147483647) : MCi l K LAY yX10_gap cX10_gap 2 (some .boolean) 3 [rV K 0, iV v] M (fun r M' => (if 0 ≤ v ∧ v ≤ 63 then r = 1 ∧ M' = up2 (up2 (up2 M 1 3 v) 21 0 0) 24 0 0 else r = 0 ∧ M' = M) ∧ Sm [1, 21, 24] M M') := by
  refine mci_intro RX10 rfl [some (rV K 0), some (iV v)] rfl (by decide +kernel) (cat_r (cat_i cat_nil)) (Nat.le_of_ble_eq_true rfl) (fun X hX C => ?_)
  subst hX
  refine pw_iload1 C dX10_gap_0 ?_
  refine pw_if_lt (tgt := 10) C dX10_gap_1 (by decide) (by omega) (fun h1 => ?_) (fun h1 => ?_)
  · refine pw_iconst C dX10_gap_10 ?_
    exact pw_zretI C dX10_gap_11 (by decide) (⟨by rw [if_neg (by omega)]; exact ⟨rfl, rfl⟩, Sm_refl⟩)
  · refine pw_iload1 C dX10_gap_4 ?_
    refine pw_bipush C dX10_gap_5 (by decide) ?_
    refine pw_icmp_le (tgt := 12) C dX10_gap_7 (by decide) (by omega) (by omega) (fun h7 => ?_) (fun h7 => ?_)
    · refine pw_aload0 C dX10_gap_12 ?_
      refine g_0_0 C fl_X10_10 dX10_gap_13 ?_
      refine pw_iload1 C dX10_gap_16 ?_
      refine p_1_3 C fl_X10_107 dX10_gap_17 ?_
      refine pw_aload0 C dX10_gap_20 ?_
      refine pw_cVv0 C (c_X10_forgetCandidates _ K _ ) cb_X10_forgetCandidates lay_0 kc_10 rfl ml_X10_110 dX10_gap_21 (by decide) (Nat.le_of_ble_eq_true rfl) (fun M21 hQ => ?_)
      obtain ⟨hp_21, hF21⟩ := hQ
      refine pw_iconst C dX10_gap_24 ?_
      exact pw_zretI C dX10_gap_25 (by decide) (⟨by rw [if_pos (by omega)]; exact ⟨rfl, hp_21⟩, (Sm_trans (Sm_up Sm_refl (by decide)) hF21 (by decide))⟩)
    · refine pw_iconst C dX10_gap_10 ?_
      exact pw_zretI C dX10_gap_11 (by decide) (⟨by rw [if_neg (by omega)]; exact ⟨rfl, rfl⟩, Sm_refl⟩)
set_option maxHeartbeats 4000000 in
set_option maxRecDepth 100000 in
theorem c_X10_swap (l : Launch) (K : KX) (M : Mem) (v : Int) (hv : -2147483648 ≤ v ∧ v ≤ 2147483647) : MCi l K LAY yX10_swap cX10_swap 2 (some .boolean) 3 [rV K 0, iV v] M (fun r M' => (if 0 ≤ v ∧ v ≤ 9 then r = 1 ∧ M' 1 = (up2 M 1 1 v) 1 ∧ M' 21 0 = 0 ∧ M' 24 0 = 0 ∧ (∀ m, 0 ≤ m → m ≤ 6 → M' 34 m = -2) else r = 0 ∧ M' = M) ∧ Sm [1, 21, 24, 34] M M') := by
  refine mci_intro RX10 rfl [some (rV K 0), some (iV v)] rfl (by decide +kernel) (cat_r (cat_i cat_nil)) (Nat.le_of_ble_eq_true rfl) (fun X hX C => ?_)
  subst hX
  refine pw_iload1 C dX10_swap_0 ?_
  refine pw_if_lt (tgt := 10) C dX10_swap_1 (by decide) (by omega) (fun h1 => ?_) (fun h1 => ?_)
  · refine pw_iconst C dX10_swap_10 ?_
    exact pw_zretI C dX10_swap_11 (by decide) (⟨by rw [if_neg (by omega)]; exact ⟨rfl, rfl⟩, Sm_refl⟩)
  · refine pw_iload1 C dX10_swap_4 ?_
    refine pw_bipush C dX10_swap_5 (by decide) ?_
    refine pw_icmp_le (tgt := 12) C dX10_swap_7 (by decide) (by omega) (by omega) (fun h7 => ?_) (fun h7 => ?_)
    · refine pw_aload0 C dX10_swap_12 ?_
      refine g_0_0 C fl_X10_10 dX10_swap_13 ?_
      refine pw_iload1 C dX10_swap_16 ?_
      refine p_1_1 C fl_X10_101 dX10_swap_17 ?_
      refine pw_aload0 C dX10_swap_20 ?_
      refine pw_cVv0 C (c_X10_forgetDistances _ K _ ) cb_X10_forgetDistances lay_0 kc_10 rfl ml_X10_94 dX10_swap_21 (by decide) (Nat.le_of_ble_eq_true rfl) (fun M21 hQ => ?_)
      obtain ⟨h1_21, h2_21, hr_21, hF21⟩ := hQ
      refine pw_iconst C dX10_swap_24 ?_
      exact pw_zretI C dX10_swap_25 (by decide) (⟨by rw [if_pos (by omega)]; exact ⟨rfl, hF21 1 (by decide), h1_21, h2_21, hr_21⟩, (Sm_trans (Sm_up Sm_refl (by decide)) hF21 (by decide))⟩)
    · refine pw_iconst C dX10_swap_10 ?_
      exact pw_zretI C dX10_swap_11 (by decide) (⟨by rw [if_neg (by omega)]; exact ⟨rfl, rfl⟩, Sm_refl⟩)
set_option maxHeartbeats 4000000 in
set_option maxRecDepth 100000 in
theorem c_X10_cost (l : Launch) (K : KX) (M : Mem) (a b v : Int) (ha : -2147483648 ≤ a ∧ a ≤ 2147483647) (hb : -2147483648 ≤ b ∧ b ≤ 2147483647) (hv : -2147483648 ≤ v ∧ v ≤ 2147483647) : MCi l K LAY yX10_cost cX10_cost 4 (some .boolean) 3 [rV K 0, iV a, iV b, iV v] M (fun r M' => (if (0 ≤ a ∧ a ≤ 3) ∧ (0 ≤ b ∧ b ≤ 3) ∧ a ≠ b ∧ 1 ≤ v ∧ v ≤ 9 then r = 1 ∧ M' 2 = (up2 (up2 M 2 (a * 4 + b) v) 2 (b * 4 + a) v) 2 ∧ M' 21 0 = 0 ∧ M' 24 0 = 0 ∧ (∀ m, 0 ≤ m → m ≤ 6 → M' 34 m = -2) ∧ M' 29 0 = 0 else r = 0 ∧ M' = M) ∧ Sm [2, 21, 24, 29, 34] M M') := by
  refine mci_intro RX10 rfl [some (rV K 0), some (iV a), some (iV b), some (iV v)] rfl (by decide +kernel) (cat_r (cat_i (cat_i (cat_i cat_nil)))) (Nat.le_of_ble_eq_true rfl) (fun X hX C => ?_)
  subst hX
  refine pw_iload1 C dX10_cost_0 ?_
  refine pw_cSi1 C (c_X10_isLetterOfFour _ K _ _ (by omega)) cb_X10_isLetterOfFour ml_X10_86 dX10_cost_1 (by decide) (Nat.le_of_ble_eq_true rfl) (fun r1 M1 hQ => ?_)
  obtain ⟨rfl, hMe⟩ := hQ
  replace hMe := hMe.symm
  subst hMe
  have e1 : (0 ≤ a ∧ a < 4) ∨ ¬ (0 ≤ a ∧ a < 4) := Decidable.em _
  refine pw_if_eq (tgt := 30) C dX10_cost_4 (by decide) (by split <;> omega) (fun h4 => ?_) (fun h4 => ?_)
  · have e3 : ¬ (0 ≤ a ∧ a < 4) := fun h => by rw [if_pos h] at h4; omega
    refine pw_iconst C dX10_cost_30 ?_
    exact pw_zretI C dX10_cost_31 (by decide) (⟨by rw [if_neg (by omega)]; exact ⟨rfl, rfl⟩, Sm_refl⟩)
  · have e3 : (0 ≤ a ∧ a < 4) := Decidable.byContradiction fun h => by rw [if_neg h] at h4; omega
    refine pw_iload2 C dX10_cost_7 ?_
    refine pw_cSi1 C (c_X10_isLetterOfFour _ K _ _ (by omega)) cb_X10_isLetterOfFour ml_X10_86 dX10_cost_8 (by decide) (Nat.le_of_ble_eq_true rfl) (fun r8 M8 hQ => ?_)
    obtain ⟨rfl, hMe⟩ := hQ
    replace hMe := hMe.symm
    subst hMe
    have e2 : (0 ≤ b ∧ b < 4) ∨ ¬ (0 ≤ b ∧ b < 4) := Decidable.em _
    refine pw_if_eq (tgt := 30) C dX10_cost_11 (by decide) (by split <;> omega) (fun h11 => ?_) (fun h11 => ?_)
    · have e4 : ¬ (0 ≤ b ∧ b < 4) := fun h => by rw [if_pos h] at h11; omega
      refine pw_iconst C dX10_cost_30 ?_
      exact pw_zretI C dX10_cost_31 (by decide) (⟨by rw [if_neg (by omega)]; exact ⟨rfl, rfl⟩, Sm_refl⟩)
    · have e4 : (0 ≤ b ∧ b < 4) := Decidable.byContradiction fun h => by rw [if_neg h] at h11; omega
      refine pw_iload1 C dX10_cost_14 ?_
      refine pw_iload2 C dX10_cost_15 ?_
      refine pw_icmp_eq (tgt := 30) C dX10_cost_16 (by decide) (by omega) (by omega) (fun h16 => ?_) (fun h16 => ?_)
      · refine pw_iconst C dX10_cost_30 ?_
        exact pw_zretI C dX10_cost_31 (by decide) (⟨by rw [if_neg (by omega)]; exact ⟨rfl, rfl⟩, Sm_refl⟩)
      · refine pw_iload3 C dX10_cost_19 ?_
        refine pw_iconst C dX10_cost_20 ?_
        refine pw_icmp_lt (tgt := 30) C dX10_cost_21 (by decide) (by omega) (by omega) (fun h21 => ?_) (fun h21 => ?_)
        · refine pw_iconst C dX10_cost_30 ?_
          exact pw_zretI C dX10_cost_31 (by decide) (⟨by rw [if_neg (by omega)]; exact ⟨rfl, rfl⟩, Sm_refl⟩)
        · refine pw_iload3 C dX10_cost_24 ?_
          refine pw_bipush C dX10_cost_25 (by decide) ?_
          refine pw_icmp_le (tgt := 32) C dX10_cost_27 (by decide) (by omega) (by omega) (fun h27 => ?_) (fun h27 => ?_)
          · refine pw_aload0 C dX10_cost_32 ?_
            refine g_0_0 C fl_X10_10 dX10_cost_33 ?_
            refine pw_iload1 C dX10_cost_36 ?_
            refine pw_iload2 C dX10_cost_37 ?_
            refine pw_iload3 C dX10_cost_38 ?_
            refine pw_cVv3 C (c_X3_setPrice _ K _ _ _ _ (by omega) (by omega)) cb_X3_setPrice lay_1 kc_3 rfl ml_X10_90 dX10_cost_39 (by decide) (Nat.le_of_ble_eq_true rfl) (fun M39 hQ => ?_)
            obtain ⟨hp_39, hF39⟩ := hQ
            refine pw_aload0 C dX10_cost_42 ?_
            refine pw_cVv0 C (c_X10_forgetDistances _ K _ ) cb_X10_forgetDistances lay_0 kc_10 rfl ml_X10_94 dX10_cost_43 (by decide) (Nat.le_of_ble_eq_true rfl) (fun M43 hQ => ?_)
            obtain ⟨h1_43, h2_43, hr_43, hF43⟩ := hQ
            refine pw_aload0 C dX10_cost_46 ?_
            refine g_0_7 C fl_X10_65 dX10_cost_47 ?_
            refine pw_iconst C dX10_cost_50 ?_
            refine p_29_0 C (by decide) fl_X10_97 dX10_cost_51 ?_
            refine pw_iconst C dX10_cost_54 ?_
            exact pw_zretI C dX10_cost_55 (by decide) (⟨by
                  rw [if_pos (by omega)]
                  refine ⟨rfl, ?_, ?_, ?_, ?_, rd_eq⟩
                  · rw [up2_ne (by decide), hF43 2 (by decide), hp_39]
                  · rw [rd_nc (by decide), h1_43]
                  · rw [rd_nc (by decide), h2_43]
                  · intro m q1 q2; rw [rd_nc (by decide)]; exact hr_43 m q1 q2, (Sm_up (Sm_trans (Sm_trans Sm_refl hF39 (by decide)) hF43 (by decide)) (by decide))⟩)
          · refine pw_iconst C dX10_cost_30 ?_
            exact pw_zretI C dX10_cost_31 (by decide) (⟨by rw [if_neg (by omega)]; exact ⟨rfl, rfl⟩, Sm_refl⟩)
