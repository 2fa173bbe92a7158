theorem rd_if {M : Mem} {k : Nat} {j z b : Int} : up2 M k j z k b = if b = j then z else M k b := by simp [up2]
theorem b_pk {a l : Int} (ha : 0 ≤ a) (hl : 0 ≤ l ∧ l ≤ 3) : Int32.ofInt (a * 2 ^ (2 : Int).toNat) ||| Int32.ofInt l = Int32.ofInt (a * 4 + l) := by
  rw [b_or (by rw [show (2 : Int) ^ (2 : Int).toNat = 4 by decide]; omega) hl.1, or_add4 ha hl]
theorem p2_28 {n : Int} (h : 0 ≤ n ∧ n < 28) : (1 : Int) * 2 ^ n.toNat ≤ 134217728 ∧ (0 : Int) < 1 * 2 ^ n.toNat := by
  rw [Int.one_mul]
  have h2 := pow_le_lt (s := n.toNat) (n := 27) (by omega)
  have h3 : (0 : Int) < 2 ^ n.toNat := Int.pow_pos (by decide)
  have e : (2 : Int) ^ 27 = 134217728 := by decide
  omega
def wDa (M : Mem) (t i : Int) : Int := dst (M 2) (M 1 1) (M 16) (fun i => M 18 (i * 8 + t)) i
def WRa (M : Mem) : Prop := M 15 4 = 8 ∧ (0 ≤ M 15 0 ∧ M 15 0 ≤ 7) ∧ (0 ≤ M 15 1 ∧ M 15 1 ≤ 8) ∧ (∀ i, 0 ≤ i → i < M 15 0 → 0 ≤ M 16 i ∧ M 16 i ≤ 3) ∧ (∀ i t, 0 ≤ i → i < M 15 0 → 0 ≤ t → t < M 15 1 → 0 ≤ M 18 (i * 8 + t) ∧ M 18 (i * 8 + t) ≤ 3) ∧ (∀ k, 0 ≤ k → k < 16 → 0 ≤ M 2 k ∧ M 2 k ≤ 9) ∧ (∀ b, 0 ≤ b → b ≤ 3 → M 2 (b * 4 + b) = 0) ∧ (0 ≤ M 1 1 ∧ M 1 1 ≤ 9)
def WSa (M : Mem) (n : Int) : Prop := (∀ i, 0 ≤ i → i ≤ n → ∀ t, 0 ≤ t → t < M 15 1 → M 17 (i * 8 + t) = wDa M t i) ∧ (∀ i, 0 ≤ i → i ≤ n → M 19 i = vl 4 (M 16) i ∧ M 20 i = spI (M 16) i)
theorem WRa_c {M M' : Mem} (h1 : M' 15 = M 15) (h2 : M' 16 = M 16) (h3 : M' 18 = M 18) (h4 : M' 2 = M 2) (h5 : M' 1 = M 1) (h : WRa M) : WRa M' := by
  unfold WRa at h ⊢
  rw [h1, h2, h3, h4, h5]
  exact h
theorem wDa_c {M M' : Mem} (h2 : M' 16 = M 16) (h3 : M' 18 = M 18) (h4 : M' 2 = M 2) (h5 : M' 1 = M 1) : wDa M' = wDa M := by
  funext t i
  unfold wDa
  rw [h2, h3, h4, h5]
theorem wDa_rng {M : Mem} (h : WRa M) {t : Int} (ht : 0 ≤ t ∧ t < M 15 1) : ∀ i, 0 ≤ i → i ≤ M 15 0 → 0 ≤ wDa M t i ∧ wDa M t i ≤ 9 * i := by
  obtain ⟨h1, h2, h3, h4, h5, h6, h7, h8⟩ := h
  refine dst_rng (n := M 15 0) h8.1 (fun i q1 q2 => h6 _ ?_ ?_)
  · have := h4 i q1 q2; have := h5 i t q1 q2 ht.1 ht.2; show 0 ≤ M 16 i * 4 + M 18 (i * 8 + t); omega
  · have := h4 i q1 q2; have := h5 i t q1 q2 ht.1 ht.2; show M 16 i * 4 + M 18 (i * 8 + t) < 16; omega
set_option maxHeartbeats 4000000 in
set_option maxRecDepth 100000 in
theorem c_X8_whole (l : Launch) (K : KX) (M : Mem) : MCi l K LAY yX8_whole cX8_whole 1 (some .int) 1 [rV K 15] M (fun r M' => (r = M 15 0 * M 15 4) ∧ M' = M) := by
  refine mci_intro RX8 rfl [some (rV K 15)] rfl (by decide +kernel) (cat_r cat_nil) (Nat.le_of_ble_eq_true rfl) (fun X hX C => ?_)
  subst hX
  refine pw_aload0 C dX8_whole_0 ?_
  refine g_15_0 C fl_X8_9 dX8_whole_1 ?_
  refine pw_aload0 C dX8_whole_4 ?_
  refine g_15_4 C fl_X8_22 dX8_whole_5 ?_
  refine pw_imul C dX8_whole_8 ?_
  exact pw_iretI C dX8_whole_9 (⟨rfl, rfl⟩)
set_option maxHeartbeats 4000000 in
set_option maxRecDepth 100000 in
theorem c_X8_packedRow (l : Launch) (K : KX) (M : Mem) (h : 0 ≤ M 15 0 ∧ M 15 0 ≤ 7) : MCi l K LAY yX8_packedRow cX8_packedRow 1 (some .int) 1 [rV K 15] M (fun r M' => (r = M 19 (M 15 0)) ∧ M' = M) := by
  refine mci_intro RX8 rfl [some (rV K 15)] rfl (by decide +kernel) (cat_r cat_nil) (Nat.le_of_ble_eq_true rfl) (fun X hX C => ?_)
  subst hX
  refine pw_aload0 C dX8_packedRow_0 ?_
  refine g_15_7 C fl_X8_35 dX8_packedRow_1 ?_
  refine pw_aload0 C dX8_packedRow_4 ?_
  refine g_15_0 C fl_X8_9 dX8_packedRow_5 ?_
  refine pw_iaload C lay_19 (by omega) (by decide) dX8_packedRow_8 ?_
  exact pw_iretI C dX8_packedRow_9 (⟨rfl, rfl⟩)
set_option maxHeartbeats 4000000 in
set_option maxRecDepth 100000 in
theorem c_X8_spotsOfRow (l : Launch) (K : KX) (M : Mem) (h : 0 ≤ M 15 0 ∧ M 15 0 ≤ 7) : MCi l K LAY yX8_spotsOfRow cX8_spotsOfRow 1 (some .int) 1 [rV K 15] M (fun r M' => (r = M 20 (M 15 0)) ∧ M' = M) := by
  refine mci_intro RX8 rfl [some (rV K 15)] rfl (by decide +kernel) (cat_r cat_nil) (Nat.le_of_ble_eq_true rfl) (fun X hX C => ?_)
  subst hX
  refine pw_aload0 C dX8_spotsOfRow_0 ?_
  refine g_15_8 C fl_X8_38 dX8_spotsOfRow_1 ?_
  refine pw_aload0 C dX8_spotsOfRow_4 ?_
  refine g_15_0 C fl_X8_9 dX8_spotsOfRow_5 ?_
  refine pw_iaload C lay_20 (by omega) (by decide) dX8_spotsOfRow_8 ?_
  exact pw_iretI C dX8_spotsOfRow_9 (⟨rfl, rfl⟩)
set_option maxHeartbeats 4000000 in
set_option maxRecDepth 100000 in
theorem c_X8_begin (l : Launch) (K : KX) (M : Mem) (n : Int) (hn : 0 ≤ n ∧ n ≤ 7) : MCv l K LAY yX8_begin cX8_begin 3 none 1 [rV K 15, iV n] M (fun M' => (M' 15 0 = n) ∧ (M' 15 1 = 0) ∧ (M' 15 4 = M 15 4) ∧ (∀ i, 0 ≤ i → i < n → M' 16 i = 0) ∧ Sm [15, 16] M M') := by
  refine mcv_intro RX8 rfl [some (rV K 15), some (iV n), none] rfl (by decide +kernel) (cat_r (cat_i cat_nil)) (Nat.le_of_ble_eq_true rfl) (fun X hX C => ?_)
  subst hX
  refine pw_aload0 C dX8_begin_0 ?_
  refine pw_iload1 C dX8_begin_1 ?_
  refine p_15_0 C fl_X8_9 dX8_begin_2 ?_
  refine pw_aload0 C dX8_begin_5 ?_
  refine pw_iconst C dX8_begin_6 ?_
  refine p_15_1 C fl_X8_15 dX8_begin_7 ?_
  refine pw_iconst C dX8_begin_10 ?_
  refine pw_istore2 C (by decide) dX8_begin_11 ?_
  have cut_12 : ∀ (fu : Nat) (i : Int) (M1 : Mem), Sm [15, 16] M M1 → (0 ≤ i ∧ i ≤ n) → (M1 15 0 = n) → (M1 15 1 = 0) → (M1 15 4 = M 15 4) → (∀ j, 0 ≤ j → j < i → M1 16 j = 0) → (n - i).toNat < fu → PW X K LAY 3 (0, 0) (Zv X K LAY (fun M' => (M' 15 0 = n) ∧ (M' 15 1 = 0) ∧ (M' 15 4 = M 15 4) ∧ (∀ i, 0 ≤ i → i < n → M' 16 i = 0) ∧ Sm [15, 16] M M')) 12 [some (rV K 15), some (iV n), some (iV i)] [] M1 := by
    intro fu
    induction fu with
    | zero => intro _ _ _ _ _ _ _ _ hm; exact absurd hm (Nat.not_lt_zero _)
    | succ fu ih =>
      intro i M1 hF12 hi g1 g2 g3 g4 hm
      have ih_12 := ih
      have hm_12 := hm
      refine pw_iload2 C dX8_begin_12 ?_
      refine pw_iload1 C dX8_begin_13 ?_
      refine pw_icmp_ge (tgt := 30) C dX8_begin_14 (by decide) (by omega) (by omega) (fun h14 => ?_) (fun h14 => ?_)
      · exact pw_vretV C dX8_begin_30 (⟨by exact g1, by exact g2, by exact g3, by intro j q1 q2; exact g4 j q1 (by omega), (Sm_trans Sm_refl hF12 (by decide))⟩)
      · refine pw_aload0 C dX8_begin_17 ?_
        refine g_15_2 C fl_X8_25 dX8_begin_18 ?_
        refine pw_iload2 C dX8_begin_21 ?_
        refine pw_iconst C dX8_begin_22 ?_
        refine pw_iastore C lay_16 (by omega) (by decide) dX8_begin_23 ?_
        refine pw_iinc2 C (by decide) dX8_begin_24 ?_
        refine pw_goto (tgt := 12) C dX8_begin_27 (by decide) ?_
        exact ih_12 _ _ (Sm_up (Sm_trans Sm_refl hF12 (by decide)) (by decide)) (by omega) (by rw [rd_nc (by decide)]; exact g1) (by rw [rd_nc (by decide)]; exact g2) (by rw [rd_nc (by decide)]; exact g3) (by
              intro j q1 q2
              by_cases e : j = i
              · rw [e]; exact rd_eq
              · rw [rd_ne e]; exact g4 j q1 (by omega)) (by omega)
  exact cut_12 _ _ _ (Sm_up (Sm_up Sm_refl (by decide)) (by decide)) (by omega) (by rw [rd_ne (by decide)]; exact rd_eq) (by exact rd_eq) (by rw [rd_ne (by decide), rd_ne (by decide)]) (by intro j q1 q2; omega) (Nat.lt_succ_self _)
set_option maxHeartbeats 4000000 in
set_option maxRecDepth 100000 in
theorem c_X8_aimAt (l : Launch) (K : KX) (M : Mem) (st : Int) (hwd : M 15 4 = 8) (hlen : 0 ≤ M 15 0 ∧ M 15 0 ≤ 7) (hT : 0 ≤ M 15 1 ∧ M 15 1 < 8) (hst : 0 ≤ st ∧ st + M 15 0 ≤ 56) : MCv l K LAY yX8_aimAt cX8_aimAt 4 none 1 [rV K 15, rV K 7, iV st] M (fun M' => (M' 15 0 = M 15 0) ∧ (M' 15 1 = M 15 1 + 1) ∧ (M' 15 4 = 8) ∧ (∀ i, 0 ≤ i → i < M 15 0 → M' 18 (i * 8 + M 15 1) = M 7 (st + i)) ∧ (∀ i t, 0 ≤ t → t < 8 → t ≠ M 15 1 → M' 18 (i * 8 + t) = M 18 (i * 8 + t)) ∧ Sm [15, 18] M M') := by
  refine mcv_intro RX8 rfl [some (rV K 15), some (rV K 7), some (iV st), none] rfl (by decide +kernel) (cat_r (cat_r (cat_i cat_nil))) (Nat.le_of_ble_eq_true rfl) (fun X hX C => ?_)
  subst hX
  refine pw_aload0 C dX8_aimAt_0 ?_
  refine g_15_1 C fl_X8_15 dX8_aimAt_1 ?_
  refine pw_aload0 C dX8_aimAt_4 ?_
  refine g_15_4 C fl_X8_22 dX8_aimAt_5 ?_
  refine pw_top C (8) hwd ?_
  refine pw_icmp_lt (tgt := 12) C dX8_aimAt_8 (by decide) (by omega) (by omega) (fun h8 => ?_) (fun h8 => ?_)
  · refine pw_iconst C dX8_aimAt_12 ?_
    refine pw_istore3 C (by decide) dX8_aimAt_13 ?_
    have cut_14 : ∀ (fu : Nat) (i : Int) (M1 : Mem), Sm [18] M M1 → (0 ≤ i ∧ i ≤ M 15 0) → (∀ j, 0 ≤ j → j < i → M1 18 (j * 8 + M 15 1) = M 7 (st + j)) → (∀ j t, 0 ≤ t → t < 8 → t ≠ M 15 1 → M1 18 (j * 8 + t) = M 18 (j * 8 + t)) → (M 15 0 - i).toNat < fu → PW X K LAY 4 (0, 0) (Zv X K LAY (fun M' => (M' 15 0 = M 15 0) ∧ (M' 15 1 = M 15 1 + 1) ∧ (M' 15 4 = 8) ∧ (∀ i, 0 ≤ i → i < M 15 0 → M' 18 (i * 8 + M 15 1) = M 7 (st + i)) ∧ (∀ i t, 0 ≤ t → t < 8 → t ≠ M 15 1 → M' 18 (i * 8 + t) = M 18 (i * 8 + t)) ∧ Sm [15, 18] M M')) 14 [some (rV K 15), some (rV K 7), some (iV st), some (iV i)] [] M1 := by
      intro fu
      induction fu with
      | zero => intro _ _ _ _ _ _ hm; exact absurd hm (Nat.not_lt_zero _)
      | succ fu ih =>
        intro i M1 hF14 hi g4 g5 hm
        have ih_14 := ih
        have hm_14 := hm
        refine pw_iload3 C dX8_aimAt_14 ?_
        refine pw_aload0 C dX8_aimAt_15 ?_
        refine g_15_0 C fl_X8_9 dX8_aimAt_16 ?_
        refine pw_top C _ (congrFun (hF14 15 (by decide)) _) ?_
        refine pw_icmp_ge (tgt := 49) C dX8_aimAt_19 (by decide) (by omega) (by omega) (fun h19 => ?_) (fun h19 => ?_)
        · refine pw_aload0 C dX8_aimAt_49 ?_
          refine pw_dup C rfl dX8_aimAt_50 ?_
          refine g_15_1 C fl_X8_15 dX8_aimAt_51 ?_
          refine pw_top C _ (congrFun (hF14 15 (by decide)) _) ?_
          refine pw_iconst C dX8_aimAt_54 ?_
          refine pw_iadd C dX8_aimAt_55 ?_
          refine p_15_1 C fl_X8_15 dX8_aimAt_56 ?_
          exact pw_vretV C dX8_aimAt_59 (⟨by rw [rd_ne (by decide), hF14 15 (by decide)], by rw [rd_eq], by rw [rd_ne (by decide), hF14 15 (by decide)]; exact hwd, by intro j q1 q2; rw [rd_nc (by decide)]; exact g4 j q1 (by omega), by intro j t q1 q2 q3; rw [rd_nc (by decide)]; exact g5 j t q1 q2 q3, (Sm_up (Sm_trans Sm_refl hF14 (by decide)) (by decide))⟩)
        · refine pw_aload0 C dX8_aimAt_22 ?_
          refine g_15_6 C fl_X8_32 dX8_aimAt_23 ?_
          refine pw_iload3 C dX8_aimAt_26 ?_
          refine pw_aload0 C dX8_aimAt_27 ?_
          refine g_15_4 C fl_X8_22 dX8_aimAt_28 ?_
          refine pw_top C _ (congrFun (hF14 15 (by decide)) _) ?_
          refine pw_top C (8) hwd ?_
          refine pw_imul C dX8_aimAt_31 ?_
          refine pw_aload0 C dX8_aimAt_32 ?_
          refine g_15_1 C fl_X8_15 dX8_aimAt_33 ?_
          refine pw_top C _ (congrFun (hF14 15 (by decide)) _) ?_
          refine pw_iadd C dX8_aimAt_36 ?_
          refine pw_aload1 C dX8_aimAt_37 ?_
          refine pw_iload2 C dX8_aimAt_38 ?_
          refine pw_iload3 C dX8_aimAt_39 ?_
          refine pw_iadd C dX8_aimAt_40 ?_
          refine pw_iaload C lay_7 (by omega) (by decide) dX8_aimAt_41 ?_
          refine pw_top C _ (congrFun (hF14 7 (by decide)) _) ?_
          refine pw_iastore C lay_18 (by omega) (by decide) dX8_aimAt_42 ?_
          refine pw_iinc3 C (by decide) dX8_aimAt_43 ?_
          refine pw_goto (tgt := 14) C dX8_aimAt_46 (by decide) ?_
          exact ih_14 _ _ (Sm_up (Sm_trans Sm_refl hF14 (by decide)) (by decide)) (by omega) (by
                intro j q1 q2
                by_cases e : j = i
                · rw [e]; exact rd_eq
                · rw [rd_ne (by omega)]; exact g4 j q1 (by omega)) (by intro j t q1 q2 q3; rw [rd_ne (by omega)]; exact g5 j t q1 q2 q3) (by omega)
    exact cut_14 _ _ _ Sm_refl (by omega) (by intro j q1 q2; omega) (by intro j t q1 q2 q3; rfl) (Nat.lt_succ_self _)
  · exfalso; omega
set_option maxHeartbeats 4000000 in
set_option maxRecDepth 100000 in
theorem c_X8_putSwapped (l : Launch) (K : KX) (M : Mem) (pl : Int) (hR : WRa M) (hpl : 0 < pl ∧ pl < M 15 0) (hsp : 0 < M 1 1) (hs2 : ∀ t, 0 ≤ t → t < M 15 1 → M 17 ((pl + 1) * 8 + t) = wDa M t pl + M 2 (M 16 pl * 4 + M 18 (pl * 8 + t))) (hs1 : ∀ t, 0 ≤ t → t < M 15 1 → M 17 ((pl - 1) * 8 + t) = wDa M t (pl - 1)) : MCv l K LAY yX8_putSwapped cX8_putSwapped 8 none 1 [rV K 15, iV pl] M (fun M' => (∀ t, 0 ≤ t → t < M 15 1 → M' 17 ((pl + 1) * 8 + t) = wDa M t (pl + 1)) ∧ (∀ j, (j < (pl + 1) * 8 ∨ (pl + 2) * 8 ≤ j) → M' 17 j = M 17 j) ∧ Sm [17] M M') := by
  refine mcv_intro RX8 rfl [some (rV K 15), some (iV pl), none, none, none, none, none, none] rfl (by decide +kernel) (cat_r (cat_i cat_nil)) (Nat.le_of_ble_eq_true rfl) (fun X hX C => ?_)
  subst hX
  obtain ⟨hwd, hlen, hT, hrow, haim, hpr, hdg, hsw⟩ := id hR
  have hcr := fun (t : Int) (ht : 0 ≤ t ∧ t < M 15 1) => wDa_rng hR (t := t) ht
  refine pw_aload0 C dX8_putSwapped_0 ?_
  refine g_15_2 C fl_X8_25 dX8_putSwapped_1 ?_
  refine pw_iload1 C dX8_putSwapped_4 ?_
  refine pw_iaload C lay_16 (by omega) (by decide) dX8_putSwapped_5 ?_
  refine pw_istore2 C (by decide) dX8_putSwapped_6 ?_
  refine pw_aload0 C dX8_putSwapped_7 ?_
  refine g_15_2 C fl_X8_25 dX8_putSwapped_8 ?_
  refine pw_iload1 C dX8_putSwapped_11 ?_
  refine pw_iconst C dX8_putSwapped_12 ?_
  refine pw_isub C dX8_putSwapped_13 ?_
  refine pw_iaload C lay_16 (by omega) (by decide) dX8_putSwapped_14 ?_
  refine pw_istore3 C (by decide) dX8_putSwapped_15 ?_
  refine pw_iload1 C dX8_putSwapped_16 ?_
  refine pw_aload0 C dX8_putSwapped_17 ?_
  refine g_15_4 C fl_X8_22 dX8_putSwapped_18 ?_
  refine pw_top C (8) hwd ?_
  refine pw_imul C dX8_putSwapped_21 ?_
  refine pw_istore4 C (by decide) dX8_putSwapped_22 ?_
  refine pw_iload4 C dX8_putSwapped_24 ?_
  refine pw_aload0 C dX8_putSwapped_26 ?_
  refine g_15_4 C fl_X8_22 dX8_putSwapped_27 ?_
  refine pw_top C (8) hwd ?_
  refine pw_isub C dX8_putSwapped_30 ?_
  refine pw_istore5 C (by decide) dX8_putSwapped_31 ?_
  refine pw_iconst C dX8_putSwapped_33 ?_
  refine pw_istore6 C (by decide) dX8_putSwapped_34 ?_
  have cut_36 : ∀ (fu : Nat) (t : Int) (M1 : Mem), Sm [17] M M1 → (0 ≤ t ∧ t ≤ M 15 1) → (∀ u, 0 ≤ u → u < t → M1 17 ((pl + 1) * 8 + u) = wDa M u (pl + 1)) → (∀ t1, t ≤ t1 → t1 < M 15 1 → M1 17 ((pl + 1) * 8 + t1) = wDa M t1 pl + M 2 (M 16 pl * 4 + M 18 (pl * 8 + t1))) → (∀ j, (j < (pl + 1) * 8 ∨ (pl + 2) * 8 ≤ j) → M1 17 j = M 17 j) → (M 15 1 - t).toNat < fu → PW X K LAY 8 (0, 0) (Zv X K LAY (fun M' => (∀ t, 0 ≤ t → t < M 15 1 → M' 17 ((pl + 1) * 8 + t) = wDa M t (pl + 1)) ∧ (∀ j, (j < (pl + 1) * 8 ∨ (pl + 2) * 8 ≤ j) → M' 17 j = M 17 j) ∧ Sm [17] M M')) 36 [some (rV K 15), some (iV pl), some (iV (M 16 pl)), some (iV (M 16 (pl - 1))), some (iV (pl * 8)), some (iV ((pl * 8) - 8)), some (iV t), none] [] M1 := by
    intro fu
    induction fu with
    | zero => intro _ _ _ _ _ _ _ hm; exact absurd hm (Nat.not_lt_zero _)
    | succ fu ih =>
      intro t M1 hF36 ht g1 g2 g3 hm
      have ih_36 := ih
      have hm_36 := hm
      refine pw_iload6 C dX8_putSwapped_36 ?_
      refine pw_aload0 C dX8_putSwapped_38 ?_
      refine g_15_1 C fl_X8_15 dX8_putSwapped_39 ?_
      refine pw_top C _ (congrFun (hF36 15 (by decide)) _) ?_
      refine pw_icmp_ge (tgt := 136) C dX8_putSwapped_42 (by decide) (by omega) (by omega) (fun h42 => ?_) (fun h42 => ?_)
      · exact pw_vretV C dX8_putSwapped_136 (⟨by intro u q1 q2; exact g1 u q1 (by omega), by exact g3, (Sm_trans Sm_refl hF36 (by decide))⟩)
      · have q1 := hrow pl (by omega) (by omega)
        have q2 := hrow (pl - 1) (by omega) (by omega)
        have q3 := haim pl t (by omega) (by omega) (by omega) (by omega)
        have q4 := haim (pl - 1) t (by omega) (by omega) (by omega) (by omega)
        have q5 := hcr t (by omega) pl (by omega) (by omega)
        have q6 := hcr t (by omega) (pl - 1) (by omega) (by omega)
        have q7 := hpr (M 16 pl * 4 + M 18 (pl * 8 + t)) (by omega) (by omega)
        have hN : ¬ (0 < pl ∧ 0 < M 1 1 ∧ M 16 (pl - 1) = M 18 (pl * 8 + t) ∧ M 18 ((pl - 1) * 8 + t) = M 16 pl) → wDa M t (pl + 1) = wDa M t pl + M 2 (M 16 pl * 4 + M 18 (pl * 8 + t)) := fun h => dst_neg (by omega) h
        have hY : (0 < pl ∧ 0 < M 1 1 ∧ M 16 (pl - 1) = M 18 (pl * 8 + t) ∧ M 18 ((pl - 1) * 8 + t) = M 16 pl) → wDa M t (pl + 1) = if wDa M t pl + M 2 (M 16 pl * 4 + M 18 (pl * 8 + t)) ≤ wDa M t (pl - 1) + M 1 1 then wDa M t pl + M 2 (M 16 pl * 4 + M 18 (pl * 8 + t)) else wDa M t (pl - 1) + M 1 1 := fun h => dst_pos (by omega) h
        have cut_130 : ∀  (M2 : Mem), Sm [17] M M2 → (M2 17 ((pl + 1) * 8 + t) = wDa M t (pl + 1)) → (∀ j, j ≠ (pl + 1) * 8 + t → M2 17 j = M1 17 j) → PW X K LAY 8 (0, 0) (Zv X K LAY (fun M' => (∀ t, 0 ≤ t → t < M 15 1 → M' 17 ((pl + 1) * 8 + t) = wDa M t (pl + 1)) ∧ (∀ j, (j < (pl + 1) * 8 ∨ (pl + 2) * 8 ≤ j) → M' 17 j = M 17 j) ∧ Sm [17] M M')) 130 [some (rV K 15), some (iV pl), some (iV (M 16 pl)), some (iV (M 16 (pl - 1))), some (iV (pl * 8)), some (iV ((pl * 8) - 8)), some (iV t), none] [] M2 := by
          intro M2 hF130 k1 k2
          refine pw_iinc6 C (by decide) dX8_putSwapped_130 ?_
          refine pw_goto (tgt := 36) C dX8_putSwapped_133 (by decide) ?_
          exact ih_36 _ _ (Sm_trans Sm_refl hF130 (by decide)) (by omega) (by
                intro u q1 q2
                by_cases e : u = t
                · rw [e]; exact k1
                · rw [k2 _ (by omega)]; exact g1 u q1 (by omega)) (by intro t1 q1 q2; rw [k2 _ (by omega)]; exact g2 t1 (by omega) q2) (by intro j q; rw [k2 j (by omega)]; exact g3 j q) (by omega)
        refine pw_aload0 C dX8_putSwapped_45 ?_
        refine g_15_6 C fl_X8_32 dX8_putSwapped_46 ?_
        refine pw_iload4 C dX8_putSwapped_49 ?_
        refine pw_iload6 C dX8_putSwapped_51 ?_
        refine pw_iadd C dX8_putSwapped_53 ?_
        refine pw_iaload C lay_18 (by omega) (by decide) dX8_putSwapped_54 ?_
        refine pw_top C _ (congrFun (hF36 18 (by decide)) _) ?_
        refine pw_iload3 C dX8_putSwapped_55 ?_
        refine pw_icmp_ne (tgt := 130) C dX8_putSwapped_56 (by decide) (by omega) (by omega) (fun h56 => ?_) (fun h56 => ?_)
        · exact cut_130 _ (Sm_trans Sm_refl hF36 (by decide)) (by rw [g2 t (by omega) (by omega)]; exact (hN (fun h => h56 h.2.2.1.symm)).symm) (by intro j q; rfl)
        · refine pw_aload0 C dX8_putSwapped_59 ?_
          refine g_15_6 C fl_X8_32 dX8_putSwapped_60 ?_
          refine pw_iload5 C dX8_putSwapped_63 ?_
          refine pw_iload6 C dX8_putSwapped_65 ?_
          refine pw_iadd C dX8_putSwapped_67 ?_
          refine pw_iaload C lay_18 (by omega) (by decide) dX8_putSwapped_68 ?_
          refine pw_top C _ (congrFun (hF36 18 (by decide)) _) ?_
          refine pw_top C (M 18 ((pl - 1) * 8 + t)) (by rw [show pl * 8 - 8 + t = (pl - 1) * 8 + t by omega]) ?_
          refine pw_iload2 C dX8_putSwapped_69 ?_
          refine pw_icmp_ne (tgt := 130) C dX8_putSwapped_70 (by decide) (by omega) (by omega) (fun h70 => ?_) (fun h70 => ?_)
          · exact cut_130 _ (Sm_trans Sm_refl hF36 (by decide)) (by rw [g2 t (by omega) (by omega)]; exact (hN (fun h => h70 h.2.2.2)).symm) (by intro j q; rfl)
          · refine pw_aload0 C dX8_putSwapped_73 ?_
            refine g_15_3 C fl_X8_29 dX8_putSwapped_74 ?_
            refine pw_iload5 C dX8_putSwapped_77 ?_
            refine pw_iload6 C dX8_putSwapped_79 ?_
            refine pw_iadd C dX8_putSwapped_81 ?_
            refine pw_iaload C lay_17 (by omega) (by decide) dX8_putSwapped_82 ?_
            refine pw_top C (wDa M t (pl - 1)) (by rw [show pl * 8 - 8 + t = (pl - 1) * 8 + t by omega, g3 _ (by omega)]; exact hs1 t (by omega) (by omega)) ?_
            refine pw_aload0 C dX8_putSwapped_83 ?_
            refine g_15_5 C fl_X8_18 dX8_putSwapped_84 ?_
            refine g_1_1 C fl_X8_46 dX8_putSwapped_87 ?_
            refine pw_top C _ (congrFun (hF36 1 (by decide)) _) ?_
            refine pw_iadd C dX8_putSwapped_90 ?_
            refine pw_istore7 C (by decide) dX8_putSwapped_91 ?_
            refine pw_iload7 C dX8_putSwapped_93 ?_
            refine pw_aload0 C dX8_putSwapped_95 ?_
            refine g_15_3 C fl_X8_29 dX8_putSwapped_96 ?_
            refine pw_iload4 C dX8_putSwapped_99 ?_
            refine pw_aload0 C dX8_putSwapped_101 ?_
            refine g_15_4 C fl_X8_22 dX8_putSwapped_102 ?_
            refine pw_top C _ (congrFun (hF36 15 (by decide)) _) ?_
            refine pw_top C (8) hwd ?_
            refine pw_iadd C dX8_putSwapped_105 ?_
            refine pw_iload6 C dX8_putSwapped_106 ?_
            refine pw_iadd C dX8_putSwapped_108 ?_
            refine pw_iaload C lay_17 (by omega) (by decide) dX8_putSwapped_109 ?_
            refine pw_top C (wDa M t pl + M 2 (M 16 pl * 4 + M 18 (pl * 8 + t))) (by rw [show pl * 8 + 8 + t = (pl + 1) * 8 + t by omega]; exact g2 t (by omega) (by omega)) ?_
            refine pw_icmp_ge (tgt := 130) C dX8_putSwapped_110 (by decide) (by omega) (by omega) (fun h110 => ?_) (fun h110 => ?_)
            · refine pw_fgt (fgt_k (fgt_k (fgt_k (fgt_k (fgt_k (fgt_k (fgt_k (fgt_no fgt_nil)))))))) ?_
              exact cut_130 _ (Sm_trans Sm_refl hF36 (by decide)) (by rw [g2 t (by omega) (by omega), hY ⟨by omega, by omega, h56.symm, h70⟩, if_pos (by omega)]) (by intro j q; rfl)
            · refine pw_aload0 C dX8_putSwapped_113 ?_
              refine g_15_3 C fl_X8_29 dX8_putSwapped_114 ?_
              refine pw_iload4 C dX8_putSwapped_117 ?_
              refine pw_aload0 C dX8_putSwapped_119 ?_
              refine g_15_4 C fl_X8_22 dX8_putSwapped_120 ?_
              refine pw_top C _ (congrFun (hF36 15 (by decide)) _) ?_
              refine pw_top C (8) hwd ?_
              refine pw_iadd C dX8_putSwapped_123 ?_
              refine pw_iload6 C dX8_putSwapped_124 ?_
              refine pw_iadd C dX8_putSwapped_126 ?_
              refine pw_iload7 C dX8_putSwapped_127 ?_
              refine pw_iastore C lay_17 (by omega) (by decide) dX8_putSwapped_129 ?_
              refine pw_fgt (fgt_k (fgt_k (fgt_k (fgt_k (fgt_k (fgt_k (fgt_k (fgt_no fgt_nil)))))))) ?_
              exact cut_130 _ (Sm_up (Sm_trans Sm_refl hF36 (by decide)) (by decide)) (by rw [show (pl + 1) * 8 + t = pl * 8 + 8 + t by omega, rd_eq, hY ⟨by omega, by omega, h56.symm, h70⟩, if_neg (by omega)]) (by intro j q; rw [rd_ne (by omega)])
  exact cut_36 _ _ _ Sm_refl (by omega) (by intro u q1 q2; omega) (by intro t1 q1 q2; exact hs2 t1 q1 q2) (by intro j q; rfl) (Nat.lt_succ_self _)
set_option maxHeartbeats 4000000 in
set_option maxRecDepth 100000 in
theorem c_X8_put (l : Launch) (K : KX) (M : Mem) (pl : Int) (hR : WRa M) (hpl : 0 ≤ pl ∧ pl < M 15 0) (hs0 : ∀ t, 0 ≤ t → t < M 15 1 → M 17 (pl * 8 + t) = wDa M t pl) (hs1 : 0 < pl → ∀ t, 0 ≤ t → t < M 15 1 → M 17 ((pl - 1) * 8 + t) = wDa M t (pl - 1)) (hpk : 0 ≤ M 19 pl ∧ M 19 pl ≤ 100000) (hsq : 0 ≤ M 20 pl ∧ M 20 pl < 268435456) : MCv l K LAY yX8_put cX8_put 8 none 2 [rV K 15, iV pl] M (fun M' => (∀ t, 0 ≤ t → t < M 15 1 → M' 17 ((pl + 1) * 8 + t) = wDa M t (pl + 1)) ∧ (∀ j, (j < (pl + 1) * 8 ∨ (pl + 2) * 8 ≤ j) → M' 17 j = M 17 j) ∧ (∀ j, M' 19 j = if j = pl + 1 then M 19 pl * 4 + M 16 pl else M 19 j) ∧ (∀ j, M' 20 j = if j = pl + 1 then (((M 20 pl).toNat ||| (1 * 2 ^ (4 * pl + M 16 pl).toNat : Int).toNat : Nat) : Int) else M 20 j) ∧ Sm [17, 19, 20] M M') := by
  refine mcv_intro RX8 rfl [some (rV K 15), some (iV pl), none, none, none, none, none, none] rfl (by decide +kernel) (cat_r (cat_i cat_nil)) (Nat.le_of_ble_eq_true rfl) (fun X hX C => ?_)
  subst hX
  obtain ⟨hwd, hlen, hT, hrow, haim, hpr, hdg, hsw⟩ := id hR
  have hcr := fun (t : Int) (ht : 0 ≤ t ∧ t < M 15 1) => wDa_rng hR (t := t) ht
  have hrp := hrow pl (by omega) (by omega)
  have hp2 := p2_28 (n := 4 * pl + M 16 pl) (by omega)
  refine pw_aload0 C dX8_put_0 ?_
  refine g_15_2 C fl_X8_25 dX8_put_1 ?_
  refine pw_iload1 C dX8_put_4 ?_
  refine pw_iaload C lay_16 (by omega) (by decide) dX8_put_5 ?_
  refine pw_istore2 C (by decide) dX8_put_6 ?_
  refine pw_iload2 C dX8_put_7 ?_
  refine pw_iconst C dX8_put_8 ?_
  refine pw_imul C dX8_put_9 ?_
  refine pw_istore3 C (by decide) dX8_put_10 ?_
  refine pw_aload0 C dX8_put_11 ?_
  refine g_15_5 C fl_X8_18 dX8_put_12 ?_
  refine g_1_4 C fl_X8_41 dX8_put_15 ?_
  refine pw_astore4 C (by decide) dX8_put_18 ?_
  refine pw_iload1 C dX8_put_20 ?_
  refine pw_aload0 C dX8_put_21 ?_
  refine g_15_4 C fl_X8_22 dX8_put_22 ?_
  refine pw_top C (8) hwd ?_
  refine pw_imul C dX8_put_25 ?_
  refine pw_istore5 C (by decide) dX8_put_26 ?_
  refine pw_iload5 C dX8_put_28 ?_
  refine pw_aload0 C dX8_put_30 ?_
  refine g_15_1 C fl_X8_15 dX8_put_31 ?_
  refine pw_iadd C dX8_put_34 ?_
  refine pw_istore6 C (by decide) dX8_put_35 ?_
  refine pw_iload5 C dX8_put_37 ?_
  refine pw_istore7 C (by decide) dX8_put_39 ?_
  have cut_41 : ∀ (fu : Nat) (at9 : Int) (M1 : Mem), Sm [17] M M1 → (pl * 8 ≤ at9 ∧ at9 ≤ pl * 8 + M 15 1) → (∀ t, 0 ≤ t → t < at9 - pl * 8 → M1 17 ((pl + 1) * 8 + t) = wDa M t pl + M 2 (M 16 pl * 4 + M 18 (pl * 8 + t))) → (∀ j, (j < (pl + 1) * 8 ∨ (pl + 2) * 8 ≤ j) → M1 17 j = M 17 j) → (pl * 8 + M 15 1 - at9).toNat < fu → PW X K LAY 8 (0, 0) (Zv X K LAY (fun M' => (∀ t, 0 ≤ t → t < M 15 1 → M' 17 ((pl + 1) * 8 + t) = wDa M t (pl + 1)) ∧ (∀ j, (j < (pl + 1) * 8 ∨ (pl + 2) * 8 ≤ j) → M' 17 j = M 17 j) ∧ (∀ j, M' 19 j = if j = pl + 1 then M 19 pl * 4 + M 16 pl else M 19 j) ∧ (∀ j, M' 20 j = if j = pl + 1 then (((M 20 pl).toNat ||| (1 * 2 ^ (4 * pl + M 16 pl).toNat : Int).toNat : Nat) : Int) else M 20 j) ∧ Sm [17, 19, 20] M M')) 41 [some (rV K 15), some (iV pl), some (iV (M 16 pl)), some (iV ((M 16 pl) * 4)), some (rV K 2), some (iV (pl * 8)), some (iV ((pl * 8) + (M 15 1))), some (iV at9)] [] M1 := by
    intro fu
    induction fu with
    | zero => intro _ _ _ _ _ _ hm; exact absurd hm (Nat.not_lt_zero _)
    | succ fu ih =>
      intro at9 M1 hF41 ha g1 g3 hm
      have ih_41 := ih
      have hm_41 := hm
      refine pw_iload7 C dX8_put_41 ?_
      refine pw_iload6 C dX8_put_43 ?_
      refine pw_icmp_ge (tgt := 86) C dX8_put_45 (by decide) (by omega) (by omega) (fun h45 => ?_) (fun h45 => ?_)
      · have hat : at9 = pl * 8 + M 15 1 := by omega
        refine pw_aload0 C dX8_put_86 ?_
        refine g_15_7 C fl_X8_35 dX8_put_87 ?_
        refine pw_iload1 C dX8_put_90 ?_
        refine pw_iconst C dX8_put_91 ?_
        refine pw_iadd C dX8_put_92 ?_
        refine pw_aload0 C dX8_put_93 ?_
        refine g_15_7 C fl_X8_35 dX8_put_94 ?_
        refine pw_iload1 C dX8_put_97 ?_
        refine pw_iaload C lay_19 (by omega) (by decide) dX8_put_98 ?_
        refine pw_top C _ (congrFun (hF41 19 (by decide)) _) ?_
        refine pw_iconst C dX8_put_99 ?_
        refine pw_ishl C (M 19 pl * 2 ^ (2 : Int).toNat) (b_shl (by omega) (by decide) (by rw [show (2 : Int) ^ (2 : Int).toNat = 4 by decide]; omega)) dX8_put_100 ?_
        refine pw_iload2 C dX8_put_101 ?_
        refine pw_ior C (M 19 pl * 4 + M 16 pl) (b_pk (by omega) hrp) dX8_put_102 ?_
        refine pw_iastore C lay_19 (by omega) (by decide) dX8_put_103 ?_
        refine pw_aload0 C dX8_put_104 ?_
        refine g_15_8 C fl_X8_38 dX8_put_105 ?_
        refine pw_iload1 C dX8_put_108 ?_
        refine pw_iconst C dX8_put_109 ?_
        refine pw_iadd C dX8_put_110 ?_
        refine pw_aload0 C dX8_put_111 ?_
        refine g_15_8 C fl_X8_38 dX8_put_112 ?_
        refine pw_iload1 C dX8_put_115 ?_
        refine pw_iaload C lay_20 (by omega) (by decide) dX8_put_116 ?_
        refine pw_top C _ (rd_nc (by decide)) ?_
        refine pw_top C _ (congrFun (hF41 20 (by decide)) _) ?_
        refine pw_iconst C dX8_put_117 ?_
        refine pw_iconst C dX8_put_118 ?_
        refine pw_iload1 C dX8_put_119 ?_
        refine pw_imul C dX8_put_120 ?_
        refine pw_iload2 C dX8_put_121 ?_
        refine pw_iadd C dX8_put_122 ?_
        refine pw_ishl C (1 * 2 ^ (4 * pl + M 16 pl).toNat) (b_shl (by decide) (by omega) (by omega)) dX8_put_123 ?_
        refine pw_ior C ((((M 20 pl).toNat ||| (1 * 2 ^ (4 * pl + M 16 pl).toNat : Int).toNat : Nat) : Int)) (b_or (by omega) (by omega)) dX8_put_124 ?_
        refine pw_iastore C lay_20 (by omega) (by decide) dX8_put_125 ?_
        refine pw_aload0 C dX8_put_126 ?_
        refine g_15_5 C fl_X8_18 dX8_put_127 ?_
        refine g_1_1 C fl_X8_46 dX8_put_130 ?_
        refine pw_top C _ (rd_nc (by decide)) ?_
        refine pw_top C _ (rd_nc (by decide)) ?_
        refine pw_top C _ (congrFun (hF41 1 (by decide)) _) ?_
        refine pw_if_le (tgt := 157) C dX8_put_133 (by decide) (by omega) (fun h133 => ?_) (fun h133 => ?_)
        · exact pw_vretV C dX8_put_157 (⟨by
                first
                  | (intro t q1 q2
                     rw [h1_154 t q1 (by rw [rd_nc (by decide), rd_nc (by decide), hF41 15 (by decide)]; exact q2)]
                     rw [wDa_c (M := M) (by rw [up2_ne (by decide), up2_ne (by decide), hF41 _ (by decide)]) (by rw [up2_ne (by decide), up2_ne (by decide), hF41 _ (by decide)]) (by rw [up2_ne (by decide), up2_ne (by decide), hF41 _ (by decide)]) (by rw [up2_ne (by decide), up2_ne (by decide), hF41 _ (by decide)])])
                  | (intro t q1 q2
                     rw [rd_nc (by decide), rd_nc (by decide), g1 t q1 (by omega)]
                     first
                       | exact (dst_neg (by omega) (by omega)).symm
                       | exact (dst_like (by omega) hsw.1 hdg hrp h149).symm), by
                first
                  | (intro j q; rw [h2_154 j q, rd_nc (by decide), rd_nc (by decide)]; exact g3 j q)
                  | (intro j q; rw [rd_nc (by decide), rd_nc (by decide)]; exact g3 j q), by
                first
                  | (intro j; rw [hF154 19 (by decide), rd_nc (by decide), rd_if, hF41 19 (by decide)])
                  | (intro j; rw [rd_nc (by decide), rd_if, hF41 19 (by decide)]), by
                first
                  | (intro j; rw [hF154 20 (by decide), rd_if, rd_nc (by decide), hF41 20 (by decide)])
                  | (intro j; rw [rd_if, rd_nc (by decide), hF41 20 (by decide)]), (Sm_up (Sm_up (Sm_trans Sm_refl hF41 (by decide)) (by decide)) (by decide))⟩)
        · refine pw_iload1 C dX8_put_136 ?_
          refine pw_if_le (tgt := 157) C dX8_put_137 (by decide) (by omega) (fun h137 => ?_) (fun h137 => ?_)
          · exact pw_vretV C dX8_put_157 (⟨by
                  first
                    | (intro t q1 q2
                       rw [h1_154 t q1 (by rw [rd_nc (by decide), rd_nc (by decide), hF41 15 (by decide)]; exact q2)]
                       rw [wDa_c (M := M) (by rw [up2_ne (by decide), up2_ne (by decide), hF41 _ (by decide)]) (by rw [up2_ne (by decide), up2_ne (by decide), hF41 _ (by decide)]) (by rw [up2_ne (by decide), up2_ne (by decide), hF41 _ (by decide)]) (by rw [up2_ne (by decide), up2_ne (by decide), hF41 _ (by decide)])])
                    | (intro t q1 q2
                       rw [rd_nc (by decide), rd_nc (by decide), g1 t q1 (by omega)]
                       first
                         | exact (dst_neg (by omega) (by omega)).symm
                         | exact (dst_like (by omega) hsw.1 hdg hrp h149).symm), by
                  first
                    | (intro j q; rw [h2_154 j q, rd_nc (by decide), rd_nc (by decide)]; exact g3 j q)
                    | (intro j q; rw [rd_nc (by decide), rd_nc (by decide)]; exact g3 j q), by
                  first
                    | (intro j; rw [hF154 19 (by decide), rd_nc (by decide), rd_if, hF41 19 (by decide)])
                    | (intro j; rw [rd_nc (by decide), rd_if, hF41 19 (by decide)]), by
                  first
                    | (intro j; rw [hF154 20 (by decide), rd_if, rd_nc (by decide), hF41 20 (by decide)])
                    | (intro j; rw [rd_if, rd_nc (by decide), hF41 20 (by decide)]), (Sm_up (Sm_up (Sm_trans Sm_refl hF41 (by decide)) (by decide)) (by decide))⟩)
          · have hrq := hrow (pl - 1) (by omega) (by omega)
            refine pw_aload0 C dX8_put_140 ?_
            refine g_15_2 C fl_X8_25 dX8_put_141 ?_
            refine pw_iload1 C dX8_put_144 ?_
            refine pw_iconst C dX8_put_145 ?_
            refine pw_isub C dX8_put_146 ?_
            refine pw_iaload C lay_16 (by omega) (by decide) dX8_put_147 ?_
            refine pw_top C _ (rd_nc (by decide)) ?_
            refine pw_top C _ (rd_nc (by decide)) ?_
            refine pw_top C _ (congrFun (hF41 16 (by decide)) _) ?_
            refine pw_iload2 C dX8_put_148 ?_
            refine pw_icmp_eq (tgt := 157) C dX8_put_149 (by decide) (by omega) (by omega) (fun h149 => ?_) (fun h149 => ?_)
            · exact pw_vretV C dX8_put_157 (⟨by
                    first
                      | (intro t q1 q2
                         rw [h1_154 t q1 (by rw [rd_nc (by decide), rd_nc (by decide), hF41 15 (by decide)]; exact q2)]
                         rw [wDa_c (M := M) (by rw [up2_ne (by decide), up2_ne (by decide), hF41 _ (by decide)]) (by rw [up2_ne (by decide), up2_ne (by decide), hF41 _ (by decide)]) (by rw [up2_ne (by decide), up2_ne (by decide), hF41 _ (by decide)]) (by rw [up2_ne (by decide), up2_ne (by decide), hF41 _ (by decide)])])
                      | (intro t q1 q2
                         rw [rd_nc (by decide), rd_nc (by decide), g1 t q1 (by omega)]
                         first
                           | exact (dst_neg (by omega) (by omega)).symm
                           | exact (dst_like (by omega) hsw.1 hdg hrp h149).symm), by
                    first
                      | (intro j q; rw [h2_154 j q, rd_nc (by decide), rd_nc (by decide)]; exact g3 j q)
                      | (intro j q; rw [rd_nc (by decide), rd_nc (by decide)]; exact g3 j q), by
                    first
                      | (intro j; rw [hF154 19 (by decide), rd_nc (by decide), rd_if, hF41 19 (by decide)])
                      | (intro j; rw [rd_nc (by decide), rd_if, hF41 19 (by decide)]), by
                    first
                      | (intro j; rw [hF154 20 (by decide), rd_if, rd_nc (by decide), hF41 20 (by decide)])
                      | (intro j; rw [rd_if, rd_nc (by decide), hF41 20 (by decide)]), (Sm_up (Sm_up (Sm_trans Sm_refl hF41 (by decide)) (by decide)) (by decide))⟩)
            · refine pw_aload0 C dX8_put_152 ?_
              refine pw_iload1 C dX8_put_153 ?_
              have nz154_1 : (up2 (up2 M1 19 (pl + 1) (M 19 pl * 4 + M 16 pl)) 20 (pl + 1) ((((M 20 pl).toNat ||| (1 * 2 ^ (4 * pl + M 16 pl).toNat : Int).toNat : Nat) : Int))) 1 = M 1 := ((up2_ne (by decide)).trans ((up2_ne (by decide)).trans (hF41 1 (by decide))))
              have nz154_2 : (up2 (up2 M1 19 (pl + 1) (M 19 pl * 4 + M 16 pl)) 20 (pl + 1) ((((M 20 pl).toNat ||| (1 * 2 ^ (4 * pl + M 16 pl).toNat : Int).toNat : Nat) : Int))) 2 = M 2 := ((up2_ne (by decide)).trans ((up2_ne (by decide)).trans (hF41 2 (by decide))))
              have nz154_15 : (up2 (up2 M1 19 (pl + 1) (M 19 pl * 4 + M 16 pl)) 20 (pl + 1) ((((M 20 pl).toNat ||| (1 * 2 ^ (4 * pl + M 16 pl).toNat : Int).toNat : Nat) : Int))) 15 = M 15 := ((up2_ne (by decide)).trans ((up2_ne (by decide)).trans (hF41 15 (by decide))))
              have nz154_16 : (up2 (up2 M1 19 (pl + 1) (M 19 pl * 4 + M 16 pl)) 20 (pl + 1) ((((M 20 pl).toNat ||| (1 * 2 ^ (4 * pl + M 16 pl).toNat : Int).toNat : Nat) : Int))) 16 = M 16 := ((up2_ne (by decide)).trans ((up2_ne (by decide)).trans (hF41 16 (by decide))))
              have nz154_17 : (up2 (up2 M1 19 (pl + 1) (M 19 pl * 4 + M 16 pl)) 20 (pl + 1) ((((M 20 pl).toNat ||| (1 * 2 ^ (4 * pl + M 16 pl).toNat : Int).toNat : Nat) : Int))) 17 = M1 17 := ((up2_ne (by decide)).trans (up2_ne (by decide)))
              have nz154_18 : (up2 (up2 M1 19 (pl + 1) (M 19 pl * 4 + M 16 pl)) 20 (pl + 1) ((((M 20 pl).toNat ||| (1 * 2 ^ (4 * pl + M 16 pl).toNat : Int).toNat : Nat) : Int))) 18 = M 18 := ((up2_ne (by decide)).trans ((up2_ne (by decide)).trans (hF41 18 (by decide))))
              refine pw_cVv1 C (c_X8_putSwapped _ K _ _ (WRa_c (by rw [up2_ne (by decide), up2_ne (by decide), hF41 _ (by decide)]) (by rw [up2_ne (by decide), up2_ne (by decide), hF41 _ (by decide)]) (by rw [up2_ne (by decide), up2_ne (by decide), hF41 _ (by decide)]) (by rw [up2_ne (by decide), up2_ne (by decide), hF41 _ (by decide)]) (by rw [up2_ne (by decide), up2_ne (by decide), hF41 _ (by decide)]) hR) (by rw [rd_nc (by decide), rd_nc (by decide), hF41 15 (by decide)]; omega) (by rw [rd_nc (by decide), rd_nc (by decide), hF41 1 (by decide)]; omega) (by
rw [wDa_c (M := M) (by rw [up2_ne (by decide), up2_ne (by decide), hF41 _ (by decide)]) (by rw [up2_ne (by decide), up2_ne (by decide), hF41 _ (by decide)]) (by rw [up2_ne (by decide), up2_ne (by decide), hF41 _ (by decide)]) (by rw [up2_ne (by decide), up2_ne (by decide), hF41 _ (by decide)])]
intro t q1 q2
rw [rd_nc (by decide), rd_nc (by decide), hF41 15 (by decide)] at q2
rw [rd_nc (by decide), rd_nc (by decide), rd_nc (by decide), rd_nc (by decide), rd_nc (by decide), rd_nc (by decide), rd_nc (by decide), rd_nc (by decide), hF41 2 (by decide), hF41 16 (by decide), hF41 18 (by decide)]
exact g1 t q1 (by omega)) (by
rw [wDa_c (M := M) (by rw [up2_ne (by decide), up2_ne (by decide), hF41 _ (by decide)]) (by rw [up2_ne (by decide), up2_ne (by decide), hF41 _ (by decide)]) (by rw [up2_ne (by decide), up2_ne (by decide), hF41 _ (by decide)]) (by rw [up2_ne (by decide), up2_ne (by decide), hF41 _ (by decide)])]
intro t q1 q2
rw [rd_nc (by decide), rd_nc (by decide), hF41 15 (by decide)] at q2
rw [rd_nc (by decide), rd_nc (by decide), g3 _ (by omega)]
exact hs1 (by omega) t q1 q2)) cb_X8_putSwapped lay_15 kc_8 rfl ml_X8_49 dX8_put_154 (by decide) (Nat.le_of_ble_eq_true rfl) (fun M154 hQ => ?_)
              obtain ⟨h1_154, h2_154, hF154⟩ := hQ
              exact pw_vretV C dX8_put_157 (⟨by
                    first
                      | (intro t q1 q2
                         rw [h1_154 t q1 (by rw [rd_nc (by decide), rd_nc (by decide), hF41 15 (by decide)]; exact q2)]
                         rw [wDa_c (M := M) (by rw [up2_ne (by decide), up2_ne (by decide), hF41 _ (by decide)]) (by rw [up2_ne (by decide), up2_ne (by decide), hF41 _ (by decide)]) (by rw [up2_ne (by decide), up2_ne (by decide), hF41 _ (by decide)]) (by rw [up2_ne (by decide), up2_ne (by decide), hF41 _ (by decide)])])
                      | (intro t q1 q2
                         rw [rd_nc (by decide), rd_nc (by decide), g1 t q1 (by omega)]
                         first
                           | exact (dst_neg (by omega) (by omega)).symm
                           | exact (dst_like (by omega) hsw.1 hdg hrp h149).symm), by
                    first
                      | (intro j q; rw [h2_154 j q, rd_nc (by decide), rd_nc (by decide)]; exact g3 j q)
                      | (intro j q; rw [rd_nc (by decide), rd_nc (by decide)]; exact g3 j q), by
                    first
                      | (intro j; rw [hF154 19 (by decide), rd_nc (by decide), rd_if, hF41 19 (by decide)])
                      | (intro j; rw [rd_nc (by decide), rd_if, hF41 19 (by decide)]), by
                    first
                      | (intro j; rw [hF154 20 (by decide), rd_if, rd_nc (by decide), hF41 20 (by decide)])
                      | (intro j; rw [rd_if, rd_nc (by decide), hF41 20 (by decide)]), (Sm_trans (Sm_up (Sm_up (Sm_trans Sm_refl hF41 (by decide)) (by decide)) (by decide)) hF154 (by decide))⟩)
      · refine pw_aload0 C dX8_put_48 ?_
        refine g_15_3 C fl_X8_29 dX8_put_49 ?_
        refine pw_iload7 C dX8_put_52 ?_
        refine pw_aload0 C dX8_put_54 ?_
        refine g_15_4 C fl_X8_22 dX8_put_55 ?_
        refine pw_top C _ (congrFun (hF41 15 (by decide)) _) ?_
        refine pw_top C (8) hwd ?_
        refine pw_iadd C dX8_put_58 ?_
        refine pw_aload0 C dX8_put_59 ?_
        refine g_15_3 C fl_X8_29 dX8_put_60 ?_
        refine pw_iload7 C dX8_put_63 ?_
        refine pw_iaload C lay_17 (by omega) (by decide) dX8_put_65 ?_
        refine pw_top C (wDa M (at9 - pl * 8) pl) (by rw [g3 _ (by omega), show at9 = pl * 8 + (at9 - pl * 8) by omega, hs0 _ (by omega) (by omega), show pl * 8 + (at9 - pl * 8) - pl * 8 = at9 - pl * 8 by omega]) ?_
        refine pw_aload4 C dX8_put_66 ?_
        refine pw_iload3 C dX8_put_68 ?_
        refine pw_aload0 C dX8_put_69 ?_
        refine g_15_6 C fl_X8_32 dX8_put_70 ?_
        refine pw_iload7 C dX8_put_73 ?_
        refine pw_iaload C lay_18 (by omega) (by decide) dX8_put_75 ?_
        refine pw_top C _ (congrFun (hF41 18 (by decide)) _) ?_
        refine pw_top C (M 18 (pl * 8 + (at9 - pl * 8))) (by rw [show pl * 8 + (at9 - pl * 8) = at9 by omega]) ?_
        have q3 := haim pl (at9 - pl * 8) (by omega) (by omega) (by omega) (by omega)
        refine pw_iadd C dX8_put_76 ?_
        refine pw_iaload C lay_2 (by omega) (by decide) dX8_put_77 ?_
        refine pw_top C _ (congrFun (hF41 2 (by decide)) _) ?_
        refine pw_iadd C dX8_put_78 ?_
        refine pw_iastore C lay_17 (by omega) (by decide) dX8_put_79 ?_
        refine pw_iinc7 C (by decide) dX8_put_80 ?_
        refine pw_goto (tgt := 41) C dX8_put_83 (by decide) ?_
        exact ih_41 _ _ (Sm_up (Sm_trans Sm_refl hF41 (by decide)) (by decide)) (by omega) (by
              intro t q1 q2
              by_cases e : t = at9 - pl * 8
              · rw [e, show (pl + 1) * 8 + (at9 - pl * 8) = at9 + 8 by omega]; exact rd_eq
              · rw [rd_ne (by omega)]; exact g1 t q1 (by omega)) (by intro j q; rw [rd_ne (by omega)]; exact g3 j q) (by omega)
  exact cut_41 _ _ _ Sm_refl (by omega) (by intro t q1 q2; omega) (by intro j q; rfl) (Nat.lt_succ_self _)
theorem WSa_put {M M' : Mem} {i : Int} (hR : WRa M) (hi : 0 ≤ i ∧ i < M 15 0) (h : WSa M i) (hS : Sm [17, 19, 20] M M') (h1 : ∀ t, 0 ≤ t → t < M 15 1 → M' 17 ((i + 1) * 8 + t) = wDa M t (i + 1)) (h2 : ∀ j, (j < (i + 1) * 8 ∨ (i + 2) * 8 ≤ j) → M' 17 j = M 17 j) (h3 : ∀ j, M' 19 j = if j = i + 1 then M 19 i * 4 + M 16 i else M 19 j) (h4 : ∀ j, M' 20 j = if j = i + 1 then (((M 20 i).toNat ||| (1 * 2 ^ (4 * i + M 16 i).toNat : Int).toNat : Nat) : Int) else M 20 j) : WSa M' (i + 1) := by
  obtain ⟨hwd, hlen, hT, hrow, haim, hpr, hdg, hsw⟩ := id hR
  have hr := hrow i (by omega) (by omega)
  unfold WSa
  rw [wDa_c (M := M) (hS 16 (by decide)) (hS 18 (by decide)) (hS 2 (by decide)) (hS 1 (by decide)), hS 15 (by decide), hS 16 (by decide)]
  refine ⟨fun j q1 q2 t q3 q4 => ?_, fun j q1 q2 => ?_⟩
  · by_cases e : j = i + 1
    · rw [e]; exact h1 t q3 q4
    · rw [h2 _ (by omega)]; exact h.1 j q1 (by omega) t q3 q4
  · rw [h3, h4]
    by_cases e : j = i + 1
    · rw [if_pos e, if_pos e, e, vl_s hi.1, spI_s hi.1 hr.1, (h.2 i hi.1 (by omega)).1, (h.2 i hi.1 (by omega)).2]
      exact ⟨rfl, rfl⟩
    · rw [if_neg e, if_neg e]
      exact h.2 j q1 (by omega)
theorem WSa_pk {M : Mem} {n i : Int} (hR : WRa M) (h : WSa M n) (hi : 0 ≤ i ∧ i ≤ n) (hn : n ≤ M 15 0) : (0 ≤ M 19 i ∧ M 19 i ≤ 100000) ∧ (0 ≤ M 20 i ∧ M 20 i < 268435456) := by
  obtain ⟨hwd, hlen, hT, hrow, haim, hpr, hdg, hsw⟩ := hR
  rw [(h.2 i hi.1 hi.2).1, (h.2 i hi.1 hi.2).2]
  refine ⟨?_, spI_rng (by omega) (fun j q1 q2 => hrow j q1 (by omega))⟩
  have h1 := pk4_lt (n := i) (fun j q1 q2 => hrow j q1 (by omega)) i hi.1 (Int.le_refl _)
  have h2 : (4 : Int) ^ i.toNat ≤ 4 ^ 7 := by
    have h5 : (4 : Nat) ^ i.toNat ≤ 4 ^ 7 := Nat.pow_le_pow_right (by decide) (by omega)
    have h6 : ((4 ^ i.toNat : Nat) : Int) ≤ ((4 ^ 7 : Nat) : Int) := by omega
    rw [Int.natCast_pow, Int.natCast_pow] at h6
    exact h6
  have h3 : (4 : Int) ^ 7 = 16384 := by decide
  omega
set_option maxHeartbeats 4000000 in
set_option maxRecDepth 100000 in
theorem c_X8_putFrom (l : Launch) (K : KX) (M : Mem) (pl : Int) (hR : WRa M) (hpl : 0 ≤ pl ∧ pl ≤ M 15 0) (hS : WSa M pl) : MCv l K LAY yX8_putFrom cX8_putFrom 3 none 3 [rV K 15, iV pl] M (fun M' => (WSa M' (M 15 0)) ∧ ((∀ j, j < 8 → M' 17 j = M 17 j) ∧ M' 19 0 = M 19 0 ∧ M' 20 0 = M 20 0) ∧ Sm [17, 19, 20] M M') := by
  refine mcv_intro RX8 rfl [some (rV K 15), some (iV pl), none] rfl (by decide +kernel) (cat_r (cat_i cat_nil)) (Nat.le_of_ble_eq_true rfl) (fun X hX C => ?_)
  subst hX
  obtain ⟨hwd, hlen, hT, hrow, haim, hpr, hdg, hsw⟩ := id hR
  have hcr := fun (t : Int) (ht : 0 ≤ t ∧ t < M 15 1) => wDa_rng hR (t := t) ht
  refine pw_iload1 C dX8_putFrom_0 ?_
  refine pw_istore2 C (by decide) dX8_putFrom_1 ?_
  have cut_2 : ∀ (fu : Nat) (i : Int) (M1 : Mem), Sm [17, 19, 20] M M1 → (pl ≤ i ∧ i ≤ M 15 0) → (WSa M1 i) → ((∀ j, j < 8 → M1 17 j = M 17 j) ∧ M1 19 0 = M 19 0 ∧ M1 20 0 = M 20 0) → (M 15 0 - i).toNat < fu → PW X K LAY 3 (0, 0) (Zv X K LAY (fun M' => (WSa M' (M 15 0)) ∧ ((∀ j, j < 8 → M' 17 j = M 17 j) ∧ M' 19 0 = M 19 0 ∧ M' 20 0 = M 20 0) ∧ Sm [17, 19, 20] M M')) 2 [some (rV K 15), some (iV pl), some (iV i)] [] M1 := by
    intro fu
    induction fu with
    | zero => intro _ _ _ _ _ _ hm; exact absurd hm (Nat.not_lt_zero _)
    | succ fu ih =>
      intro i M1 hF2 hi g1 g2 hm
      have ih_2 := ih
      have hm_2 := hm
      refine pw_iload2 C dX8_putFrom_2 ?_
      refine pw_aload0 C dX8_putFrom_3 ?_
      refine g_15_0 C fl_X8_9 dX8_putFrom_4 ?_
      refine pw_top C _ (congrFun (hF2 15 (by decide)) _) ?_
      refine pw_icmp_ge (tgt := 21) C dX8_putFrom_7 (by decide) (by omega) (by omega) (fun h7 => ?_) (fun h7 => ?_)
      · exact pw_vretV C dX8_putFrom_21 (⟨by rw [show M 15 0 = i by omega]; exact g1, by exact g2, (Sm_trans Sm_refl hF2 (by decide))⟩)
      · have hR1 : WRa M1 := WRa_c (hF2 _ (by decide)) (hF2 _ (by decide)) (hF2 _ (by decide)) (hF2 _ (by decide)) (hF2 _ (by decide)) hR
        have ho1 := hF2 15 (by decide)
        have hb1 := WSa_pk hR1 g1 (i := i) (by omega) (by rw [ho1]; omega)
        refine pw_aload0 C dX8_putFrom_10 ?_
        refine pw_iload2 C dX8_putFrom_11 ?_
        have nz12_15 : M1 15 = M 15 := (hF2 15 (by decide))
        refine pw_cVv1 C (c_X8_put _ K _ _ (hR1) (by rw [ho1]; omega) (fun t q1 q2 => g1.1 i (by omega) (by omega) t q1 q2) (fun h t q1 q2 => g1.1 (i - 1) (by omega) (by omega) t q1 q2) (hb1.1) (hb1.2)) cb_X8_put lay_15 kc_8 rfl ml_X8_53 dX8_putFrom_12 (by decide) (Nat.le_of_ble_eq_true rfl) (fun M12 hQ => ?_)
        obtain ⟨h1_12, h2_12, h3_12, h4_12, hF12⟩ := hQ
        refine pw_iinc2 C (by decide) dX8_putFrom_15 ?_
        refine pw_goto (tgt := 2) C dX8_putFrom_18 (by decide) ?_
        exact ih_2 _ _ (Sm_trans (Sm_trans Sm_refl hF2 (by decide)) hF12 (by decide)) (by omega) (by exact WSa_put hR1 (by rw [ho1]; omega) g1 hF12 h1_12 h2_12 h3_12 h4_12) (by exact ⟨fun j q => by rw [h2_12 j (by omega)]; exact g2.1 j q, by rw [h3_12, if_neg (by omega)]; exact g2.2.1, by rw [h4_12, if_neg (by omega)]; exact g2.2.2⟩) (by omega)
  exact cut_2 _ _ _ Sm_refl (by omega) (by exact hS) (by exact ⟨fun _ _ => rfl, rfl, rfl⟩) (Nat.lt_succ_self _)
set_option maxHeartbeats 4000000 in
set_option maxRecDepth 100000 in
theorem c_X8_advance (l : Launch) (K : KX) (M : Mem) (la : Int) (hl : 2 ≤ M 1 0 ∧ M 1 0 ≤ 4) (hla : 0 ≤ la ∧ la < M 15 0 ∧ M 15 0 ≤ 7) (hx : ∀ i, 0 ≤ i → i ≤ la → 0 ≤ M 16 i ∧ M 16 i < M 1 0) : MCi l K LAY yX8_advance cX8_advance 2 (some .int) 2 [rV K 15, iV la] M (fun r M' => (((∀ i, 0 ≤ i → i ≤ la → M 16 i = M 1 0 - 1) ∧ r = -1 ∧ M' = M) ∨ ((0 ≤ r ∧ r ≤ la) ∧ M 16 r < M 1 0 - 1 ∧ (∀ i, r < i → i ≤ la → M 16 i = M 1 0 - 1) ∧ ∀ i, M' 16 i = if i = r then M 16 r + 1 else if r < i ∧ i < M 15 0 then 0 else M 16 i)) ∧ Sm [16] M M') := by
  refine mci_intro RX8 rfl [some (rV K 15), some (iV la)] rfl (by decide +kernel) (cat_r (cat_i cat_nil)) (Nat.le_of_ble_eq_true rfl) (fun X hX C => ?_)
  subst hX
  refine pw_aload0 C dX8_advance_0 ?_
  refine g_15_5 C fl_X8_18 dX8_advance_1 ?_
  refine pw_aload0 C dX8_advance_4 ?_
  refine g_15_2 C fl_X8_25 dX8_advance_5 ?_
  refine pw_iload1 C dX8_advance_8 ?_
  refine pw_aload0 C dX8_advance_9 ?_
  refine g_15_0 C fl_X8_9 dX8_advance_10 ?_
  refine pw_cVi3 C (c_X3_advance _ K _ 16 _ _ _ (lay_16) (by decide) (by decide) (by omega) (by omega) (hx)) cb_X3_advance lay_1 kc_3 rfl ml_X8_56 dX8_advance_13 (by decide) (Nat.le_of_ble_eq_true rfl) (fun r13 M13 hQ => ?_)
  obtain ⟨hp_13, hF13⟩ := hQ
  exact pw_iretI C dX8_advance_16 (⟨by exact hp_13, (Sm_trans Sm_refl hF13 (by decide))⟩)
