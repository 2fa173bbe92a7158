set_option maxHeartbeats 4000000 in
set_option maxRecDepth 100000 in
theorem c_X5_clear (l : Launch) (K : KX) (M : Mem) : MCv l K LAY yX5_clear cX5_clear 2 none 1 [rV K 21] M (fun M' => (M' 21 0 = M 21 0) ∧ (M' 21 1 = -1) ∧ (M' 21 3 = -1) ∧ (∀ r, 0 ≤ r → r ≤ 63 → M' 22 r = 0 ∧ M' 23 r = 0) ∧ Sm [21, 22, 23] M M') := by
  refine mcv_intro RX5 rfl [some (rV K 21), none] rfl (by decide +kernel) (cat_r cat_nil) (Nat.le_of_ble_eq_true rfl) (fun X hX C => ?_)
  subst hX
  refine pw_aload0 C dX5_clear_0 ?_
  refine pw_iconst C dX5_clear_1 ?_
  refine p_21_1 C fl_X5_15 dX5_clear_2 ?_
  refine pw_aload0 C dX5_clear_5 ?_
  refine pw_iconst C dX5_clear_6 ?_
  refine p_21_3 C fl_X5_22 dX5_clear_7 ?_
  refine pw_aload0 C dX5_clear_10 ?_
  refine pw_iconst C dX5_clear_11 ?_
  refine p_21_5 C fl_X5_28 dX5_clear_12 ?_
  refine pw_iconst C dX5_clear_15 ?_
  refine pw_istore1 C (by decide) dX5_clear_16 ?_
  have cut_17 : ∀ (fu : Nat) (i : Int) (M1 : Mem), Sm [21, 22, 23] M M1 → (0 ≤ i ∧ i ≤ 64) → (M1 21 0 = M 21 0) → (M1 21 1 = -1) → (M1 21 3 = -1) → (∀ r, 0 ≤ r → r < i → M1 22 r = 0 ∧ M1 23 r = 0) → (64 - i).toNat < fu → PW X K LAY 2 (0, 0) (Zv X K LAY (fun M' => (M' 21 0 = M 21 0) ∧ (M' 21 1 = -1) ∧ (M' 21 3 = -1) ∧ (∀ r, 0 ≤ r → r ≤ 63 → M' 22 r = 0 ∧ M' 23 r = 0) ∧ Sm [21, 22, 23] M M')) 17 [some (rV K 21), some (iV i)] [] M1 := by
    intro fu
    induction fu with
    | zero => intro _ _ _ _ _ _ _ _ hm; exact absurd hm (Nat.not_lt_zero _)
    | succ fu ih =>
      intro i M1 hF17 hi g0 g1 g3 g4 hm
      have ih_17 := ih
      have hm_17 := hm
      refine pw_iload1 C dX5_clear_17 ?_
      refine pw_bipush C dX5_clear_18 (by decide) ?_
      refine pw_icmp_gt (tgt := 43) C dX5_clear_20 (by decide) (by omega) (by omega) (fun h20 => ?_) (fun h20 => ?_)
      · exact pw_vretV C dX5_clear_43 (⟨by exact g0, by exact g1, by exact g3, by intro r q1 q2; exact g4 r q1 (by omega), (Sm_trans Sm_refl hF17 (by decide))⟩)
      · refine pw_aload0 C dX5_clear_23 ?_
        refine g_21_6 C fl_X5_31 dX5_clear_24 ?_
        refine pw_iload1 C dX5_clear_27 ?_
        refine pw_iconst C dX5_clear_28 ?_
        refine pw_iastore C lay_22 (by omega) (by decide) dX5_clear_29 ?_
        refine pw_aload0 C dX5_clear_30 ?_
        refine g_21_7 C fl_X5_35 dX5_clear_31 ?_
        refine pw_iload1 C dX5_clear_34 ?_
        refine pw_iconst C dX5_clear_35 ?_
        refine pw_iastore C lay_23 (by omega) (by decide) dX5_clear_36 ?_
        refine pw_iinc1 C (by decide) dX5_clear_37 ?_
        refine pw_goto (tgt := 17) C dX5_clear_40 (by decide) ?_
        exact ih_17 _ _ (Sm_up (Sm_up (Sm_trans Sm_refl hF17 (by decide)) (by decide)) (by decide)) (by omega) (by rw [rd_nc (by decide), rd_nc (by decide)]; exact g0) (by rw [rd_nc (by decide), rd_nc (by decide)]; exact g1) (by rw [rd_nc (by decide), rd_nc (by decide)]; exact g3) (by
              intro r q1 q2
              rw [rd_nc (by decide), rd_if, rd_if, rd_nc (by decide)]
              by_cases e : r = i
              · rw [if_pos e, if_pos e]; exact ⟨rfl, rfl⟩
              · rw [if_neg e, if_neg e]; exact g4 r q1 (by omega)) (by omega)
  exact cut_17 _ _ _ (Sm_up (Sm_up (Sm_up Sm_refl (by decide)) (by decide)) (by decide)) (by omega) (by rw [rd_ne (by decide), rd_ne (by decide), rd_ne (by decide)]) (by rw [rd_ne (by decide), rd_ne (by decide)]; exact rd_eq) (by rw [rd_ne (by decide)]; exact rd_eq) (by intro r q1 q2; omega) (Nat.lt_succ_self _)
theorem up_cn {c : Cfg} {n i : Int} (hn : 0 ≤ n) (hi : 1 ≤ i) : cnI (fun j => cdK c j && decide (rdK c j = i)) n + cnI (fun j => cdK c j && decide (rdK c j ≤ (i - 1))) n = cnI (fun j => cdK c j && decide (rdK c j ≤ i)) n := by
  rw [Int.add_comm, ← cnI_add (p := fun j => cdK c j && decide (rdK c j ≤ i - 1)) (q := fun j => cdK c j && decide (rdK c j = i)) n hn]
  intro j _ _
  simp only [Bool.and_eq_true, decide_eq_true_eq]
  by_cases hc : cdK c j = true
  · simp only [hc, true_and]
    omega
  · simp [hc]
theorem up_se {c : Cfg} {n i y z : Int} (hi : 1 ≤ i) (hy : SeenOK c (y) (fun j => cdK c j && decide (rdK c j = i)) n) (hz : SeenOK c (z) (fun j => cdK c j && decide (rdK c j ≤ (i - 1))) n) : SeenOK c (((y.toNat ||| z.toNat : Nat) : Int)) (fun j => cdK c j && decide (rdK c j ≤ i)) n := by
  have y9 := hy.1
  have z9 := hz.1
  refine ⟨⟨by omega, ?_⟩, fun t => ?_⟩
  · have : y.toNat ||| z.toNat < 2 ^ 28 := Nat.or_lt_two_pow (by omega) (by omega)
    omega
  · rw [Int.toNat_natCast, Nat.testBit_or, Bool.or_eq_true, hy.2 t, hz.2 t]
    simp only [Bool.and_eq_true, decide_eq_true_eq]
    constructor
    · rintro (⟨j, a, b, d⟩ | ⟨j, a, b, d⟩)
      · exact ⟨j, a, ⟨b.1, by omega⟩, d⟩
      · exact ⟨j, a, ⟨b.1, by omega⟩, d⟩
    · rintro ⟨j, a, b, d⟩
      by_cases e : rdK c j = i
      · exact Or.inl ⟨j, a, ⟨b.1, e⟩, d⟩
      · exact Or.inr ⟨j, a, ⟨b.1, by omega⟩, d⟩
theorem eq_le0 {c : Cfg} (hW : WfK c) : (fun j => cdK c j && decide (rdK c j ≤ 0)) = (fun j => cdK c j && decide (rdK c j = 0)) := by
  funext j
  have := (rdK_rng hW j).1
  congr 1
  rw [decide_eq_decide]
  omega
set_option maxHeartbeats 4000000 in
set_option maxRecDepth 100000 in
theorem c_X5_addUp (l : Launch) (K : KX) (M : Mem) (c : Cfg) (n : Int) (hW : WfK c) (hn : 0 ≤ n) (h22 : ∀ r, 0 ≤ r → r ≤ 63 → M 22 r = cnI (fun j => cdK c j && decide (rdK c j = r)) n) (h23 : ∀ r, 0 ≤ r → r ≤ 63 → SeenOK c (M 23 r) (fun j => cdK c j && decide (rdK c j = r)) n) : MCv l K LAY yX5_addUp cX5_addUp 2 none 1 [rV K 21] M (fun M' => (∀ r, 0 ≤ r → r ≤ 63 → M' 22 r = cnI (fun j => cdK c j && decide (rdK c j ≤ r)) n) ∧ (∀ r, 0 ≤ r → r ≤ 63 → SeenOK c (M' 23 r) (fun j => cdK c j && decide (rdK c j ≤ r)) n) ∧ Sm [22, 23] M M') := by
  refine mcv_intro RX5 rfl [some (rV K 21), none] rfl (by decide +kernel) (cat_r cat_nil) (Nat.le_of_ble_eq_true rfl) (fun X hX C => ?_)
  subst hX
  refine pw_iconst C dX5_addUp_0 ?_
  refine pw_istore1 C (by decide) dX5_addUp_1 ?_
  have cut_2 : ∀ (fu : Nat) (i : Int) (M1 : Mem), Sm [22, 23] M M1 → (1 ≤ i ∧ i ≤ 64) → (∀ r, 0 ≤ r → r < i → M1 22 r = cnI (fun j => cdK c j && decide (rdK c j ≤ r)) n) → (∀ r, i ≤ r → r ≤ 63 → M1 22 r = cnI (fun j => cdK c j && decide (rdK c j = r)) n) → (∀ r, 0 ≤ r → r < i → SeenOK c (M1 23 r) (fun j => cdK c j && decide (rdK c j ≤ r)) n) → (∀ r, i ≤ r → r ≤ 63 → SeenOK c (M1 23 r) (fun j => cdK c j && decide (rdK c j = r)) n) → (64 - i).toNat < fu → PW X K LAY 2 (0, 0) (Zv X K LAY (fun M' => (∀ r, 0 ≤ r → r ≤ 63 → M' 22 r = cnI (fun j => cdK c j && decide (rdK c j ≤ r)) n) ∧ (∀ r, 0 ≤ r → r ≤ 63 → SeenOK c (M' 23 r) (fun j => cdK c j && decide (rdK c j ≤ r)) n) ∧ Sm [22, 23] M M')) 2 [some (rV K 21), some (iV i)] [] M1 := by
    intro fu
    induction fu with
    | zero => intro _ _ _ _ _ _ _ _ hm; exact absurd hm (Nat.not_lt_zero _)
    | succ fu ih =>
      intro i M1 hF2 hi g1 g2 g3 g4 hm
      have ih_2 := ih
      have hm_2 := hm
      refine pw_iload1 C dX5_addUp_2 ?_
      refine pw_bipush C dX5_addUp_3 (by decide) ?_
      refine pw_icmp_gt (tgt := 48) C dX5_addUp_5 (by decide) (by omega) (by omega) (fun h5 => ?_) (fun h5 => ?_)
      · exact pw_vretV C dX5_addUp_48 (⟨by intro r q1 q2; exact g1 r q1 (by omega), by intro r q1 q2; exact g3 r q1 (by omega), (Sm_trans Sm_refl hF2 (by decide))⟩)
      · have e3 := (g3 (i - 1) (by omega) (by omega)).1
        have e4 := (g4 i (by omega) (by omega)).1
        refine pw_aload0 C dX5_addUp_8 ?_
        refine g_21_6 C fl_X5_31 dX5_addUp_9 ?_
        refine pw_iload1 C dX5_addUp_12 ?_
        refine pw_dup2 C rfl rfl dX5_addUp_13 ?_
        refine pw_iaload C lay_22 (by omega) (by decide) dX5_addUp_14 ?_
        refine pw_aload0 C dX5_addUp_15 ?_
        refine g_21_6 C fl_X5_31 dX5_addUp_16 ?_
        refine pw_iload1 C dX5_addUp_19 ?_
        refine pw_iconst C dX5_addUp_20 ?_
        refine pw_isub C dX5_addUp_21 ?_
        refine pw_iaload C lay_22 (by omega) (by decide) dX5_addUp_22 ?_
        refine pw_iadd C dX5_addUp_23 ?_
        refine pw_iastore C lay_22 (by omega) (by decide) dX5_addUp_24 ?_
        refine pw_aload0 C dX5_addUp_25 ?_
        refine g_21_7 C fl_X5_35 dX5_addUp_26 ?_
        refine pw_iload1 C dX5_addUp_29 ?_
        refine pw_dup2 C rfl rfl dX5_addUp_30 ?_
        refine pw_iaload C lay_23 (by omega) (by decide) dX5_addUp_31 ?_
        refine pw_top C _ (rd_nc (by decide)) ?_
        refine pw_aload0 C dX5_addUp_32 ?_
        refine g_21_7 C fl_X5_35 dX5_addUp_33 ?_
        refine pw_iload1 C dX5_addUp_36 ?_
        refine pw_iconst C dX5_addUp_37 ?_
        refine pw_isub C dX5_addUp_38 ?_
        refine pw_iaload C lay_23 (by omega) (by decide) dX5_addUp_39 ?_
        refine pw_top C _ (rd_nc (by decide)) ?_
        refine pw_ior C ((((M1 23 i).toNat ||| (M1 23 (i - 1)).toNat : Nat) : Int)) (b_or (by omega) (by omega)) dX5_addUp_40 ?_
        refine pw_iastore C lay_23 (by omega) (by decide) dX5_addUp_41 ?_
        refine pw_iinc1 C (by decide) dX5_addUp_42 ?_
        refine pw_goto (tgt := 2) C dX5_addUp_45 (by decide) ?_
        exact ih_2 _ _ (Sm_up (Sm_up (Sm_trans Sm_refl hF2 (by decide)) (by decide)) (by decide)) (by omega) (by
              intro r q1 q2
              rw [rd_nc (by decide), rd_if]
              by_cases e : r = i
              · rw [if_pos e, e, g2 i (by omega) (by omega), g1 (i - 1) (by omega) (by omega)]; exact up_cn hn (by omega)
              · rw [if_neg e]; exact g1 r q1 (by omega)) (by intro r q1 q2; rw [rd_nc (by decide), rd_ne (by omega)]; exact g2 r (by omega) q2) (by
              intro r q1 q2
              rw [rd_if]
              by_cases e : r = i
              · rw [if_pos e, e]; exact up_se (by omega) (g4 i (by omega) (by omega)) (g3 (i - 1) (by omega) (by omega))
              · rw [if_neg e, rd_nc (by decide)]; exact g3 r q1 (by omega)) (by intro r q1 q2; rw [rd_ne (by omega), rd_nc (by decide)]; exact g4 r (by omega) q2) (by omega)
  exact cut_2 _ _ _ Sm_refl (by omega) (by intro r q1 q2; rw [show r = 0 by omega, eq_le0 hW]; exact h22 0 (by decide) (by decide)) (by intro r q1 q2; exact h22 r (by omega) q2) (by intro r q1 q2; rw [show r = 0 by omega, eq_le0 hW]; exact h23 0 (by decide) (by decide)) (by intro r q1 q2; exact h23 r (by omega) q2) (Nat.lt_succ_self _)
