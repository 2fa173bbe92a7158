set_option maxHeartbeats 4000000 in
set_option maxRecDepth 100000 in
theorem c_X10_without (l : Launch) (K : KX) (M : Mem) (k : Int) (hW : WfK (cf M)) (hwd : M 15 4 = 8) (hZ : Z0a M) (hfr : M 24 0 = 0 ∨ (M 24 0 = 1 ∧ StR (cf M) M)) (hk : -2147483648 ≤ k ∧ k ≤ 2147483647) : MCi l K LAY yX10_without cX10_without 3 (some .int) 7 [rV K 0, iV k] M (fun r M' => (PWo (cf M) k (rbK (cf M) k) r) ∧ (M' 24 0 = 0 ∨ (M' 24 0 = 1 ∧ StR (cf M) M')) ∧ (M' 15 4 = 8) ∧ (Z0a M') ∧ Sm [12, 13, 15, 16, 17, 18, 19, 20, 24, 25, 26, 27, 28] M M') := by
  refine mci_intro RX10 rfl [some (rV K 0), some (iV k), none] rfl (by decide +kernel) (cat_r (cat_i cat_nil)) (Nat.le_of_ble_eq_true rfl) (fun X hX C => ?_)
  subst hX
  have w_w := wf_w hW
  have hnb : 0 ≤ nrB (cf M) ∧ nrB (cf M) ≤ 255 := by
    have h := bsI_rng (p := M 8) (v := 1) (n := M 6 0) (by omega)
    have e : nrB (cf M) = bsI (M 8) 1 (M 6 0) := rfl
    omega
  refine pw_aload0 C dX10_without_0 ?_
  refine pw_iload1 C dX10_without_1 ?_
  refine pw_cVi1 C (c_X10_keyWithout _ K _ _ (hW) (hwd) (hZ) (hfr) (hk)) cb_X10_keyWithout lay_0 kc_10 rfl ml_X10_168 dX10_without_2 (by decide) (Nat.le_of_ble_eq_true rfl) (fun r2 M2 hQ => ?_)
  obtain ⟨hp_2, hr_2, h0_2, h2_2, h3_2, hF2⟩ := hQ
  refine pw_istore2 C (by decide) dX10_without_5 ?_
  refine pw_iload2 C dX10_without_6 ?_
  refine pw_ldc C (z := 2147483647) (by decide) ct_X10_171 dX10_without_7 ?_
  refine pw_icmp_ne (tgt := 16) C dX10_without_9 (by decide) (by omega) (by omega) (fun h9 => ?_) (fun h9 => ?_)
  · obtain ⟨j, hj1, hj2, hj3, hj4, hj5⟩ : ∃ j, r2 = rbK (cf M) k j * 16384 + pkK (cf M) j ∧ r2 ≠ 2147483647 ∧ r2 / 16384 = rbK (cf M) k j ∧ r2 % 16384 = pkK (cf M) j ∧ ∀ g, PWo (cf M) k g (g j) := by
      rcases hp_2 with ⟨a, b, d⟩ | ⟨a, b⟩
      · exact (lw_ans hW a.2 (b.2.2.2 a.2).1 a.1 d).elim (fun z => absurd z.1 h9) id
      · exact absurd b h9
    refine pw_aload0 C dX10_without_16 ?_
    refine g_0_6 C fl_X10_58 dX10_without_17 ?_
    refine pw_iload2 C dX10_without_20 ?_
    refine pw_cVi1 C (c_X4_reachOf _ K _ _ (hr_2)) cb_X4_reachOf lay_24 kc_4 rfl ml_X10_172 dX10_without_21 (by decide) (Nat.le_of_ble_eq_true rfl) (fun r21 M21 hQ => ?_)
    obtain ⟨rfl, hMe⟩ := hQ
    replace hMe := hMe.symm
    subst hMe
    exact pw_iretI C dX10_without_24 (⟨by first | exact hno _ | (rw [hj3]; exact hj5 _), by exact h0_2, by exact h2_2, by exact h3_2, (Sm_trans Sm_refl hF2 (by decide))⟩)
  · have hno : ∀ g, PWo (cf M) k g (-1) := by
      rcases hp_2 with ⟨a, b, d⟩ | ⟨a, b⟩
      · rcases lw_ans hW a.2 (b.2.2.2 a.2).1 a.1 d with ⟨-, z⟩ | ⟨j, -, z, -⟩
        · exact z
        · exact absurd h9 z
      · intro g
        by_cases z : 0 ≤ k ∧ k ≤ 7
        · exact Or.inl ⟨z, Or.inl ⟨Decidable.byContradiction fun y => a ⟨z, y⟩, rfl⟩⟩
        · exact Or.inr ⟨z, rfl⟩
    refine pw_iconst C dX10_without_12 ?_
    refine pw_goto (tgt := 24) C dX10_without_13 (by decide) ?_
    exact pw_iretI C dX10_without_24 (⟨by first | exact hno _ | (rw [hj3]; exact hj5 _), by exact h0_2, by exact h2_2, by exact h3_2, (Sm_trans Sm_refl hF2 (by decide))⟩)
set_option maxHeartbeats 4000000 in
set_option maxRecDepth 100000 in
theorem c_X10_leftOut (l : Launch) (K : KX) (M : Mem) (k : Int) (hW : WfK (cf M)) (hwd : M 15 4 = 8) (hZ : Z0a M) (hfr : M 24 0 = 0 ∨ (M 24 0 = 1 ∧ StR (cf M) M)) (hk : -2147483648 ≤ k ∧ k ≤ 2147483647) : MCi l K LAY yX10_leftOut cX10_leftOut 3 (some .int) 7 [rV K 0, iV k] M (fun r M' => (PWo (cf M) k (loK (cf M) k) r) ∧ (M' 24 0 = 0 ∨ (M' 24 0 = 1 ∧ StR (cf M) M')) ∧ (M' 15 4 = 8) ∧ (Z0a M') ∧ Sm [12, 13, 14, 15, 16, 17, 18, 19, 20, 24, 25, 26, 27, 28] M M') := by
  refine mci_intro RX10 rfl [some (rV K 0), some (iV k), none] rfl (by decide +kernel) (cat_r (cat_i cat_nil)) (Nat.le_of_ble_eq_true rfl) (fun X hX C => ?_)
  subst hX
  have w_w := wf_w hW
  have hnb : 0 ≤ nrB (cf M) ∧ nrB (cf M) ≤ 255 := by
    have h := bsI_rng (p := M 8) (v := 1) (n := M 6 0) (by omega)
    have e : nrB (cf M) = bsI (M 8) 1 (M 6 0) := rfl
    omega
  refine pw_aload0 C dX10_leftOut_0 ?_
  refine pw_iload1 C dX10_leftOut_1 ?_
  refine pw_cVi1 C (c_X10_keyWithout _ K _ _ (hW) (hwd) (hZ) (hfr) (hk)) cb_X10_keyWithout lay_0 kc_10 rfl ml_X10_168 dX10_leftOut_2 (by decide) (Nat.le_of_ble_eq_true rfl) (fun r2 M2 hQ => ?_)
  obtain ⟨hp_2, hr_2, h0_2, h2_2, h3_2, hF2⟩ := hQ
  have ec2 : cf M2 = cf M := by unfold cf; rw [hF2 1 (by decide), hF2 2 (by decide), hF2 6 (by decide), hF2 7 (by decide), hF2 8 (by decide), hF2 9 (by decide), hF2 10 (by decide), hF2 11 (by decide)]
  refine pw_istore2 C (by decide) dX10_leftOut_5 ?_
  refine pw_iload2 C dX10_leftOut_6 ?_
  refine pw_ldc C (z := 2147483647) (by decide) ct_X10_171 dX10_leftOut_7 ?_
  refine pw_icmp_ne (tgt := 16) C dX10_leftOut_9 (by decide) (by omega) (by omega) (fun h9 => ?_) (fun h9 => ?_)
  · obtain ⟨j, hj1, hj2, hj3, hj4, hj5⟩ : ∃ j, r2 = rbK (cf M) k j * 16384 + pkK (cf M) j ∧ r2 ≠ 2147483647 ∧ r2 / 16384 = rbK (cf M) k j ∧ r2 % 16384 = pkK (cf M) j ∧ ∀ g, PWo (cf M) k g (g j) := by
      rcases hp_2 with ⟨a, b, d⟩ | ⟨a, b⟩
      · exact (lw_ans hW a.2 (b.2.2.2 a.2).1 a.1 d).elim (fun z => absurd z.1 h9) id
      · exact absurd b h9
    refine pw_aload0 C dX10_leftOut_16 ?_
    refine g_0_4 C fl_X10_42 dX10_leftOut_17 ?_
    refine pw_aload0 C dX10_leftOut_20 ?_
    refine g_0_6 C fl_X10_58 dX10_leftOut_21 ?_
    refine pw_iload2 C dX10_leftOut_24 ?_
    refine pw_cVi1 C (c_X4_reachOf _ K _ _ (hr_2)) cb_X4_reachOf lay_24 kc_4 rfl ml_X10_172 dX10_leftOut_25 (by decide) (Nat.le_of_ble_eq_true rfl) (fun r25 M25 hQ => ?_)
    obtain ⟨rfl, hMe⟩ := hQ
    replace hMe := hMe.symm
    subst hMe
    refine pw_aload0 C dX10_leftOut_28 ?_
    refine g_0_6 C fl_X10_58 dX10_leftOut_29 ?_
    refine pw_iload2 C dX10_leftOut_32 ?_
    refine pw_cVi1 C (c_X4_rowOf _ K _ _ (hr_2)) cb_X4_rowOf lay_24 kc_4 rfl ml_X10_175 dX10_leftOut_33 (by decide) (Nat.le_of_ble_eq_true rfl) (fun r33 M33 hQ => ?_)
    obtain ⟨rfl, hMe⟩ := hQ
    replace hMe := hMe.symm
    subst hMe
    refine pw_cVi2 C (c_X0_furtherThan _ K _ _ _ (by rw [ec2]; exact hW) (by rw [hj3]; exact rbK_rng hW k j) (by omega)) cb_X0_furtherThan lay_12 kc_0 rfl ml_X10_178 dX10_leftOut_36 (by decide) (Nat.le_of_ble_eq_true rfl) (fun r36 M36 hQ => ?_)
    obtain ⟨hp_36, hF36⟩ := hQ
    exact pw_iretI C dX10_leftOut_39 (⟨by
          first
            | exact hno _
            | (rw [hp_36, ec2, hF2 6 (by decide), hF2 8 (by decide), hj3, hj4]
               have e9 := lo_eq hW k j
               have e8 := hj5 (loK (cf M) k)
               rw [← e9] at e8
               exact e8), by first | exact h0_2 | exact h0_2.elim (fun h => Or.inl (by rw [hF36 24 (by decide)]; exact h)) (fun h => Or.inr ⟨by rw [hF36 24 (by decide)]; exact h.1, StR_c (hF36 24 (by decide)) (hF36 25 (by decide)) (hF36 26 (by decide)) h.2⟩), by first | exact h2_2 | (rw [hF36 15 (by decide)]; exact h2_2), by first | exact h3_2 | exact ⟨fun t q1 q2 => by rw [hF36 17 (by decide)]; exact h3_2.1 t q1 q2, by rw [hF36 19 (by decide)]; exact h3_2.2.1, by rw [hF36 20 (by decide)]; exact h3_2.2.2⟩, (Sm_trans (Sm_trans Sm_refl hF2 (by decide)) hF36 (by decide))⟩)
  · have hno : ∀ g, PWo (cf M) k g (-1) := by
      rcases hp_2 with ⟨a, b, d⟩ | ⟨a, b⟩
      · rcases lw_ans hW a.2 (b.2.2.2 a.2).1 a.1 d with ⟨-, z⟩ | ⟨j, -, z, -⟩
        · exact z
        · exact absurd h9 z
      · intro g
        by_cases z : 0 ≤ k ∧ k ≤ 7
        · exact Or.inl ⟨z, Or.inl ⟨Decidable.byContradiction fun y => a ⟨z, y⟩, rfl⟩⟩
        · exact Or.inr ⟨z, rfl⟩
    refine pw_iconst C dX10_leftOut_12 ?_
    refine pw_goto (tgt := 39) C dX10_leftOut_13 (by decide) ?_
    exact pw_iretI C dX10_leftOut_39 (⟨by
          first
            | exact hno _
            | (rw [hp_36, ec2, hF2 6 (by decide), hF2 8 (by decide), hj3, hj4]
               have e9 := lo_eq hW k j
               have e8 := hj5 (loK (cf M) k)
               rw [← e9] at e8
               exact e8), by first | exact h0_2 | exact h0_2.elim (fun h => Or.inl (by rw [hF36 24 (by decide)]; exact h)) (fun h => Or.inr ⟨by rw [hF36 24 (by decide)]; exact h.1, StR_c (hF36 24 (by decide)) (hF36 25 (by decide)) (hF36 26 (by decide)) h.2⟩), by first | exact h2_2 | (rw [hF36 15 (by decide)]; exact h2_2), by first | exact h3_2 | exact ⟨fun t q1 q2 => by rw [hF36 17 (by decide)]; exact h3_2.1 t q1 q2, by rw [hF36 19 (by decide)]; exact h3_2.2.1, by rw [hF36 20 (by decide)]; exact h3_2.2.2⟩, (Sm_trans Sm_refl hF2 (by decide))⟩)
