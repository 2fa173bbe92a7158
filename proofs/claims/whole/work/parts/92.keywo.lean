set_option maxHeartbeats 4000000 in
set_option maxRecDepth 100000 in
theorem c_X10_keyWithout (l : Launch) (K : KX) (M : Mem) (k : Int) (hW : WfK (cf M)) (hwd : M 15 4 = 8) (hZ : Z0a M) (hfr : M 24 0 = 0 ∨ (M 24 0 = 1 ∧ StR (cf M) M)) (hk : -2147483648 ≤ k ∧ k ≤ 2147483647) : MCi l K LAY yX10_keyWithout cX10_keyWithout 2 (some .int) 6 [rV K 0, iV k] M (fun r M' => ((((0 ≤ k ∧ k ≤ 7) ∧ nrB (cf M) ≠ 0) ∧ StR (cf M) M' ∧ LwS (M' 26) (nrB (cf M)) (mx2 0 (bc8 (nrB (cf M)) - k)) 256 r) ∨ (¬ ((0 ≤ k ∧ k ≤ 7) ∧ nrB (cf M) ≠ 0) ∧ r = 2147483647)) ∧ (0 ≤ r ∧ r ≤ 2147483647) ∧ (M' 24 0 = 0 ∨ (M' 24 0 = 1 ∧ StR (cf M) M')) ∧ (M' 15 4 = 8) ∧ (Z0a M') ∧ Sm [12, 13, 15, 16, 17, 18, 19, 20, 24, 25, 26, 27, 28] M M') := by
  refine mci_intro RX10 rfl [some (rV K 0), some (iV k)] rfl (by decide +kernel) (cat_r (cat_i cat_nil)) (Nat.le_of_ble_eq_true rfl) (fun X hX C => ?_)
  subst hX
  have w_w := wf_w hW
  have hnb : 0 ≤ nrB (cf M) ∧ nrB (cf M) ≤ 255 := by
    have h := bsI_rng (p := M 8) (v := 1) (n := M 6 0) (by omega)
    have e : nrB (cf M) = bsI (M 8) 1 (M 6 0) := rfl
    omega
  refine pw_iload1 C dX10_keyWithout_0 ?_
  refine pw_if_lt (tgt := 20) C dX10_keyWithout_1 (by decide) (by omega) (fun h1 => ?_) (fun h1 => ?_)
  · refine pw_ldc C (z := 2147483647) (by decide) ct_X10_171 dX10_keyWithout_20 ?_
    exact pw_iretI C dX10_keyWithout_22 (⟨by
          refine Or.inr ⟨fun h => ?_, rfl⟩
          first | (have := h.1; omega) | exact h.2 hb0, by decide, by exact hfr, by exact hwd, by exact hZ, Sm_refl⟩)
  · refine pw_iload1 C dX10_keyWithout_4 ?_
    refine pw_bipush C dX10_keyWithout_5 (by decide) ?_
    refine pw_icmp_ge (tgt := 20) C dX10_keyWithout_7 (by decide) (by omega) (by omega) (fun h7 => ?_) (fun h7 => ?_)
    · refine pw_ldc C (z := 2147483647) (by decide) ct_X10_171 dX10_keyWithout_20 ?_
      exact pw_iretI C dX10_keyWithout_22 (⟨by
            refine Or.inr ⟨fun h => ?_, rfl⟩
            first | (have := h.1; omega) | exact h.2 hb0, by decide, by exact hfr, by exact hwd, by exact hZ, Sm_refl⟩)
    · refine pw_aload0 C dX10_keyWithout_10 ?_
      refine g_0_2 C fl_X10_26 dX10_keyWithout_11 ?_
      refine pw_cVi0 C (c_X9_hasNear _ K _ (by omega) (wf_p hW)) cb_X9_hasNear lay_6 kc_9 rfl ml_X10_210 dX10_keyWithout_14 (by decide) (Nat.le_of_ble_eq_true rfl) (fun r14 M14 hQ => ?_)
      obtain ⟨rfl, hMe⟩ := hQ
      replace hMe := hMe.symm
      subst hMe
      refine pw_if_ne (tgt := 23) C dX10_keyWithout_17 (by decide) (by split <;> omega) (fun h17 => ?_) (fun h17 => ?_)
      · have hb9 : bsI (M 8) 1 (M 6 0) ≠ 0 := fun h => by rw [if_pos h] at h17; omega
        have hb0 : nrB (cf M) ≠ 0 := hb9
        refine pw_aload0 C dX10_keyWithout_23 ?_
        refine g_0_6 C fl_X10_58 dX10_keyWithout_24 ?_
        refine pw_cVv0 C (c_X4_refresh _ K _ (hW) (hwd) (hZ) (hfr)) cb_X4_refresh lay_24 kc_4 rfl ml_X10_203 dX10_keyWithout_27 (by decide) (Nat.le_of_ble_eq_true rfl) (fun M27 hQ => ?_)
        obtain ⟨hS_27, h0_27, h2_27, h3_27, hF27⟩ := hQ
        refine pw_aload0 C dX10_keyWithout_30 ?_
        refine g_0_6 C fl_X10_58 dX10_keyWithout_31 ?_
        refine pw_iload1 C dX10_keyWithout_34 ?_
        refine pw_cVi1 C (c_X4_leastWithout _ K _ _ (by omega) (by rw [hS_27.1]; exact hnb) (hS_27.2.1)) cb_X4_leastWithout lay_24 kc_4 rfl ml_X10_268 dX10_keyWithout_35 (by decide) (Nat.le_of_ble_eq_true rfl) (fun r35 M35 hQ => ?_)
        obtain ⟨hp_35, hr_35, hMe⟩ := hQ
        replace hMe := hMe.symm
        subst hMe
        rw [hS_27.1] at hp_35
        exact pw_iretI C dX10_keyWithout_38 (⟨by exact Or.inl ⟨⟨by omega, hb0⟩, hS_27, hp_35⟩, by exact hr_35, by exact Or.inr ⟨h0_27, hS_27⟩, by exact h2_27, by exact h3_27, (Sm_trans Sm_refl hF27 (by decide))⟩)
      · have hb9 : bsI (M 8) 1 (M 6 0) = 0 := Decidable.byContradiction fun h => by rw [if_neg h] at h17; omega
        have hb0 : nrB (cf M) = 0 := hb9
        refine pw_ldc C (z := 2147483647) (by decide) ct_X10_171 dX10_keyWithout_20 ?_
        exact pw_iretI C dX10_keyWithout_22 (⟨by
              refine Or.inr ⟨fun h => ?_, rfl⟩
              first | (have := h.1; omega) | exact h.2 hb0, by decide, by exact hfr, by exact hwd, by exact hZ, Sm_refl⟩)
