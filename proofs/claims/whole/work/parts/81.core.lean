set_option maxHeartbeats 4000000 in
set_option maxRecDepth 100000 in
theorem c_X4_leastNotHeld (l : Launch) (K : KX) (M : Mem) (rr : Int) (c : Cfg) (hW : WfK c) (hr : 0 ≤ rr ∧ rr ≤ 63) (hN : M 24 6 = nrB c) (hnb : 0 ≤ M 24 6 ∧ M 24 6 ≤ 255) (hky : (∀ S, 0 ≤ S → S < 256 → 0 ≤ M 26 S ∧ M 26 S ≤ 2147483647)) (hOK : KyOK c (M 26)) : MCi l K LAY yX4_leastNotHeld cX4_leastNotHeld 6 (some .int) 2 [rV K 24, iV rr] M (fun r M' => (CoS c rr r) ∧ M' = M) := by
  refine mci_intro RX4 rfl [some (rV K 24), some (iV rr), none, none, none, none] rfl (by decide +kernel) (cat_r (cat_i cat_nil)) (Nat.le_of_ble_eq_true rfl) (fun X hX C => ?_)
  subst hX
  refine pw_iconst C dX4_leastNotHeld_0 ?_
  refine pw_istore2 C (by decide) dX4_leastNotHeld_1 ?_
  refine pw_bipush C dX4_leastNotHeld_2 (by decide) ?_
  refine pw_istore3 C (by decide) dX4_leastNotHeld_4 ?_
  refine pw_iconst C dX4_leastNotHeld_5 ?_
  refine pw_istore4 C (by decide) dX4_leastNotHeld_6 ?_
  have cut_8 : ∀ (fu : Nat) (x z i : Int), (1 ≤ i ∧ i ≤ 256) → (CoI c rr x z i) → (256 - i).toNat < fu → PW X K LAY 6 (0, 0) (Zi X K LAY (fun r M' => (CoS c rr r) ∧ M' = M)) 8 [some (rV K 24), some (iV rr), some (iV x), some (iV z), some (iV i), none] [] M := by
    intro fu
    induction fu with
    | zero => intro _ _ _ _ _ hm; exact absurd hm (Nat.not_lt_zero _)
    | succ fu ih =>
      intro x z i hi g hm
      have ih_8 := ih
      have hm_8 := hm
      have hcr := CoI_rng g hi.1
      have hbi := bc8_rng i
      refine pw_iload4 C dX4_leastNotHeld_8 ?_
      refine pw_sipush C dX4_leastNotHeld_10 (by decide) ?_
      refine pw_icmp_ge (tgt := 68) C dX4_leastNotHeld_13 (by decide) (by omega) (by omega) (fun h13 => ?_) (fun h13 => ?_)
      · refine pw_iload2 C dX4_leastNotHeld_68 ?_
        exact pw_iretI C dX4_leastNotHeld_69 (⟨by exact CoI_end (z := z) (by rw [show (256 : Int) = i by omega]; exact g), rfl⟩)
      · have hz : (0 : Int) ≤ ((i.toNat &&& (M 24 6).toNat : Nat) : Int) ∧ ((i.toNat &&& (M 24 6).toNat : Nat) : Int) ≤ 255 := by
          have h5 : i.toNat &&& (M 24 6).toNat ≤ i.toNat := Nat.and_le_left
          omega
        have hki := hky i (by omega) (by omega)
        refine pw_iload4 C dX4_leastNotHeld_16 ?_
        refine pw_cSi1 C (c_J6_bitCount_0f7a4 _ K _ _ (by omega)) cb_J6_bitCount_0f7a4 ml_X4_121 dX4_leastNotHeld_18 (by decide) (Nat.le_of_ble_eq_true rfl) (fun r18 M18 hQ => ?_)
        obtain ⟨rfl, hMe⟩ := hQ
        replace hMe := hMe.symm
        subst hMe
        refine pw_istore5 C (by decide) dX4_leastNotHeld_21 ?_
        have cut_62 : ∀  (x2 z2 : Int), (CoI c rr x2 z2 (i + 1)) → PW X K LAY 6 (0, 0) (Zi X K LAY (fun r M' => (CoS c rr r) ∧ M' = M)) 62 [some (rV K 24), some (iV rr), some (iV x2), some (iV z2), some (iV i), none] [] M := by
          intro x2 z2 g2
          refine pw_iinc4 C (by decide) dX4_leastNotHeld_62 ?_
          refine pw_goto (tgt := 8) C dX4_leastNotHeld_65 (by decide) ?_
          exact ih_8 _ _ _ (by omega) (by exact g2) (by omega)
        refine pw_iload4 C dX4_leastNotHeld_23 ?_
        refine pw_aload0 C dX4_leastNotHeld_25 ?_
        refine g_24_6 C fl_X4_28 dX4_leastNotHeld_26 ?_
        refine pw_iand C (((i.toNat &&& (M 24 6).toNat : Nat) : Int)) (b_and (by omega) (by omega)) dX4_leastNotHeld_29 ?_
        refine pw_iload4 C dX4_leastNotHeld_30 ?_
        refine pw_icmp_ne (tgt := 62) C dX4_leastNotHeld_32 (by decide) (by omega) (by omega) (fun h32 => ?_) (fun h32 => ?_)
        · have hns : ¬ sub2 i (nrB c) := fun q => h32 ((sub2_and (by omega)).mpr (by rw [hN]; exact q))
          refine pw_fgt (fgt_k (fgt_k (fgt_k (fgt_k (fgt_k (fgt_no fgt_nil)))))) ?_
          exact cut_62 _ _ (by exact CoI_skip g hi.1 (fun q => absurd q hns))
        · have hys : sub2 i (nrB c) := by rw [← hN]; exact (sub2_and (by omega)).mp (by omega)
          refine pw_iload5 C dX4_leastNotHeld_35 ?_
          refine pw_iload3 C dX4_leastNotHeld_37 ?_
          refine pw_icmp_ge (tgt := 62) C dX4_leastNotHeld_38 (by decide) (by omega) (by omega) (fun h38 => ?_) (fun h38 => ?_)
          · refine pw_fgt (fgt_k (fgt_k (fgt_k (fgt_k (fgt_k (fgt_no fgt_nil)))))) ?_
            exact cut_62 _ _ (by exact CoI_skip g hi.1 (fun _ _ => h38))
          · refine pw_aload0 C dX4_leastNotHeld_41 ?_
            refine pw_aload0 C dX4_leastNotHeld_42 ?_
            refine g_24_3 C fl_X4_19 dX4_leastNotHeld_43 ?_
            refine pw_iload4 C dX4_leastNotHeld_46 ?_
            refine pw_iaload C lay_26 (by omega) (by decide) dX4_leastNotHeld_48 ?_
            refine pw_cVi1 C (c_X4_reachOf _ K _ _ (hki)) cb_X4_reachOf lay_24 kc_4 rfl ml_X4_109 dX4_leastNotHeld_49 (by decide) (Nat.le_of_ble_eq_true rfl) (fun r49 M49 hQ => ?_)
            obtain ⟨rfl, hMe⟩ := hQ
            replace hMe := hMe.symm
            subst hMe
            refine pw_iload1 C dX4_leastNotHeld_52 ?_
            refine pw_icmp_le (tgt := 62) C dX4_leastNotHeld_53 (by decide) (by omega) (by omega) (fun h53 => ?_) (fun h53 => ?_)
            · have hh : Hd c rr i := (Ky_Hd hW hOK hr (by omega)).mp h53
              refine pw_fgt (fgt_k (fgt_k (fgt_k (fgt_k (fgt_k (fgt_no fgt_nil)))))) ?_
              exact cut_62 _ _ (by exact CoI_skip g hi.1 (fun _ q => absurd hh q))
            · have hh : ¬ Hd c rr i := fun q => by have := (Ky_Hd hW hOK hr (S := i) (by omega)).mpr q; omega
              refine pw_iload4 C dX4_leastNotHeld_56 ?_
              refine pw_istore2 C (by decide) dX4_leastNotHeld_58 ?_
              refine pw_iload5 C dX4_leastNotHeld_59 ?_
              refine pw_istore3 C (by decide) dX4_leastNotHeld_61 ?_
              refine pw_fgt (fgt_k (fgt_k (fgt_k (fgt_k (fgt_k (fgt_no fgt_nil)))))) ?_
              exact cut_62 _ _ (by exact CoI_new g hi.1 hys hh (by omega))
  exact cut_8 _ _ _ _ (by omega) (by exact CoI_0) (Nat.lt_succ_self _)
set_option maxHeartbeats 4000000 in
set_option maxRecDepth 100000 in
theorem c_X4_fewestSets (l : Launch) (K : KX) (M : Mem) (rr : Int) (hr : 0 ≤ rr ∧ rr ≤ 63) (hv : ∀ j, 1 ≤ j → j < 9 → 0 ≤ M 25 j ∧ M 25 j ≤ 131071) : MCi l K LAY yX4_fewestSets cX4_fewestSets 3 (some .int) 1 [rV K 24, iV rr] M (fun r M' => (FwS (M 25) rr r) ∧ M' = M) := by
  refine mci_intro RX4 rfl [some (rV K 24), some (iV rr), none] rfl (by decide +kernel) (cat_r (cat_i cat_nil)) (Nat.le_of_ble_eq_true rfl) (fun X hX C => ?_)
  subst hX
  refine pw_iconst C dX4_fewestSets_0 ?_
  refine pw_istore2 C (by decide) dX4_fewestSets_1 ?_
  have cut_2 : ∀ (fu : Nat) (k : Int), (1 ≤ k ∧ k ≤ 9) → (∀ y, 1 ≤ y → y < k → ¬ M 25 y ≤ rr) → (9 - k).toNat < fu → PW X K LAY 3 (0, 0) (Zi X K LAY (fun r M' => (FwS (M 25) rr r) ∧ M' = M)) 2 [some (rV K 24), some (iV rr), some (iV k)] [] M := by
    intro fu
    induction fu with
    | zero => intro _ _ _ hm; exact absurd hm (Nat.not_lt_zero _)
    | succ fu ih =>
      intro k hk g hm
      have ih_2 := ih
      have hm_2 := hm
      refine pw_iload2 C dX4_fewestSets_2 ?_
      refine pw_bipush C dX4_fewestSets_3 (by decide) ?_
      refine pw_icmp_gt (tgt := 26) C dX4_fewestSets_5 (by decide) (by omega) (by omega) (fun h5 => ?_) (fun h5 => ?_)
      · refine pw_bipush C dX4_fewestSets_26 (by decide) ?_
        exact pw_iretI C dX4_fewestSets_28 (⟨by exact Or.inr ⟨rfl, fun y q1 q2 => g y q1 (by omega)⟩, rfl⟩)
      · have hvk := hv k (by omega) (by omega)
        refine pw_aload0 C dX4_fewestSets_8 ?_
        refine g_24_1 C fl_X4_15 dX4_fewestSets_9 ?_
        refine pw_iload2 C dX4_fewestSets_12 ?_
        refine pw_iaload C lay_25 (by omega) (by decide) dX4_fewestSets_13 ?_
        refine pw_iload1 C dX4_fewestSets_14 ?_
        refine pw_icmp_gt (tgt := 20) C dX4_fewestSets_15 (by decide) (by omega) (by omega) (fun h15 => ?_) (fun h15 => ?_)
        · refine pw_iinc2 C (by decide) dX4_fewestSets_20 ?_
          refine pw_goto (tgt := 2) C dX4_fewestSets_23 (by decide) ?_
          exact ih_2 _ (by omega) (by
                intro y q1 q2
                by_cases e : y = k
                · rw [e]; omega
                · exact g y q1 (by omega)) (by omega)
        · refine pw_iload2 C dX4_fewestSets_18 ?_
          exact pw_iretI C dX4_fewestSets_19 (⟨by exact Or.inl ⟨by omega, by omega, g⟩, rfl⟩)
  exact cut_2 _ _ (by omega) (by intro y q1 q2; omega) (Nat.lt_succ_self _)
