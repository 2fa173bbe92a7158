def LwS (K : Int → Int) (N m i x : Int) : Prop := (∀ S, 0 ≤ S → S < i → sub2 S N → bc8 S = m → x ≤ K S) ∧ (x = 2147483647 ∨ ∃ S, (0 ≤ S ∧ S < i) ∧ sub2 S N ∧ bc8 S = m ∧ x = K S)
theorem Lw_no {K : Int → Int} {N m i x : Int} (h : LwS K N m i x) (h2 : sub2 i N → bc8 i = m → x ≤ K i) : LwS K N m (i + 1) x := by
  refine ⟨fun S q1 q2 q3 q4 => ?_, ?_⟩
  · by_cases e : S = i
    · subst e; exact h2 q3 q4
    · exact h.1 S q1 (by omega) q3 q4
  · rcases h.2 with q | ⟨S, q, z⟩
    · exact Or.inl q
    · exact Or.inr ⟨S, by omega, z⟩
theorem Lw_yes {K : Int → Int} {N m i x : Int} (h : LwS K N m i x) (hi : 0 ≤ i) (h1 : sub2 i N) (h2 : bc8 i = m) (h3 : K i < x) : LwS K N m (i + 1) (K i) := by
  refine ⟨fun S q1 q2 q3 q4 => ?_, Or.inr ⟨i, by omega, h1, h2, rfl⟩⟩
  by_cases e : S = i
  · subst e; exact Int.le_refl _
  · have := h.1 S q1 (by omega) q3 q4
    omega
set_option maxHeartbeats 4000000 in
set_option maxRecDepth 100000 in
theorem c_X4_leastWithout (l : Launch) (K : KX) (M : Mem) (k : Int) (hk : 0 ≤ k ∧ k ≤ 7) (hnb : 0 ≤ M 24 6 ∧ M 24 6 ≤ 255) (hky : (∀ S, 0 ≤ S → S < 256 → 0 ≤ M 26 S ∧ M 26 S ≤ 2147483647)) : MCi l K LAY yX4_leastWithout cX4_leastWithout 5 (some .int) 2 [rV K 24, iV k] M (fun r M' => (LwS (M 26) (M 24 6) (mx2 0 (bc8 (M 24 6) - k)) 256 r) ∧ (0 ≤ r ∧ r ≤ 2147483647) ∧ M' = M) := by
  refine mci_intro RX4 rfl [some (rV K 24), some (iV k), none, none, none] rfl (by decide +kernel) (cat_r (cat_i cat_nil)) (Nat.le_of_ble_eq_true rfl) (fun X hX C => ?_)
  subst hX
  have hbn := bc8_rng (M 24 6)
  have hwn : 0 ≤ (mx2 0 (bc8 (M 24 6) - k)) ∧ (mx2 0 (bc8 (M 24 6) - k)) ≤ 8 := by unfold mx2; split <;> omega
  refine pw_iconst C dX4_leastWithout_0 ?_
  refine pw_aload0 C dX4_leastWithout_1 ?_
  refine g_24_6 C fl_X4_28 dX4_leastWithout_2 ?_
  refine pw_cSi1 C (c_J6_bitCount_0f7a4 _ K _ _ (by omega)) cb_J6_bitCount_0f7a4 ml_X4_121 dX4_leastWithout_5 (by decide) (Nat.le_of_ble_eq_true rfl) (fun r5 M5 hQ => ?_)
  obtain ⟨rfl, hMe⟩ := hQ
  replace hMe := hMe.symm
  subst hMe
  refine pw_iload1 C dX4_leastWithout_8 ?_
  refine pw_isub C dX4_leastWithout_9 ?_
  refine pw_mmax C (by omega) (by omega) (Nat.le_of_ble_eq_true rfl) ml_X4_115 dX4_leastWithout_10 ?_
  refine pw_top C (mx2 0 (bc8 (M 24 6) - k)) rfl ?_
  refine pw_istore2 C (by decide) dX4_leastWithout_13 ?_
  refine pw_ldc C (z := 2147483647) (by decide) ct_X4_48 dX4_leastWithout_14 ?_
  refine pw_istore3 C (by decide) dX4_leastWithout_16 ?_
  refine pw_iconst C dX4_leastWithout_17 ?_
  refine pw_istore4 C (by decide) dX4_leastWithout_18 ?_
  have cut_20 : ∀ (fu : Nat) (x i : Int), (0 ≤ i ∧ i ≤ 256) → (0 ≤ x ∧ x ≤ 2147483647) → (LwS (M 26) (M 24 6) (mx2 0 (bc8 (M 24 6) - k)) i x) → (256 - i).toNat < fu → PW X K LAY 5 (0, 0) (Zi X K LAY (fun r M' => (LwS (M 26) (M 24 6) (mx2 0 (bc8 (M 24 6) - k)) 256 r) ∧ (0 ≤ r ∧ r ≤ 2147483647) ∧ M' = M)) 20 [some (rV K 24), some (iV k), some (iV (mx2 0 (bc8 (M 24 6) - k))), some (iV x), some (iV i)] [] M := by
    intro fu
    induction fu with
    | zero => intro _ _ _ _ _ hm; exact absurd hm (Nat.not_lt_zero _)
    | succ fu ih =>
      intro x i hi hx g hm
      have ih_20 := ih
      have hm_20 := hm
      refine pw_iload4 C dX4_leastWithout_20 ?_
      refine pw_sipush C dX4_leastWithout_22 (by decide) ?_
      refine pw_icmp_ge (tgt := 74) C dX4_leastWithout_25 (by decide) (by omega) (by omega) (fun h25 => ?_) (fun h25 => ?_)
      · refine pw_iload3 C dX4_leastWithout_74 ?_
        exact pw_iretI C dX4_leastWithout_75 (⟨by rw [show (256 : Int) = i by omega]; exact g, by exact hx, rfl⟩)
      · have hz : (0 : Int) ≤ ((i.toNat &&& (M 24 6).toNat : Nat) : Int) ∧ ((i.toNat &&& (M 24 6).toNat : Nat) : Int) ≤ 255 := by
          have h5 : i.toNat &&& (M 24 6).toNat ≤ i.toNat := Nat.and_le_left
          omega
        have hki := hky i (by omega) (by omega)
        have hbi := bc8_rng i
        have cut_68 : ∀  (x9 : Int), (0 ≤ x9 ∧ x9 ≤ 2147483647) → (LwS (M 26) (M 24 6) (mx2 0 (bc8 (M 24 6) - k)) (i + 1) x9) → PW X K LAY 5 (0, 0) (Zi X K LAY (fun r M' => (LwS (M 26) (M 24 6) (mx2 0 (bc8 (M 24 6) - k)) 256 r) ∧ (0 ≤ r ∧ r ≤ 2147483647) ∧ M' = M)) 68 [some (rV K 24), some (iV k), some (iV (mx2 0 (bc8 (M 24 6) - k))), some (iV x9), some (iV i)] [] M := by
          intro x9 hx9 g9
          refine pw_iinc4 C (by decide) dX4_leastWithout_68 ?_
          refine pw_goto (tgt := 20) C dX4_leastWithout_71 (by decide) ?_
          exact ih_20 _ _ (by omega) (by omega) (by exact g9) (by omega)
        refine pw_iload4 C dX4_leastWithout_28 ?_
        refine pw_aload0 C dX4_leastWithout_30 ?_
        refine g_24_6 C fl_X4_28 dX4_leastWithout_31 ?_
        refine pw_iand C (((i.toNat &&& (M 24 6).toNat : Nat) : Int)) (b_and (by omega) (by omega)) dX4_leastWithout_34 ?_
        refine pw_iload4 C dX4_leastWithout_35 ?_
        refine pw_icmp_ne (tgt := 68) C dX4_leastWithout_37 (by decide) (by omega) (by omega) (fun h37 => ?_) (fun h37 => ?_)
        · have hns : ¬ sub2 i (M 24 6) := fun q => h37 ((sub2_and (by omega)).mpr q)
          exact cut_68 _ (by omega) (by exact Lw_no g (fun q => absurd q hns))
        · have hys : sub2 i (M 24 6) := (sub2_and (by omega)).mp (by omega)
          refine pw_iload4 C dX4_leastWithout_40 ?_
          refine pw_cSi1 C (c_J6_bitCount_0f7a4 _ K _ _ (by omega)) cb_J6_bitCount_0f7a4 ml_X4_121 dX4_leastWithout_42 (by decide) (Nat.le_of_ble_eq_true rfl) (fun r42 M42 hQ => ?_)
          obtain ⟨rfl, hMe⟩ := hQ
          replace hMe := hMe.symm
          subst hMe
          refine pw_iload2 C dX4_leastWithout_45 ?_
          refine pw_icmp_ne (tgt := 68) C dX4_leastWithout_46 (by decide) (by omega) (by omega) (fun h46 => ?_) (fun h46 => ?_)
          · exact cut_68 _ (by omega) (by exact Lw_no g (fun _ q => absurd q h46))
          · refine pw_aload0 C dX4_leastWithout_49 ?_
            refine g_24_3 C fl_X4_19 dX4_leastWithout_50 ?_
            refine pw_iload4 C dX4_leastWithout_53 ?_
            refine pw_iaload C lay_26 (by omega) (by decide) dX4_leastWithout_55 ?_
            refine pw_iload3 C dX4_leastWithout_56 ?_
            refine pw_icmp_ge (tgt := 68) C dX4_leastWithout_57 (by decide) (by omega) (by omega) (fun h57 => ?_) (fun h57 => ?_)
            · exact cut_68 _ (by omega) (by exact Lw_no g (fun _ _ => by omega))
            · refine pw_aload0 C dX4_leastWithout_60 ?_
              refine g_24_3 C fl_X4_19 dX4_leastWithout_61 ?_
              refine pw_iload4 C dX4_leastWithout_64 ?_
              refine pw_iaload C lay_26 (by omega) (by decide) dX4_leastWithout_66 ?_
              refine pw_istore3 C (by decide) dX4_leastWithout_67 ?_
              exact cut_68 _ (by omega) (by exact Lw_yes g hi.1 hys (by omega) (by omega))
  exact cut_20 _ _ _ (by omega) (by omega) (by exact ⟨fun S q1 q2 => by omega, Or.inl rfl⟩) (Nat.lt_succ_self _)
