set_option maxHeartbeats 4000000 in
set_option maxRecDepth 100000 in
theorem c_X11_thrown (l : Launch) (K : KX) (M : Mem) : MCi l K LAY yX11_thrown cX11_thrown 1 (some .int) 1 [rV K 43] M (fun r M' => (r = M 43 0) ∧ M' = M) := by
  refine mci_intro RX11 rfl [some (rV K 43)] rfl (by decide +kernel) (cat_r cat_nil) (Nat.le_of_ble_eq_true rfl) (fun X hX C => ?_)
  subst hX
  refine pw_aload0 C dX11_thrown_0 ?_
  refine g_43_0 C fl_X11_1 dX11_thrown_1 ?_
  exact pw_iretI C dX11_thrown_4 (⟨rfl, rfl⟩)
set_option maxHeartbeats 4000000 in
set_option maxRecDepth 100000 in
theorem c_X11_within (l : Launch) (K : KX) (M : Mem) (v a b : Int) (hv : -2147483648 ≤ v ∧ v ≤ 2147483647) (ha : -2147483648 ≤ a ∧ a ≤ 2147483647) (hb : -2147483648 ≤ b ∧ b ≤ 2147483647) : MCi l K LAY yX11_within cX11_within 3 (some .boolean) 1 [iV v, iV a, iV b] M (fun r M' => (r = if a ≤ v ∧ v ≤ b then 1 else 0) ∧ M' = M) := by
  refine mci_intro RX11 rfl [some (iV v), some (iV a), some (iV b)] rfl (by decide +kernel) (cat_i (cat_i (cat_i cat_nil))) (Nat.le_of_ble_eq_true rfl) (fun X hX C => ?_)
  subst hX
  refine pw_iload0 C dX11_within_0 ?_
  refine pw_iload1 C dX11_within_1 ?_
  refine pw_icmp_lt (tgt := 14) C dX11_within_2 (by decide) (by omega) (by omega) (fun h2 => ?_) (fun h2 => ?_)
  · refine pw_iconst C dX11_within_14 ?_
    exact pw_zretI C dX11_within_15 (by decide) (⟨by split <;> omega, rfl⟩)
  · refine pw_iload0 C dX11_within_5 ?_
    refine pw_iload2 C dX11_within_6 ?_
    refine pw_icmp_gt (tgt := 14) C dX11_within_7 (by decide) (by omega) (by omega) (fun h7 => ?_) (fun h7 => ?_)
    · refine pw_iconst C dX11_within_14 ?_
      exact pw_zretI C dX11_within_15 (by decide) (⟨by split <;> omega, rfl⟩)
    · refine pw_iconst C dX11_within_10 ?_
      refine pw_goto (tgt := 15) C dX11_within_11 (by decide) ?_
      exact pw_zretI C dX11_within_15 (by decide) (⟨by split <;> omega, rfl⟩)
set_option maxHeartbeats 4000000 in
set_option maxRecDepth 100000 in
theorem c_X11_changes (l : Launch) (K : KX) (M : Mem) : MCv l K LAY yX11_changes cX11_changes 1 none 1 [rV K 43] M (fun M' => M' = (up2 (up2 (up2 M 43 13 0) 43 14 0) 43 15 0)) := by
  refine mcv_intro RX11 rfl [some (rV K 43)] rfl (by decide +kernel) (cat_r cat_nil) (Nat.le_of_ble_eq_true rfl) (fun X hX C => ?_)
  subst hX
  refine pw_aload0 C dX11_changes_0 ?_
  refine pw_iconst C dX11_changes_1 ?_
  refine p_43_13 C (by decide) fl_X11_71 dX11_changes_2 ?_
  refine pw_aload0 C dX11_changes_5 ?_
  refine pw_iconst C dX11_changes_6 ?_
  refine p_43_14 C (by decide) fl_X11_75 dX11_changes_7 ?_
  refine pw_aload0 C dX11_changes_10 ?_
  refine pw_iconst C dX11_changes_11 ?_
  refine p_43_15 C fl_X11_78 dX11_changes_12 ?_
  exact pw_vretV C dX11_changes_15 (rfl)
set_option maxHeartbeats 4000000 in
set_option maxRecDepth 100000 in
theorem c_X11_isWord (l : Launch) (K : KX) (M : Mem) (w : Int) (hw : -2147483648 ≤ w ∧ w ≤ 2147483647) (hs : 0 ≤ M 43 6 ∧ M 43 6 ≤ 8) : MCi l K LAY yX11_isWord cX11_isWord 2 (some .boolean) 1 [rV K 43, iV w] M (fun r M' => (r = if 0 ≤ w ∧ w < M 43 6 then 1 else 0) ∧ M' = M) := by
  refine mci_intro RX11 rfl [some (rV K 43), some (iV w)] rfl (by decide +kernel) (cat_r (cat_i cat_nil)) (Nat.le_of_ble_eq_true rfl) (fun X hX C => ?_)
  subst hX
  refine pw_iload1 C dX11_isWord_0 ?_
  refine pw_if_lt (tgt := 16) C dX11_isWord_1 (by decide) (by omega) (fun h1 => ?_) (fun h1 => ?_)
  · refine pw_iconst C dX11_isWord_16 ?_
    exact pw_zretI C dX11_isWord_17 (by decide) (⟨by split <;> omega, rfl⟩)
  · refine pw_iload1 C dX11_isWord_4 ?_
    refine pw_aload0 C dX11_isWord_5 ?_
    refine g_43_6 C fl_X11_85 dX11_isWord_6 ?_
    refine pw_icmp_ge (tgt := 16) C dX11_isWord_9 (by decide) (by omega) (by omega) (fun h9 => ?_) (fun h9 => ?_)
    · refine pw_iconst C dX11_isWord_16 ?_
      exact pw_zretI C dX11_isWord_17 (by decide) (⟨by split <;> omega, rfl⟩)
    · refine pw_iconst C dX11_isWord_12 ?_
      refine pw_goto (tgt := 17) C dX11_isWord_13 (by decide) ?_
      exact pw_zretI C dX11_isWord_17 (by decide) (⟨by split <;> omega, rfl⟩)
set_option maxHeartbeats 4000000 in
set_option maxRecDepth 100000 in
theorem c_X11_letters (l : Launch) (K : KX) (M : Mem) (n : Int) (hn : -2147483648 ≤ n ∧ n ≤ 2147483647) (hs : 0 ≤ M 43 6 ∧ M 43 6 ≤ 8) (ht : 0 ≤ M 43 10 ∧ M 43 10 ≤ 5) : MCi l K LAY yX11_letters cX11_letters 2 (some .boolean) 3 [rV K 43, iV n] M (fun r M' => (if 2 ≤ n ∧ n ≤ 4 ∧ M 43 6 = 0 ∧ M 43 10 = 0 then r = 1 ∧ M' = up2 (up2 M 43 0 0) 43 1 n else r = 0 ∧ M' = (up2 M 43 0 0)) ∧ Sm [43] M M') := by
  refine mci_intro RX11 rfl [some (rV K 43), some (iV n)] rfl (by decide +kernel) (cat_r (cat_i cat_nil)) (Nat.le_of_ble_eq_true rfl) (fun X hX C => ?_)
  subst hX
  refine pw_aload0 C dX11_letters_0 ?_
  refine pw_iconst C dX11_letters_1 ?_
  refine p_43_0 C fl_X11_1 dX11_letters_2 ?_
  refine pw_iload1 C dX11_letters_5 ?_
  refine pw_iconst C dX11_letters_6 ?_
  refine pw_iconst C dX11_letters_7 ?_
  refine pw_cSi3 C (c_X11_within _ K _ _ _ _ (by omega) (by omega) (by omega)) cb_X11_within ml_X11_81 dX11_letters_8 (by decide) (Nat.le_of_ble_eq_true rfl) (fun r8 M8 hQ => ?_)
  obtain ⟨rfl, hMe⟩ := hQ
  replace hMe := hMe.symm
  subst hMe
  refine pw_if_eq (tgt := 28) C dX11_letters_11 (by decide) (by split <;> omega) (fun h11 => ?_) (fun h11 => ?_)
  · have e11 : ¬ (2 ≤ n ∧ n ≤ 4) := fun h => by rw [if_pos h] at h11; omega
    refine pw_iconst C dX11_letters_28 ?_
    exact pw_zretI C dX11_letters_29 (by decide) (⟨by rw [if_neg (by omega)]; exact ⟨rfl, rfl⟩, (Sm_up Sm_refl (by decide))⟩)
  · have e11 : (2 ≤ n ∧ n ≤ 4) := Decidable.byContradiction fun h => by rw [if_neg h] at h11; omega
    refine pw_aload0 C dX11_letters_14 ?_
    refine g_43_6 C fl_X11_85 dX11_letters_15 ?_
    refine pw_top C _ (rd_ne (by decide)) ?_
    refine pw_if_gt (tgt := 28) C dX11_letters_18 (by decide) (by omega) (fun h18 => ?_) (fun h18 => ?_)
    · refine pw_iconst C dX11_letters_28 ?_
      exact pw_zretI C dX11_letters_29 (by decide) (⟨by rw [if_neg (by omega)]; exact ⟨rfl, rfl⟩, (Sm_up Sm_refl (by decide))⟩)
    · refine pw_aload0 C dX11_letters_21 ?_
      refine g_43_10 C fl_X11_88 dX11_letters_22 ?_
      refine pw_top C _ (rd_ne (by decide)) ?_
      refine pw_if_le (tgt := 30) C dX11_letters_25 (by decide) (by omega) (fun h25 => ?_) (fun h25 => ?_)
      · refine pw_aload0 C dX11_letters_30 ?_
        refine pw_iload1 C dX11_letters_31 ?_
        refine p_43_1 C fl_X11_13 dX11_letters_32 ?_
        refine pw_iconst C dX11_letters_35 ?_
        exact pw_zretI C dX11_letters_36 (by decide) (⟨by rw [if_pos (by omega)]; exact ⟨rfl, rfl⟩, (Sm_up (Sm_up Sm_refl (by decide)) (by decide))⟩)
      · refine pw_iconst C dX11_letters_28 ?_
        exact pw_zretI C dX11_letters_29 (by decide) (⟨by rw [if_neg (by omega)]; exact ⟨rfl, rfl⟩, (Sm_up Sm_refl (by decide))⟩)
set_option maxHeartbeats 4000000 in
set_option maxRecDepth 100000 in
theorem c_X11_cost (l : Launch) (K : KX) (M : Mem) (a b v : Int) (ha : -2147483648 ≤ a ∧ a ≤ 2147483647) (hb : -2147483648 ≤ b ∧ b ≤ 2147483647) (hv : -2147483648 ≤ v ∧ v ≤ 2147483647) : MCi l K LAY yX11_cost cX11_cost 4 (some .boolean) 3 [rV K 43, iV a, iV b, iV v] M (fun r M' => (if (0 ≤ a ∧ a ≤ 3) ∧ (0 ≤ b ∧ b ≤ 3) ∧ a ≠ b ∧ 1 ≤ v ∧ v ≤ 9 then r = 1 ∧ M' = (up2 (up2 (up2 (up2 (up2 (up2 M 43 0 0) 44 (4 * a + b) v) 44 (4 * b + a) v) 43 13 0) 43 14 0) 43 15 0) else r = 0 ∧ M' = (up2 M 43 0 0)) ∧ Sm [43, 44] M M') := by
  refine mci_intro RX11 rfl [some (rV K 43), some (iV a), some (iV b), some (iV v)] rfl (by decide +kernel) (cat_r (cat_i (cat_i (cat_i cat_nil)))) (Nat.le_of_ble_eq_true rfl) (fun X hX C => ?_)
  subst hX
  refine pw_aload0 C dX11_cost_0 ?_
  refine pw_iconst C dX11_cost_1 ?_
  refine p_43_0 C fl_X11_1 dX11_cost_2 ?_
  refine pw_iload1 C dX11_cost_5 ?_
  refine pw_iconst C dX11_cost_6 ?_
  refine pw_iconst C dX11_cost_7 ?_
  refine pw_cSi3 C (c_X11_within _ K _ _ _ _ (by omega) (by omega) (by omega)) cb_X11_within ml_X11_81 dX11_cost_8 (by decide) (Nat.le_of_ble_eq_true rfl) (fun r8 M8 hQ => ?_)
  obtain ⟨rfl, hMe⟩ := hQ
  replace hMe := hMe.symm
  subst hMe
  refine pw_if_eq (tgt := 38) C dX11_cost_11 (by decide) (by split <;> omega) (fun h11 => ?_) (fun h11 => ?_)
  · have e11 : ¬ (0 ≤ a ∧ a ≤ 3) := fun h => by rw [if_pos h] at h11; omega
    refine pw_iconst C dX11_cost_38 ?_
    exact pw_zretI C dX11_cost_39 (by decide) (⟨by rw [if_neg (by omega)]; exact ⟨rfl, rfl⟩, (Sm_up Sm_refl (by decide))⟩)
  · have e11 : (0 ≤ a ∧ a ≤ 3) := Decidable.byContradiction fun h => by rw [if_neg h] at h11; omega
    refine pw_iload2 C dX11_cost_14 ?_
    refine pw_iconst C dX11_cost_15 ?_
    refine pw_iconst C dX11_cost_16 ?_
    refine pw_cSi3 C (c_X11_within _ K _ _ _ _ (by omega) (by omega) (by omega)) cb_X11_within ml_X11_81 dX11_cost_17 (by decide) (Nat.le_of_ble_eq_true rfl) (fun r17 M17 hQ => ?_)
    obtain ⟨rfl, hMe⟩ := hQ
    replace hMe := hMe.symm
    subst hMe
    refine pw_if_eq (tgt := 38) C dX11_cost_20 (by decide) (by split <;> omega) (fun h20 => ?_) (fun h20 => ?_)
    · have e20 : ¬ (0 ≤ b ∧ b ≤ 3) := fun h => by rw [if_pos h] at h20; omega
      refine pw_iconst C dX11_cost_38 ?_
      exact pw_zretI C dX11_cost_39 (by decide) (⟨by rw [if_neg (by omega)]; exact ⟨rfl, rfl⟩, (Sm_up Sm_refl (by decide))⟩)
    · have e20 : (0 ≤ b ∧ b ≤ 3) := Decidable.byContradiction fun h => by rw [if_neg h] at h20; omega
      refine pw_iload1 C dX11_cost_23 ?_
      refine pw_iload2 C dX11_cost_24 ?_
      refine pw_icmp_eq (tgt := 38) C dX11_cost_25 (by decide) (by omega) (by omega) (fun h25 => ?_) (fun h25 => ?_)
      · refine pw_iconst C dX11_cost_38 ?_
        exact pw_zretI C dX11_cost_39 (by decide) (⟨by rw [if_neg (by omega)]; exact ⟨rfl, rfl⟩, (Sm_up Sm_refl (by decide))⟩)
      · refine pw_iload3 C dX11_cost_28 ?_
        refine pw_iconst C dX11_cost_29 ?_
        refine pw_bipush C dX11_cost_30 (by decide) ?_
        refine pw_cSi3 C (c_X11_within _ K _ _ _ _ (by omega) (by omega) (by omega)) cb_X11_within ml_X11_81 dX11_cost_32 (by decide) (Nat.le_of_ble_eq_true rfl) (fun r32 M32 hQ => ?_)
        obtain ⟨rfl, hMe⟩ := hQ
        replace hMe := hMe.symm
        subst hMe
        refine pw_if_ne (tgt := 40) C dX11_cost_35 (by decide) (by split <;> omega) (fun h35 => ?_) (fun h35 => ?_)
        · have e35 : (1 ≤ v ∧ v ≤ 9) := Decidable.byContradiction fun h => by rw [if_neg h] at h35; omega
          refine pw_aload0 C dX11_cost_40 ?_
          refine g_43_2 C fl_X11_16 dX11_cost_41 ?_
          refine pw_iconst C dX11_cost_44 ?_
          refine pw_iload1 C dX11_cost_45 ?_
          refine pw_imul C dX11_cost_46 ?_
          refine pw_iload2 C dX11_cost_47 ?_
          refine pw_iadd C dX11_cost_48 ?_
          refine pw_iload3 C dX11_cost_49 ?_
          refine pw_iastore C lay_44 (by omega) (by decide) dX11_cost_50 ?_
          refine pw_aload0 C dX11_cost_51 ?_
          refine g_43_2 C fl_X11_16 dX11_cost_52 ?_
          refine pw_iconst C dX11_cost_55 ?_
          refine pw_iload2 C dX11_cost_56 ?_
          refine pw_imul C dX11_cost_57 ?_
          refine pw_iload1 C dX11_cost_58 ?_
          refine pw_iadd C dX11_cost_59 ?_
          refine pw_iload3 C dX11_cost_60 ?_
          refine pw_iastore C lay_44 (by omega) (by decide) dX11_cost_61 ?_
          refine pw_aload0 C dX11_cost_62 ?_
          refine pw_cVv0 C (c_X11_changes _ K _ ) cb_X11_changes lay_43 kc_11 rfl ml_X11_91 dX11_cost_63 (by decide) (Nat.le_of_ble_eq_true rfl) (fun M63 hQ => ?_)
          have hMe := hQ
          replace hMe := hMe.symm
          subst hMe
          refine pw_iconst C dX11_cost_66 ?_
          exact pw_zretI C dX11_cost_67 (by decide) (⟨by rw [if_pos (by omega)]; exact ⟨rfl, rfl⟩, (Sm_up (Sm_up (Sm_up (Sm_up (Sm_up (Sm_up Sm_refl (by decide)) (by decide)) (by decide)) (by decide)) (by decide)) (by decide))⟩)
        · have e35 : ¬ (1 ≤ v ∧ v ≤ 9) := fun h => by rw [if_pos h] at h35; omega
          refine pw_iconst C dX11_cost_38 ?_
          exact pw_zretI C dX11_cost_39 (by decide) (⟨by rw [if_neg (by omega)]; exact ⟨rfl, rfl⟩, (Sm_up Sm_refl (by decide))⟩)
set_option maxHeartbeats 4000000 in
set_option maxRecDepth 100000 in
theorem c_X11_swap (l : Launch) (K : KX) (M : Mem) (v : Int) (hv : -2147483648 ≤ v ∧ v ≤ 2147483647) : MCi l K LAY yX11_swap cX11_swap 2 (some .boolean) 3 [rV K 43, iV v] M (fun r M' => (if 0 ≤ v ∧ v ≤ 9 then r = 1 ∧ M' = (up2 (up2 (up2 (up2 (up2 M 43 0 0) 43 3 v) 43 13 0) 43 14 0) 43 15 0) else r = 0 ∧ M' = (up2 M 43 0 0)) ∧ Sm [43] M M') := by
  refine mci_intro RX11 rfl [some (rV K 43), some (iV v)] rfl (by decide +kernel) (cat_r (cat_i cat_nil)) (Nat.le_of_ble_eq_true rfl) (fun X hX C => ?_)
  subst hX
  refine pw_aload0 C dX11_swap_0 ?_
  refine pw_iconst C dX11_swap_1 ?_
  refine p_43_0 C fl_X11_1 dX11_swap_2 ?_
  refine pw_iload1 C dX11_swap_5 ?_
  refine pw_iconst C dX11_swap_6 ?_
  refine pw_bipush C dX11_swap_7 (by decide) ?_
  refine pw_cSi3 C (c_X11_within _ K _ _ _ _ (by omega) (by omega) (by omega)) cb_X11_within ml_X11_81 dX11_swap_9 (by decide) (Nat.le_of_ble_eq_true rfl) (fun r9 M9 hQ => ?_)
  obtain ⟨rfl, hMe⟩ := hQ
  replace hMe := hMe.symm
  subst hMe
  refine pw_if_ne (tgt := 17) C dX11_swap_12 (by decide) (by split <;> omega) (fun h12 => ?_) (fun h12 => ?_)
  · have e12 : (0 ≤ v ∧ v ≤ 9) := Decidable.byContradiction fun h => by rw [if_neg h] at h12; omega
    refine pw_aload0 C dX11_swap_17 ?_
    refine pw_iload1 C dX11_swap_18 ?_
    refine p_43_3 C fl_X11_94 dX11_swap_19 ?_
    refine pw_aload0 C dX11_swap_22 ?_
    refine pw_cVv0 C (c_X11_changes _ K _ ) cb_X11_changes lay_43 kc_11 rfl ml_X11_91 dX11_swap_23 (by decide) (Nat.le_of_ble_eq_true rfl) (fun M23 hQ => ?_)
    have hMe := hQ
    replace hMe := hMe.symm
    subst hMe
    refine pw_iconst C dX11_swap_26 ?_
    exact pw_zretI C dX11_swap_27 (by decide) (⟨by rw [if_pos (by omega)]; exact ⟨rfl, rfl⟩, (Sm_up (Sm_up (Sm_up (Sm_up (Sm_up Sm_refl (by decide)) (by decide)) (by decide)) (by decide)) (by decide))⟩)
  · have e12 : ¬ (0 ≤ v ∧ v ≤ 9) := fun h => by rw [if_pos h] at h12; omega
    refine pw_iconst C dX11_swap_15 ?_
    exact pw_zretI C dX11_swap_16 (by decide) (⟨by rw [if_neg (by omega)]; exact ⟨rfl, rfl⟩, (Sm_up Sm_refl (by decide))⟩)
set_option maxHeartbeats 4000000 in
set_option maxRecDepth 100000 in
theorem c_X11_drop (l : Launch) (K : KX) (M : Mem) (v : Int) (hv : -2147483648 ≤ v ∧ v ≤ 2147483647) : MCi l K LAY yX11_drop cX11_drop 2 (some .boolean) 3 [rV K 43, iV v] M (fun r M' => (if 1 ≤ v ∧ v ≤ 9 then r = 1 ∧ M' = (up2 (up2 (up2 (up2 (up2 M 43 0 0) 43 4 v) 43 13 0) 43 14 0) 43 15 0) else r = 0 ∧ M' = (up2 M 43 0 0)) ∧ Sm [43] M M') := by
  refine mci_intro RX11 rfl [some (rV K 43), some (iV v)] rfl (by decide +kernel) (cat_r (cat_i cat_nil)) (Nat.le_of_ble_eq_true rfl) (fun X hX C => ?_)
  subst hX
  refine pw_aload0 C dX11_drop_0 ?_
  refine pw_iconst C dX11_drop_1 ?_
  refine p_43_0 C fl_X11_1 dX11_drop_2 ?_
  refine pw_iload1 C dX11_drop_5 ?_
  refine pw_iconst C dX11_drop_6 ?_
  refine pw_bipush C dX11_drop_7 (by decide) ?_
  refine pw_cSi3 C (c_X11_within _ K _ _ _ _ (by omega) (by omega) (by omega)) cb_X11_within ml_X11_81 dX11_drop_9 (by decide) (Nat.le_of_ble_eq_true rfl) (fun r9 M9 hQ => ?_)
  obtain ⟨rfl, hMe⟩ := hQ
  replace hMe := hMe.symm
  subst hMe
  refine pw_if_ne (tgt := 17) C dX11_drop_12 (by decide) (by split <;> omega) (fun h12 => ?_) (fun h12 => ?_)
  · have e12 : (1 ≤ v ∧ v ≤ 9) := Decidable.byContradiction fun h => by rw [if_neg h] at h12; omega
    refine pw_aload0 C dX11_drop_17 ?_
    refine pw_iload1 C dX11_drop_18 ?_
    refine p_43_4 C fl_X11_20 dX11_drop_19 ?_
    refine pw_aload0 C dX11_drop_22 ?_
    refine pw_cVv0 C (c_X11_changes _ K _ ) cb_X11_changes lay_43 kc_11 rfl ml_X11_91 dX11_drop_23 (by decide) (Nat.le_of_ble_eq_true rfl) (fun M23 hQ => ?_)
    have hMe := hQ
    replace hMe := hMe.symm
    subst hMe
    refine pw_iconst C dX11_drop_26 ?_
    exact pw_zretI C dX11_drop_27 (by decide) (⟨by rw [if_pos (by omega)]; exact ⟨rfl, rfl⟩, (Sm_up (Sm_up (Sm_up (Sm_up (Sm_up Sm_refl (by decide)) (by decide)) (by decide)) (by decide)) (by decide))⟩)
  · have e12 : ¬ (1 ≤ v ∧ v ≤ 9) := fun h => by rw [if_pos h] at h12; omega
    refine pw_iconst C dX11_drop_15 ?_
    exact pw_zretI C dX11_drop_16 (by decide) (⟨by rw [if_neg (by omega)]; exact ⟨rfl, rfl⟩, (Sm_up Sm_refl (by decide))⟩)
set_option maxHeartbeats 4000000 in
set_option maxRecDepth 100000 in
theorem c_X11_gap (l : Launch) (K : KX) (M : Mem) (v : Int) (hv : -2147483648 ≤ v ∧ v ≤ 2147483647) : MCi l K LAY yX11_gap cX11_gap 2 (some .boolean) 3 [rV K 43, iV v] M (fun r M' => (if 0 ≤ v ∧ v ≤ 63 then r = 1 ∧ M' = up2 (up2 M 43 0 0) 43 5 v else r = 0 ∧ M' = (up2 M 43 0 0)) ∧ Sm [43] M M') := by
  refine mci_intro RX11 rfl [some (rV K 43), some (iV v)] rfl (by decide +kernel) (cat_r (cat_i cat_nil)) (Nat.le_of_ble_eq_true rfl) (fun X hX C => ?_)
  subst hX
  refine pw_aload0 C dX11_gap_0 ?_
  refine pw_iconst C dX11_gap_1 ?_
  refine p_43_0 C fl_X11_1 dX11_gap_2 ?_
  refine pw_iload1 C dX11_gap_5 ?_
  refine pw_iconst C dX11_gap_6 ?_
  refine pw_bipush C dX11_gap_7 (by decide) ?_
  refine pw_cSi3 C (c_X11_within _ K _ _ _ _ (by omega) (by omega) (by omega)) cb_X11_within ml_X11_81 dX11_gap_9 (by decide) (Nat.le_of_ble_eq_true rfl) (fun r9 M9 hQ => ?_)
  obtain ⟨rfl, hMe⟩ := hQ
  replace hMe := hMe.symm
  subst hMe
  refine pw_if_ne (tgt := 17) C dX11_gap_12 (by decide) (by split <;> omega) (fun h12 => ?_) (fun h12 => ?_)
  · have e12 : (0 ≤ v ∧ v ≤ 63) := Decidable.byContradiction fun h => by rw [if_neg h] at h12; omega
    refine pw_aload0 C dX11_gap_17 ?_
    refine pw_iload1 C dX11_gap_18 ?_
    refine p_43_5 C fl_X11_97 dX11_gap_19 ?_
    refine pw_iconst C dX11_gap_22 ?_
    exact pw_zretI C dX11_gap_23 (by decide) (⟨by rw [if_pos (by omega)]; exact ⟨rfl, rfl⟩, (Sm_up (Sm_up Sm_refl (by decide)) (by decide))⟩)
  · have e12 : ¬ (0 ≤ v ∧ v ≤ 63) := fun h => by rw [if_pos h] at h12; omega
    refine pw_iconst C dX11_gap_15 ?_
    exact pw_zretI C dX11_gap_16 (by decide) (⟨by rw [if_neg (by omega)]; exact ⟨rfl, rfl⟩, (Sm_up Sm_refl (by decide))⟩)
set_option maxHeartbeats 4000000 in
set_option maxRecDepth 100000 in
theorem c_X11_end (l : Launch) (K : KX) (M : Mem) (n : Int) (hn : -2147483648 ≤ n ∧ n ≤ 2147483647) (hs : 0 ≤ M 43 17 ∧ M 43 17 ≤ 40) : MCi l K LAY yX11_end cX11_end 2 (some .int) 3 [rV K 43, iV n] M (fun r M' => (if 0 ≤ n ∧ n ≤ M 43 17 then r = n ∧ M' = up2 (up2 M 43 0 0) 43 17 n else r = -1 ∧ M' = (up2 M 43 0 0)) ∧ Sm [43] M M') := by
  refine mci_intro RX11 rfl [some (rV K 43), some (iV n)] rfl (by decide +kernel) (cat_r (cat_i cat_nil)) (Nat.le_of_ble_eq_true rfl) (fun X hX C => ?_)
  subst hX
  refine pw_aload0 C dX11_end_0 ?_
  refine pw_iconst C dX11_end_1 ?_
  refine p_43_0 C fl_X11_1 dX11_end_2 ?_
  refine pw_iload1 C dX11_end_5 ?_
  refine pw_if_lt (tgt := 17) C dX11_end_6 (by decide) (by omega) (fun h6 => ?_) (fun h6 => ?_)
  · refine pw_iconst C dX11_end_17 ?_
    exact pw_iretI C dX11_end_18 (⟨by rw [if_neg (by omega)]; exact ⟨rfl, rfl⟩, (Sm_up Sm_refl (by decide))⟩)
  · refine pw_iload1 C dX11_end_9 ?_
    refine pw_aload0 C dX11_end_10 ?_
    refine g_43_17 C fl_X11_100 dX11_end_11 ?_
    refine pw_top C _ (rd_ne (by decide)) ?_
    refine pw_icmp_le (tgt := 19) C dX11_end_14 (by decide) (by omega) (by omega) (fun h14 => ?_) (fun h14 => ?_)
    · refine pw_aload0 C dX11_end_19 ?_
      refine pw_iload1 C dX11_end_20 ?_
      refine p_43_17 C fl_X11_100 dX11_end_21 ?_
      refine pw_iload1 C dX11_end_24 ?_
      exact pw_iretI C dX11_end_25 (⟨by rw [if_pos (by omega)]; exact ⟨rfl, rfl⟩, (Sm_up (Sm_up Sm_refl (by decide)) (by decide))⟩)
    · refine pw_iconst C dX11_end_17 ?_
      exact pw_iretI C dX11_end_18 (⟨by rw [if_neg (by omega)]; exact ⟨rfl, rfl⟩, (Sm_up Sm_refl (by decide))⟩)
set_option maxHeartbeats 4000000 in
set_option maxRecDepth 100000 in
theorem c_X11_part (l : Launch) (K : KX) (M : Mem) (w p : Int) (hW : WfK (cfM M)) (hw : -2147483648 ≤ w ∧ w ≤ 2147483647) (hp : -2147483648 ≤ p ∧ p ≤ 2147483647) : MCi l K LAY yX11_part cX11_part 3 (some .boolean) 3 [rV K 43, iV w, iV p] M (fun r M' => (if (0 ≤ w ∧ w < M 43 6) ∧ 0 ≤ p ∧ p ≤ 2 then r = 1 ∧ M' = up2 (up2 (up2 M 43 0 0) 46 w p) 43 14 0 else r = 0 ∧ M' = (up2 M 43 0 0)) ∧ Sm [43, 46] M M') := by
  refine mci_intro RX11 rfl [some (rV K 43), some (iV w), some (iV p)] rfl (by decide +kernel) (cat_r (cat_i (cat_i cat_nil))) (Nat.le_of_ble_eq_true rfl) (fun X hX C => ?_)
  subst hX
  have w_let := wm_let hW
  have w_sw := wm_sw hW
  have w_dr := wm_dr hW
  have w_gp := wm_gp hW
  have w_w := wm_w hW
  have w_l := wm_l hW
  have w_l1 := wm_l1 hW
  have w_t := wm_t hW
  refine pw_aload0 C dX11_part_0 ?_
  refine pw_iconst C dX11_part_1 ?_
  refine p_43_0 C fl_X11_1 dX11_part_2 ?_
  refine pw_aload0 C dX11_part_5 ?_
  refine pw_iload1 C dX11_part_6 ?_
  refine pw_cVi1 C (c_X11_isWord _ K _ _ (by omega) (by rw [rd_ne (by decide)]; omega)) cb_X11_isWord lay_43 kc_11 rfl ml_X11_113 dX11_part_7 (by decide) (Nat.le_of_ble_eq_true rfl) (fun r7 M7 hQ => ?_)
  obtain ⟨rfl, hMe⟩ := hQ
  replace hMe := hMe.symm
  subst hMe
  rw [rd_ne (by decide)]
  refine pw_if_eq (tgt := 22) C dX11_part_10 (by decide) (by split <;> omega) (fun h10 => ?_) (fun h10 => ?_)
  · have e10 : ¬ (0 ≤ w ∧ w < M 43 6) := fun h => by rw [if_pos h] at h10; omega
    refine pw_iconst C dX11_part_22 ?_
    exact pw_zretI C dX11_part_23 (by decide) (⟨by rw [if_neg (by omega)]; exact ⟨rfl, rfl⟩, (Sm_up Sm_refl (by decide))⟩)
  · have e10 : (0 ≤ w ∧ w < M 43 6) := Decidable.byContradiction fun h => by rw [if_neg h] at h10; omega
    refine pw_iload2 C dX11_part_13 ?_
    refine pw_iconst C dX11_part_14 ?_
    refine pw_iconst C dX11_part_15 ?_
    refine pw_cSi3 C (c_X11_within _ K _ _ _ _ (by omega) (by omega) (by omega)) cb_X11_within ml_X11_81 dX11_part_16 (by decide) (Nat.le_of_ble_eq_true rfl) (fun r16 M16 hQ => ?_)
    obtain ⟨rfl, hMe⟩ := hQ
    replace hMe := hMe.symm
    subst hMe
    refine pw_if_ne (tgt := 24) C dX11_part_19 (by decide) (by split <;> omega) (fun h19 => ?_) (fun h19 => ?_)
    · have e19 : (0 ≤ p ∧ p ≤ 2) := Decidable.byContradiction fun h => by rw [if_neg h] at h19; omega
      refine pw_aload0 C dX11_part_24 ?_
      refine g_43_9 C fl_X11_27 dX11_part_25 ?_
      refine pw_iload1 C dX11_part_28 ?_
      refine pw_iload2 C dX11_part_29 ?_
      refine pw_iastore C lay_46 (by omega) (by decide) dX11_part_30 ?_
      refine pw_aload0 C dX11_part_31 ?_
      refine pw_iconst C dX11_part_32 ?_
      refine p_43_14 C (by decide) fl_X11_75 dX11_part_33 ?_
      refine pw_iconst C dX11_part_36 ?_
      exact pw_zretI C dX11_part_37 (by decide) (⟨by rw [if_pos (by omega)]; exact ⟨rfl, rfl⟩, (Sm_up (Sm_up (Sm_up Sm_refl (by decide)) (by decide)) (by decide))⟩)
    · have e19 : ¬ (0 ≤ p ∧ p ≤ 2) := fun h => by rw [if_pos h] at h19; omega
      refine pw_iconst C dX11_part_22 ?_
      exact pw_zretI C dX11_part_23 (by decide) (⟨by rw [if_neg (by omega)]; exact ⟨rfl, rfl⟩, (Sm_up Sm_refl (by decide))⟩)
set_option maxHeartbeats 4000000 in
set_option maxRecDepth 100000 in
theorem c_X11_of (l : Launch) (K : KX) (M : Mem) (w h : Int) (hW : WfK (cfM M)) (hw : -2147483648 ≤ w ∧ w ≤ 2147483647) (hh : -2147483648 ≤ h ∧ h ≤ 2147483647) : MCi l K LAY yX11_of cX11_of 3 (some .int) 3 [rV K 43, iV w, iV h] M (fun r M' => (r = if (0 ≤ w ∧ w < M 43 6) ∧ 0 ≤ h ∧ h ≤ M 43 7 then (if h = 0 then M 46 w else M 45 (w * 7 + h - 1)) else -1) ∧ M' = (up2 M 43 0 0)) := by
  refine mci_intro RX11 rfl [some (rV K 43), some (iV w), some (iV h)] rfl (by decide +kernel) (cat_r (cat_i (cat_i cat_nil))) (Nat.le_of_ble_eq_true rfl) (fun X hX C => ?_)
  subst hX
  have w_let := wm_let hW
  have w_sw := wm_sw hW
  have w_dr := wm_dr hW
  have w_gp := wm_gp hW
  have w_w := wm_w hW
  have w_l := wm_l hW
  have w_l1 := wm_l1 hW
  have w_t := wm_t hW
  refine pw_aload0 C dX11_of_0 ?_
  refine pw_iconst C dX11_of_1 ?_
  refine p_43_0 C fl_X11_1 dX11_of_2 ?_
  refine pw_aload0 C dX11_of_5 ?_
  refine pw_iload1 C dX11_of_6 ?_
  refine pw_cVi1 C (c_X11_isWord _ K _ _ (by omega) (by rw [rd_ne (by decide)]; omega)) cb_X11_isWord lay_43 kc_11 rfl ml_X11_113 dX11_of_7 (by decide) (Nat.le_of_ble_eq_true rfl) (fun r7 M7 hQ => ?_)
  obtain ⟨rfl, hMe⟩ := hQ
  replace hMe := hMe.symm
  subst hMe
  rw [rd_ne (by decide)]
  refine pw_if_eq (tgt := 25) C dX11_of_10 (by decide) (by split <;> omega) (fun h10 => ?_) (fun h10 => ?_)
  · have e10 : ¬ (0 ≤ w ∧ w < M 43 6) := fun h => by rw [if_pos h] at h10; omega
    refine pw_iconst C dX11_of_25 ?_
    exact pw_iretI C dX11_of_26 (⟨by rw [if_neg (by omega)], rfl⟩)
  · have e10 : (0 ≤ w ∧ w < M 43 6) := Decidable.byContradiction fun h => by rw [if_neg h] at h10; omega
    refine pw_iload2 C dX11_of_13 ?_
    refine pw_if_lt (tgt := 25) C dX11_of_14 (by decide) (by omega) (fun h14 => ?_) (fun h14 => ?_)
    · refine pw_iconst C dX11_of_25 ?_
      exact pw_iretI C dX11_of_26 (⟨by rw [if_neg (by omega)], rfl⟩)
    · refine pw_iload2 C dX11_of_17 ?_
      refine pw_aload0 C dX11_of_18 ?_
      refine g_43_7 C fl_X11_110 dX11_of_19 ?_
      refine pw_top C _ (rd_ne (by decide)) ?_
      refine pw_icmp_le (tgt := 27) C dX11_of_22 (by decide) (by omega) (by omega) (fun h22 => ?_) (fun h22 => ?_)
      · refine pw_iload2 C dX11_of_27 ?_
        refine pw_if_ne (tgt := 40) C dX11_of_28 (by decide) (by omega) (fun h28 => ?_) (fun h28 => ?_)
        · refine pw_aload0 C dX11_of_40 ?_
          refine g_43_8 C fl_X11_23 dX11_of_41 ?_
          refine pw_bipush C dX11_of_44 (by decide) ?_
          refine pw_iload1 C dX11_of_46 ?_
          refine pw_imul C dX11_of_47 ?_
          refine pw_iload2 C dX11_of_48 ?_
          refine pw_iadd C dX11_of_49 ?_
          refine pw_iconst C dX11_of_50 ?_
          refine pw_isub C dX11_of_51 ?_
          refine pw_baload C lay_45 (by omega) (by decide) dX11_of_52 ?_
          refine pw_top C _ (rd_nc (by decide)) ?_
          exact pw_iretI C dX11_of_53 (⟨by rw [if_pos (by omega)]; first | rw [if_pos (by omega)] | rw [if_neg (by omega), Int.mul_comm], rfl⟩)
        · refine pw_aload0 C dX11_of_31 ?_
          refine g_43_9 C fl_X11_27 dX11_of_32 ?_
          refine pw_iload1 C dX11_of_35 ?_
          refine pw_iaload C lay_46 (by omega) (by decide) dX11_of_36 ?_
          refine pw_top C _ (rd_nc (by decide)) ?_
          refine pw_goto (tgt := 53) C dX11_of_37 (by decide) ?_
          exact pw_iretI C dX11_of_53 (⟨by rw [if_pos (by omega)]; first | rw [if_pos (by omega)] | rw [if_neg (by omega), Int.mul_comm], rfl⟩)
      · refine pw_iconst C dX11_of_25 ?_
        exact pw_iretI C dX11_of_26 (⟨by rw [if_neg (by omega)], rfl⟩)
/-- how many of the first n places hold v -/
def mnyN (p : Int → Int) (v : Int) : Nat → Int
  | 0 => 0
  | n + 1 => mnyN p v n + (if p (n : Int) = v then 1 else 0)
def mny (p : Int → Int) (v n : Int) : Int := mnyN p v n.toNat
theorem mny_0 {p : Int → Int} {v : Int} : mny p v 0 = 0 := rfl
theorem mny_s {p : Int → Int} {v n : Int} (h : 0 ≤ n) : mny p v (n + 1) = mny p v n + (if p n = v then 1 else 0) := by
  obtain ⟨x, rfl⟩ := Int.eq_ofNat_of_zero_le h
  unfold mny
  rw [show ((x : Int) + 1).toNat = x + 1 by omega, show (x : Int).toNat = x by omega, mnyN]
theorem mny_rng {p : Int → Int} {v : Int} : ∀ n, 0 ≤ n → 0 ≤ mny p v n ∧ mny p v n ≤ n := by
  apply int_ind
  · rw [mny_0]; omega
  · intro n h ih
    rw [mny_s h]
    split <;> omega
theorem pcN_bs (p : Int → Int) (v : Int) (k : Nat) : ∀ n, n ≤ k → ((pcN (hvN p v k) n : Nat) : Int) = mnyN p v n
  | 0, _ => rfl
  | n + 1, h => by
    rw [pcN, mnyN, Int.natCast_add, pcN_bs p v k n (by omega), hvN_bit]
    have e : decide (n < k) = true := by simp; omega
    rw [e, Bool.true_and]
    by_cases hp : p (n : Int) = v <;> simp [hp]
theorem pcN_up {s k : Nat} (hs : s < 2 ^ k) : ∀ n, k ≤ n → pcN s n = pcN s k := by
  intro n h
  induction n with
  | zero => rw [show k = 0 by omega]
  | succ n ih =>
    by_cases e : k = n + 1
    · rw [e]
    · rw [pcN, ih (by omega), Nat.testBit_lt_two_pow (Nat.lt_of_lt_of_le hs (Nat.pow_le_pow_right (by decide) (by omega)))]
      simp
theorem bc8_bs {p : Int → Int} {v n : Int} (h : 0 ≤ n ∧ n ≤ 8) : bc8 (bsI p v n) = mny p v n := by
  unfold bc8 bsI mny
  rw [Int.toNat_natCast, pcN_up (hvN_lt p v n.toNat) 8 (by omega), pcN_bs p v n.toNat n.toNat (Nat.le_refl _)]
theorem bs_nz {p : Int → Int} {v n : Int} (h : 0 ≤ n ∧ n ≤ 8) : bsI p v n = 0 ↔ mny p v n = 0 := by
  constructor
  · intro e
    rw [← bc8_bs h, e]
    decide
  · intro e
    have key : ∀ k : Nat, mnyN p v k = 0 → hvN p v k = 0 := by
      intro k
      induction k with
      | zero => intro _; rfl
      | succ k ih =>
        intro h1
        have h2 := (mny_rng (p := p) (v := v) (k : Int) (by omega)).1
        unfold mny at h2
        rw [Int.toNat_natCast] at h2
        rw [mnyN] at h1
        by_cases hp : p (k : Int) = v
        · rw [if_pos hp] at h1; omega
        · rw [if_neg hp] at h1
          rw [hvN, if_neg hp, ih (by omega)]
    unfold bsI
    rw [key n.toNat e]
    rfl
set_option maxHeartbeats 4000000 in
set_option maxRecDepth 100000 in
theorem c_X11_many (l : Launch) (K : KX) (M : Mem) (v : Int) (hW : WfK (cfM M)) (hv : -2147483648 ≤ v ∧ v ≤ 2147483647) : MCi l K LAY yX11_many cX11_many 4 (some .int) 1 [rV K 43, iV v] M (fun r M' => (r = mny (M 46) v (M 43 6)) ∧ M' = M) := by
  refine mci_intro RX11 rfl [some (rV K 43), some (iV v), none, none] rfl (by decide +kernel) (cat_r (cat_i cat_nil)) (Nat.le_of_ble_eq_true rfl) (fun X hX C => ?_)
  subst hX
  have w_let := wm_let hW
  have w_sw := wm_sw hW
  have w_dr := wm_dr hW
  have w_gp := wm_gp hW
  have w_w := wm_w hW
  have w_l := wm_l hW
  have w_l1 := wm_l1 hW
  have w_t := wm_t hW
  refine pw_iconst C dX11_many_0 ?_
  refine pw_istore2 C (by decide) dX11_many_1 ?_
  refine pw_iconst C dX11_many_2 ?_
  refine pw_istore3 C (by decide) dX11_many_3 ?_
  have cut_4 : ∀ (fu : Nat) (k w : Int), (0 ≤ w ∧ w ≤ M 43 6) → (k = mny (M 46) v w) → (M 43 6 - w).toNat < fu → PW X K LAY 4 (0, 0) (Zi X K LAY (fun r M' => (r = mny (M 46) v (M 43 6)) ∧ M' = M)) 4 [some (rV K 43), some (iV v), some (iV k), some (iV w)] [] M := by
    intro fu
    induction fu with
    | zero => intro _ _ _ _ hm; exact absurd hm (Nat.not_lt_zero _)
    | succ fu ih =>
      intro k w hw hk hm
      have ih_4 := ih
      have hm_4 := hm
      refine pw_iload3 C dX11_many_4 ?_
      refine pw_aload0 C dX11_many_5 ?_
      refine g_43_6 C fl_X11_85 dX11_many_6 ?_
      refine pw_icmp_ge (tgt := 31) C dX11_many_9 (by decide) (by omega) (by omega) (fun h9 => ?_) (fun h9 => ?_)
      · refine pw_iload2 C dX11_many_31 ?_
        exact pw_iretI C dX11_many_32 (⟨by rw [hk, show w = M 43 6 by omega], rfl⟩)
      · have hpw := wm_p hW w (by omega) (by omega)
        refine pw_aload0 C dX11_many_12 ?_
        refine g_43_9 C fl_X11_27 dX11_many_13 ?_
        refine pw_iload3 C dX11_many_16 ?_
        refine pw_iaload C lay_46 (by omega) (by decide) dX11_many_17 ?_
        refine pw_iload1 C dX11_many_18 ?_
        refine pw_icmp_ne (tgt := 25) C dX11_many_19 (by decide) (by omega) (by omega) (fun h19 => ?_) (fun h19 => ?_)
        · refine pw_iinc3 C (by decide) dX11_many_25 ?_
          refine pw_goto (tgt := 4) C dX11_many_28 (by decide) ?_
          exact ih_4 _ _ (by omega) (by rw [mny_s (by omega), hk]; first | rw [if_pos h19] | rw [if_neg h19, Int.add_zero]) (by omega)
        · refine pw_iinc2 C (by decide) dX11_many_22 ?_
          refine pw_iinc3 C (by decide) dX11_many_25 ?_
          refine pw_goto (tgt := 4) C dX11_many_28 (by decide) ?_
          exact ih_4 _ _ (by omega) (by rw [mny_s (by omega), hk]; first | rw [if_pos h19] | rw [if_neg h19, Int.add_zero]) (by omega)
  exact cut_4 _ _ _ (by omega) (by exact mny_0.symm) (Nat.lt_succ_self _)
set_option maxHeartbeats 4000000 in
set_option maxRecDepth 100000 in
theorem c_X11_nearBits (l : Launch) (K : KX) (M : Mem) (hW : WfK (cfM M)) : MCi l K LAY yX11_nearBits cX11_nearBits 3 (some .int) 1 [rV K 43] M (fun r M' => (r = bsI (M 46) 1 (M 43 6)) ∧ M' = M) := by
  refine mci_intro RX11 rfl [some (rV K 43), none, none] rfl (by decide +kernel) (cat_r cat_nil) (Nat.le_of_ble_eq_true rfl) (fun X hX C => ?_)
  subst hX
  have w_let := wm_let hW
  have w_sw := wm_sw hW
  have w_dr := wm_dr hW
  have w_gp := wm_gp hW
  have w_w := wm_w hW
  have w_l := wm_l hW
  have w_l1 := wm_l1 hW
  have w_t := wm_t hW
  refine pw_iconst C dX11_nearBits_0 ?_
  refine pw_istore1 C (by decide) dX11_nearBits_1 ?_
  refine pw_iconst C dX11_nearBits_2 ?_
  refine pw_istore2 C (by decide) dX11_nearBits_3 ?_
  have cut_4 : ∀ (fu : Nat) (b w : Int), (0 ≤ w ∧ w ≤ M 43 6) → (b = bsI (M 46) 1 w) → (M 43 6 - w).toNat < fu → PW X K LAY 3 (0, 0) (Zi X K LAY (fun r M' => (r = bsI (M 46) 1 (M 43 6)) ∧ M' = M)) 4 [some (rV K 43), some (iV b), some (iV w)] [] M := by
    intro fu
    induction fu with
    | zero => intro _ _ _ _ hm; exact absurd hm (Nat.not_lt_zero _)
    | succ fu ih =>
      intro b w hw hb hm
      have ih_4 := ih
      have hm_4 := hm
      refine pw_iload2 C dX11_nearBits_4 ?_
      refine pw_aload0 C dX11_nearBits_5 ?_
      refine g_43_6 C fl_X11_85 dX11_nearBits_6 ?_
      refine pw_icmp_ge (tgt := 34) C dX11_nearBits_9 (by decide) (by omega) (by omega) (fun h9 => ?_) (fun h9 => ?_)
      · refine pw_iload1 C dX11_nearBits_34 ?_
        exact pw_iretI C dX11_nearBits_35 (⟨by rw [hb, show w = M 43 6 by omega], rfl⟩)
      · have hpw := wm_p hW w (by omega) (by omega)
        have hr := bsI_rng (p := M 46) (v := 1) (n := w) (by omega)
        have h2 := p2_lt (n := w) (by omega)
        have cut_28 : ∀  (b : Int), (b = bsI (M 46) 1 (w + 1)) → PW X K LAY 3 (0, 0) (Zi X K LAY (fun r M' => (r = bsI (M 46) 1 (M 43 6)) ∧ M' = M)) 28 [some (rV K 43), some (iV b), some (iV w)] [] M := by
          intro b hb2
          refine pw_iinc2 C (by decide) dX11_nearBits_28 ?_
          refine pw_goto (tgt := 4) C dX11_nearBits_31 (by decide) ?_
          exact ih_4 _ _ (by omega) (by exact hb2) (by omega)
        refine pw_aload0 C dX11_nearBits_12 ?_
        refine g_43_9 C fl_X11_27 dX11_nearBits_13 ?_
        refine pw_iload2 C dX11_nearBits_16 ?_
        refine pw_iaload C lay_46 (by omega) (by decide) dX11_nearBits_17 ?_
        refine pw_iconst C dX11_nearBits_18 ?_
        refine pw_icmp_ne (tgt := 28) C dX11_nearBits_19 (by decide) (by omega) (by omega) (fun h19 => ?_) (fun h19 => ?_)
        · exact cut_28 _ (by rw [hb]; exact (bsI_no (by omega) h19).symm)
        · refine pw_iload1 C dX11_nearBits_22 ?_
          refine pw_iconst C dX11_nearBits_23 ?_
          refine pw_iload2 C dX11_nearBits_24 ?_
          refine pw_ishl C (1 * 2 ^ w.toNat) (b_shl (by omega) (by omega) (by omega)) dX11_nearBits_25 ?_
          refine pw_ior C (((b.toNat ||| (1 * 2 ^ w.toNat : Int).toNat : Nat) : Int)) (b_or (by omega) (by omega)) dX11_nearBits_26 ?_
          refine pw_istore1 C (by decide) dX11_nearBits_27 ?_
          exact cut_28 _ (by rw [hb]; exact (bsI_yes (by omega) h19).symm)
  exact cut_4 _ _ _ (by omega) (by exact bsI_0.symm) (Nat.lt_succ_self _)
set_option maxHeartbeats 4000000 in
set_option maxRecDepth 100000 in
theorem c_X11_count (l : Launch) (K : KX) (M : Mem) (w : Int) (hW : WfK (cfM M)) (hw : -2147483648 ≤ w ∧ w ≤ 2147483647) (hs : 0 ≤ M 43 17 ∧ M 43 17 ≤ 40) : MCi l K LAY yX11_count cX11_count 2 (some .int) 3 [rV K 43, iV w] M (fun r M' => (r = cnF (M 43 17) (cfM M) w) ∧ M' = (up2 M 43 0 0)) := by
  refine mci_intro RX11 rfl [some (rV K 43), some (iV w)] rfl (by decide +kernel) (cat_r (cat_i cat_nil)) (Nat.le_of_ble_eq_true rfl) (fun X hX C => ?_)
  subst hX
  have w_let := wm_let hW
  have w_sw := wm_sw hW
  have w_dr := wm_dr hW
  have w_gp := wm_gp hW
  have w_w := wm_w hW
  have w_l := wm_l hW
  have w_l1 := wm_l1 hW
  have w_t := wm_t hW
  have hW0 : WfK (cfM (up2 M 43 0 0)) := hW
  refine pw_aload0 C dX11_count_0 ?_
  refine pw_iconst C dX11_count_1 ?_
  refine p_43_0 C fl_X11_1 dX11_count_2 ?_
  refine pw_iload1 C dX11_count_5 ?_
  refine pw_bipush C dX11_count_6 (by decide) ?_
  refine pw_icmp_lt (tgt := 32) C dX11_count_8 (by decide) (by omega) (by omega) (fun h8 => ?_) (fun h8 => ?_)
  · refine pw_iload1 C dX11_count_32 ?_
    by_cases hs33 : 0 ≤ w ∧ w ≤ 9
    · have hz33 : w = 0 ∨ w = 1 ∨ w = 2 ∨ w = 3 ∨ w = 4 ∨ w = 5 ∨ w = 6 ∨ w = 7 ∨ w = 8 ∨ w = 9 := by omega
      rcases hz33 with hc33 | hc33 | hc33 | hc33 | hc33 | hc33 | hc33 | hc33 | hc33 | hc33
      · refine pw_top C 0 hc33 ?_
        refine pw_tin (tgt := 88) C dX11_count_33 (by decide) (by decide) rfl (by decide) ?_
        refine pw_aload0 C dX11_count_88 ?_
        refine g_43_6 C fl_X11_85 dX11_count_89 ?_
        refine pw_top C _ (rd_ne (by decide)) ?_
        exact pw_iretI C dX11_count_92 (⟨by unfold cnF cfM; simp only [hc33]; simp, rfl⟩)
      · refine pw_top C 1 hc33 ?_
        refine pw_tin (tgt := 93) C dX11_count_33 (by decide) (by decide) rfl (by decide) ?_
        refine pw_aload0 C dX11_count_93 ?_
        refine pw_iconst C dX11_count_94 ?_
        refine pw_cVi1 C (c_X11_many _ K _ _ (hW0) (by omega)) cb_X11_many lay_43 kc_11 rfl ml_X11_141 dX11_count_95 (by decide) (Nat.le_of_ble_eq_true rfl) (fun r95 M95 hQ => ?_)
        obtain ⟨rfl, hMe⟩ := hQ
        replace hMe := hMe.symm
        subst hMe
        rw [rd_ne (by decide), up2_ne (by decide), ← bc8_bs w_w]
        exact pw_iretI C dX11_count_98 (⟨by unfold cnF cfM; simp only [hc33]; simp, rfl⟩)
      · refine pw_top C 2 hc33 ?_
        refine pw_tin (tgt := 99) C dX11_count_33 (by decide) (by decide) rfl (by decide) ?_
        refine pw_aload0 C dX11_count_99 ?_
        refine pw_iconst C dX11_count_100 ?_
        refine pw_cVi1 C (c_X11_many _ K _ _ (hW0) (by omega)) cb_X11_many lay_43 kc_11 rfl ml_X11_141 dX11_count_101 (by decide) (Nat.le_of_ble_eq_true rfl) (fun r101 M101 hQ => ?_)
        obtain ⟨rfl, hMe⟩ := hQ
        replace hMe := hMe.symm
        subst hMe
        rw [rd_ne (by decide), up2_ne (by decide), ← bc8_bs w_w]
        exact pw_iretI C dX11_count_104 (⟨by unfold cnF cfM; simp only [hc33]; simp, rfl⟩)
      · refine pw_top C 3 hc33 ?_
        refine pw_tin (tgt := 105) C dX11_count_33 (by decide) (by decide) rfl (by decide) ?_
        refine pw_aload0 C dX11_count_105 ?_
        refine g_43_10 C fl_X11_88 dX11_count_106 ?_
        refine pw_top C _ (rd_ne (by decide)) ?_
        exact pw_iretI C dX11_count_109 (⟨by unfold cnF cfM; simp only [hc33]; simp, rfl⟩)
      · refine pw_top C 4 hc33 ?_
        refine pw_tin (tgt := 110) C dX11_count_33 (by decide) (by decide) rfl (by decide) ?_
        refine pw_aload0 C dX11_count_110 ?_
        refine g_43_1 C fl_X11_13 dX11_count_111 ?_
        refine pw_top C _ (rd_ne (by decide)) ?_
        exact pw_iretI C dX11_count_114 (⟨by unfold cnF cfM; simp only [hc33]; simp, rfl⟩)
      · refine pw_top C 5 hc33 ?_
        refine pw_tin (tgt := 115) C dX11_count_33 (by decide) (by decide) rfl (by decide) ?_
        refine pw_aload0 C dX11_count_115 ?_
        refine g_43_6 C fl_X11_85 dX11_count_116 ?_
        refine pw_top C _ (rd_ne (by decide)) ?_
        refine pw_if_ne (tgt := 126) C dX11_count_119 (by decide) (by omega) (fun h119 => ?_) (fun h119 => ?_)
        · refine pw_aload0 C dX11_count_126 ?_
          refine g_43_7 C fl_X11_110 dX11_count_127 ?_
          refine pw_top C _ (rd_ne (by decide)) ?_
          exact pw_iretI C dX11_count_130 (⟨by unfold cnF cfM; simp only [hc33]; simp [h119], rfl⟩)
        · refine pw_iconst C dX11_count_122 ?_
          refine pw_goto (tgt := 130) C dX11_count_123 (by decide) ?_
          exact pw_iretI C dX11_count_130 (⟨by unfold cnF cfM; simp only [hc33]; simp [h119], rfl⟩)
      · refine pw_top C 6 hc33 ?_
        refine pw_tin (tgt := 131) C dX11_count_33 (by decide) (by decide) rfl (by decide) ?_
        refine pw_aload0 C dX11_count_131 ?_
        refine g_43_3 C fl_X11_94 dX11_count_132 ?_
        refine pw_top C _ (rd_ne (by decide)) ?_
        exact pw_iretI C dX11_count_135 (⟨by unfold cnF cfM; simp only [hc33]; simp, rfl⟩)
      · refine pw_top C 7 hc33 ?_
        refine pw_tin (tgt := 136) C dX11_count_33 (by decide) (by decide) rfl (by decide) ?_
        refine pw_aload0 C dX11_count_136 ?_
        refine g_43_5 C fl_X11_97 dX11_count_137 ?_
        refine pw_top C _ (rd_ne (by decide)) ?_
        exact pw_iretI C dX11_count_140 (⟨by unfold cnF cfM; simp only [hc33]; simp, rfl⟩)
      · refine pw_top C 8 hc33 ?_
        refine pw_tin (tgt := 141) C dX11_count_33 (by decide) (by decide) rfl (by decide) ?_
        refine pw_aload0 C dX11_count_141 ?_
        refine g_43_17 C fl_X11_100 dX11_count_142 ?_
        refine pw_top C _ (rd_ne (by decide)) ?_
        exact pw_iretI C dX11_count_145 (⟨by unfold cnF cfM; simp only [hc33]; simp, rfl⟩)
      · refine pw_top C 9 hc33 ?_
        refine pw_tin (tgt := 146) C dX11_count_33 (by decide) (by decide) rfl (by decide) ?_
        refine pw_aload0 C dX11_count_146 ?_
        refine g_43_4 C fl_X11_20 dX11_count_147 ?_
        refine pw_top C _ (rd_ne (by decide)) ?_
        exact pw_iretI C dX11_count_150 (⟨by unfold cnF cfM; simp only [hc33]; simp, rfl⟩)
    · refine pw_tout (tgt := 151) C dX11_count_33 (by omega) (by omega) (by decide) ?_
      refine pw_iconst C dX11_count_151 ?_
      exact pw_iretI C dX11_count_152 (⟨by unfold cnF cfM; rw [if_neg (by omega), if_neg (by omega), if_neg (by omega), if_neg (by omega), if_neg (by omega), if_neg (by omega), if_neg (by omega), if_neg (by omega), if_neg (by omega), if_neg (by omega), if_neg (show ¬ (10 ≤ w ∧ w - 10 < M 43 10) by omega)], rfl⟩)
  · refine pw_iload1 C dX11_count_11 ?_
    refine pw_bipush C dX11_count_12 (by decide) ?_
    refine pw_aload0 C dX11_count_14 ?_
    refine g_43_10 C fl_X11_88 dX11_count_15 ?_
    refine pw_top C _ (rd_ne (by decide)) ?_
    refine pw_iadd C dX11_count_18 ?_
    refine pw_icmp_ge (tgt := 32) C dX11_count_19 (by decide) (by omega) (by omega) (fun h19 => ?_) (fun h19 => ?_)
    · refine pw_iload1 C dX11_count_32 ?_
      by_cases hs33 : 0 ≤ w ∧ w ≤ 9
      · have hz33 : w = 0 ∨ w = 1 ∨ w = 2 ∨ w = 3 ∨ w = 4 ∨ w = 5 ∨ w = 6 ∨ w = 7 ∨ w = 8 ∨ w = 9 := by omega
        rcases hz33 with hc33 | hc33 | hc33 | hc33 | hc33 | hc33 | hc33 | hc33 | hc33 | hc33
        · refine pw_top C 0 hc33 ?_
          refine pw_tin (tgt := 88) C dX11_count_33 (by decide) (by decide) rfl (by decide) ?_
          refine pw_aload0 C dX11_count_88 ?_
          refine g_43_6 C fl_X11_85 dX11_count_89 ?_
          refine pw_top C _ (rd_ne (by decide)) ?_
          exact pw_iretI C dX11_count_92 (⟨by unfold cnF cfM; simp only [hc33]; simp, rfl⟩)
        · refine pw_top C 1 hc33 ?_
          refine pw_tin (tgt := 93) C dX11_count_33 (by decide) (by decide) rfl (by decide) ?_
          refine pw_aload0 C dX11_count_93 ?_
          refine pw_iconst C dX11_count_94 ?_
          refine pw_cVi1 C (c_X11_many _ K _ _ (hW0) (by omega)) cb_X11_many lay_43 kc_11 rfl ml_X11_141 dX11_count_95 (by decide) (Nat.le_of_ble_eq_true rfl) (fun r95 M95 hQ => ?_)
          obtain ⟨rfl, hMe⟩ := hQ
          replace hMe := hMe.symm
          subst hMe
          rw [rd_ne (by decide), up2_ne (by decide), ← bc8_bs w_w]
          exact pw_iretI C dX11_count_98 (⟨by unfold cnF cfM; simp only [hc33]; simp, rfl⟩)
        · refine pw_top C 2 hc33 ?_
          refine pw_tin (tgt := 99) C dX11_count_33 (by decide) (by decide) rfl (by decide) ?_
          refine pw_aload0 C dX11_count_99 ?_
          refine pw_iconst C dX11_count_100 ?_
          refine pw_cVi1 C (c_X11_many _ K _ _ (hW0) (by omega)) cb_X11_many lay_43 kc_11 rfl ml_X11_141 dX11_count_101 (by decide) (Nat.le_of_ble_eq_true rfl) (fun r101 M101 hQ => ?_)
          obtain ⟨rfl, hMe⟩ := hQ
          replace hMe := hMe.symm
          subst hMe
          rw [rd_ne (by decide), up2_ne (by decide), ← bc8_bs w_w]
          exact pw_iretI C dX11_count_104 (⟨by unfold cnF cfM; simp only [hc33]; simp, rfl⟩)
        · refine pw_top C 3 hc33 ?_
          refine pw_tin (tgt := 105) C dX11_count_33 (by decide) (by decide) rfl (by decide) ?_
          refine pw_aload0 C dX11_count_105 ?_
          refine g_43_10 C fl_X11_88 dX11_count_106 ?_
          refine pw_top C _ (rd_ne (by decide)) ?_
          exact pw_iretI C dX11_count_109 (⟨by unfold cnF cfM; simp only [hc33]; simp, rfl⟩)
        · refine pw_top C 4 hc33 ?_
          refine pw_tin (tgt := 110) C dX11_count_33 (by decide) (by decide) rfl (by decide) ?_
          refine pw_aload0 C dX11_count_110 ?_
          refine g_43_1 C fl_X11_13 dX11_count_111 ?_
          refine pw_top C _ (rd_ne (by decide)) ?_
          exact pw_iretI C dX11_count_114 (⟨by unfold cnF cfM; simp only [hc33]; simp, rfl⟩)
        · refine pw_top C 5 hc33 ?_
          refine pw_tin (tgt := 115) C dX11_count_33 (by decide) (by decide) rfl (by decide) ?_
          refine pw_aload0 C dX11_count_115 ?_
          refine g_43_6 C fl_X11_85 dX11_count_116 ?_
          refine pw_top C _ (rd_ne (by decide)) ?_
          refine pw_if_ne (tgt := 126) C dX11_count_119 (by decide) (by omega) (fun h119 => ?_) (fun h119 => ?_)
          · refine pw_aload0 C dX11_count_126 ?_
            refine g_43_7 C fl_X11_110 dX11_count_127 ?_
            refine pw_top C _ (rd_ne (by decide)) ?_
            exact pw_iretI C dX11_count_130 (⟨by unfold cnF cfM; simp only [hc33]; simp [h119], rfl⟩)
          · refine pw_iconst C dX11_count_122 ?_
            refine pw_goto (tgt := 130) C dX11_count_123 (by decide) ?_
            exact pw_iretI C dX11_count_130 (⟨by unfold cnF cfM; simp only [hc33]; simp [h119], rfl⟩)
        · refine pw_top C 6 hc33 ?_
          refine pw_tin (tgt := 131) C dX11_count_33 (by decide) (by decide) rfl (by decide) ?_
          refine pw_aload0 C dX11_count_131 ?_
          refine g_43_3 C fl_X11_94 dX11_count_132 ?_
          refine pw_top C _ (rd_ne (by decide)) ?_
          exact pw_iretI C dX11_count_135 (⟨by unfold cnF cfM; simp only [hc33]; simp, rfl⟩)
        · refine pw_top C 7 hc33 ?_
          refine pw_tin (tgt := 136) C dX11_count_33 (by decide) (by decide) rfl (by decide) ?_
          refine pw_aload0 C dX11_count_136 ?_
          refine g_43_5 C fl_X11_97 dX11_count_137 ?_
          refine pw_top C _ (rd_ne (by decide)) ?_
          exact pw_iretI C dX11_count_140 (⟨by unfold cnF cfM; simp only [hc33]; simp, rfl⟩)
        · refine pw_top C 8 hc33 ?_
          refine pw_tin (tgt := 141) C dX11_count_33 (by decide) (by decide) rfl (by decide) ?_
          refine pw_aload0 C dX11_count_141 ?_
          refine g_43_17 C fl_X11_100 dX11_count_142 ?_
          refine pw_top C _ (rd_ne (by decide)) ?_
          exact pw_iretI C dX11_count_145 (⟨by unfold cnF cfM; simp only [hc33]; simp, rfl⟩)
        · refine pw_top C 9 hc33 ?_
          refine pw_tin (tgt := 146) C dX11_count_33 (by decide) (by decide) rfl (by decide) ?_
          refine pw_aload0 C dX11_count_146 ?_
          refine g_43_4 C fl_X11_20 dX11_count_147 ?_
          refine pw_top C _ (rd_ne (by decide)) ?_
          exact pw_iretI C dX11_count_150 (⟨by unfold cnF cfM; simp only [hc33]; simp, rfl⟩)
      · refine pw_tout (tgt := 151) C dX11_count_33 (by omega) (by omega) (by decide) ?_
        refine pw_iconst C dX11_count_151 ?_
        exact pw_iretI C dX11_count_152 (⟨by unfold cnF cfM; rw [if_neg (by omega), if_neg (by omega), if_neg (by omega), if_neg (by omega), if_neg (by omega), if_neg (by omega), if_neg (by omega), if_neg (by omega), if_neg (by omega), if_neg (by omega), if_neg (show ¬ (10 ≤ w ∧ w - 10 < M 43 10) by omega)], rfl⟩)
    · refine pw_aload0 C dX11_count_22 ?_
      refine g_43_12 C fl_X11_33 dX11_count_23 ?_
      refine pw_iload1 C dX11_count_26 ?_
      refine pw_bipush C dX11_count_27 (by decide) ?_
      refine pw_isub C dX11_count_29 ?_
      refine pw_iaload C lay_48 (by omega) (by decide) dX11_count_30 ?_
      refine pw_top C _ (rd_nc (by decide)) ?_
      exact pw_iretI C dX11_count_31 (⟨by unfold cnF cfM; rw [if_neg (by omega), if_neg (by omega), if_neg (by omega), if_neg (by omega), if_neg (by omega), if_neg (by omega), if_neg (by omega), if_neg (by omega), if_neg (by omega), if_neg (by omega), if_pos (show 10 ≤ w ∧ w - 10 < M 43 10 by omega)], rfl⟩)
