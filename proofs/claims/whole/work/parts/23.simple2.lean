set_option maxHeartbeats 4000000 in
set_option maxRecDepth 100000 in
theorem c_X10_part (l : Launch) (K : KX) (M : Mem) (w p : Int) (hW : WfK (cf M)) (hw : -2147483648 ≤ w ∧ w ≤ 2147483647) (hp : -2147483648 ≤ p ∧ p ≤ 2147483647) : MCi l K LAY yX10_part cX10_part 3 (some .boolean) 3 [rV K 0, iV w, iV p] M (fun r M' => (if (0 ≤ w ∧ w < M 6 0) ∧ 0 ≤ p ∧ p ≤ 2 then r = 1 ∧ M' 8 = (up2 M 8 w p) 8 ∧ M' 21 0 = 0 ∧ M' 24 0 = 0 ∧ M' 29 0 = 0 else r = 0 ∧ M' = M) ∧ Sm [8, 21, 24, 29] M M') := by
  refine mci_intro RX10 rfl [some (rV K 0), some (iV w), some (iV p)] rfl (by decide +kernel) (cat_r (cat_i (cat_i cat_nil))) (Nat.le_of_ble_eq_true rfl) (fun X hX C => ?_)
  subst hX
  have w_let := wf_let hW
  have w_sw := wf_sw hW
  have w_dr := wf_dr hW
  have w_gp := wf_gp hW
  have w_w := wf_w hW
  have w_l := wf_l hW
  have w_l1 := wf_l1 hW
  have w_t := wf_t hW
  refine pw_aload0 C dX10_part_0 ?_
  refine g_0_2 C fl_X10_26 dX10_part_1 ?_
  refine pw_iload1 C dX10_part_4 ?_
  refine pw_cVi1 C (c_X9_has _ K _ _ (by omega) (by omega)) cb_X9_has lay_6 kc_9 rfl ml_X10_139 dX10_part_5 (by decide) (Nat.le_of_ble_eq_true rfl) (fun r5 M5 hQ => ?_)
  obtain ⟨rfl, hMe⟩ := hQ
  replace hMe := hMe.symm
  subst hMe
  refine pw_if_eq (tgt := 20) C dX10_part_8 (by decide) (by split <;> omega) (fun h8 => ?_) (fun h8 => ?_)
  · have e3 : ¬ (0 ≤ w ∧ w < M 6 0) := fun h => by rw [if_pos h] at h8; omega
    refine pw_iconst C dX10_part_20 ?_
    exact pw_zretI C dX10_part_21 (by decide) (⟨by rw [if_neg (by omega)]; exact ⟨rfl, rfl⟩, Sm_refl⟩)
  · have e3 : (0 ≤ w ∧ w < M 6 0) := Decidable.byContradiction fun h => by rw [if_neg h] at h8; omega
    refine pw_iload2 C dX10_part_11 ?_
    refine pw_if_lt (tgt := 20) C dX10_part_12 (by decide) (by omega) (fun h12 => ?_) (fun h12 => ?_)
    · refine pw_iconst C dX10_part_20 ?_
      exact pw_zretI C dX10_part_21 (by decide) (⟨by rw [if_neg (by omega)]; exact ⟨rfl, rfl⟩, Sm_refl⟩)
    · refine pw_iload2 C dX10_part_15 ?_
      refine pw_iconst C dX10_part_16 ?_
      refine pw_icmp_le (tgt := 22) C dX10_part_17 (by decide) (by omega) (by omega) (fun h17 => ?_) (fun h17 => ?_)
      · refine pw_aload0 C dX10_part_22 ?_
        refine g_0_2 C fl_X10_26 dX10_part_23 ?_
        refine g_6_3 C fl_X10_142 dX10_part_26 ?_
        refine pw_iload1 C dX10_part_29 ?_
        refine pw_iload2 C dX10_part_30 ?_
        refine pw_iastore C lay_8 (by omega) (by decide) dX10_part_31 ?_
        refine pw_aload0 C dX10_part_32 ?_
        refine pw_cVv0 C (c_X10_forgetWords _ K _ ) cb_X10_forgetWords lay_0 kc_10 rfl ml_X10_132 dX10_part_33 (by decide) (Nat.le_of_ble_eq_true rfl) (fun M33 hQ => ?_)
        obtain ⟨hp_33, hF33⟩ := hQ
        refine pw_iconst C dX10_part_36 ?_
        exact pw_zretI C dX10_part_37 (by decide) (⟨by rw [if_pos (by omega)]; exact ⟨rfl, hF33 8 (by decide), by rw [hp_33, rd_nc (by decide), rd_nc (by decide)]; exact rd_eq, by rw [hp_33, rd_nc (by decide)]; exact rd_eq, by rw [hp_33]; exact rd_eq⟩, (Sm_trans (Sm_up Sm_refl (by decide)) hF33 (by decide))⟩)
      · refine pw_iconst C dX10_part_20 ?_
        exact pw_zretI C dX10_part_21 (by decide) (⟨by rw [if_neg (by omega)]; exact ⟨rfl, rfl⟩, Sm_refl⟩)
set_option maxHeartbeats 4000000 in
set_option maxRecDepth 100000 in
theorem c_X10_apart (l : Launch) (K : KX) (M : Mem) (a b : Int) (hW : WfK (cf M)) (ha : -2147483648 ≤ a ∧ a ≤ 2147483647) (hb : -2147483648 ≤ b ∧ b ≤ 2147483647) : MCi l K LAY yX10_apart cX10_apart 3 (some .int) 3 [rV K 0, iV a, iV b] M (fun r M' => (r = if (0 ≤ a ∧ a < M 6 0) ∧ (0 ≤ b ∧ b < M 6 0) then dst (M 2) (M 1 1) (fun p => M 7 (a * 7 + p)) (fun p => M 7 (b * 7 + p)) (M 6 1) else -1) ∧ M' = M) := by
  refine mci_intro RX10 rfl [some (rV K 0), some (iV a), some (iV b)] rfl (by decide +kernel) (cat_r (cat_i (cat_i cat_nil))) (Nat.le_of_ble_eq_true rfl) (fun X hX C => ?_)
  subst hX
  have w_let := wf_let hW
  have w_sw := wf_sw hW
  have w_dr := wf_dr hW
  have w_gp := wf_gp hW
  have w_w := wf_w hW
  have w_l := wf_l hW
  have w_l1 := wf_l1 hW
  have w_t := wf_t hW
  refine pw_aload0 C dX10_apart_0 ?_
  refine g_0_2 C fl_X10_26 dX10_apart_1 ?_
  refine pw_iload1 C dX10_apart_4 ?_
  refine pw_cVi1 C (c_X9_has _ K _ _ (by omega) (by omega)) cb_X9_has lay_6 kc_9 rfl ml_X10_139 dX10_apart_5 (by decide) (Nat.le_of_ble_eq_true rfl) (fun r5 M5 hQ => ?_)
  obtain ⟨rfl, hMe⟩ := hQ
  replace hMe := hMe.symm
  subst hMe
  refine pw_if_eq (tgt := 22) C dX10_apart_8 (by decide) (by split <;> omega) (fun h8 => ?_) (fun h8 => ?_)
  · have e8 : ¬ (0 ≤ a ∧ a < M 6 0) := fun h => by rw [if_pos h] at h8; omega
    refine pw_iconst C dX10_apart_22 ?_
    exact pw_iretI C dX10_apart_23 (⟨by rw [if_neg (by omega)], rfl⟩)
  · have e8 : (0 ≤ a ∧ a < M 6 0) := Decidable.byContradiction fun h => by rw [if_neg h] at h8; omega
    refine pw_aload0 C dX10_apart_11 ?_
    refine g_0_2 C fl_X10_26 dX10_apart_12 ?_
    refine pw_iload2 C dX10_apart_15 ?_
    refine pw_cVi1 C (c_X9_has _ K _ _ (by omega) (by omega)) cb_X9_has lay_6 kc_9 rfl ml_X10_139 dX10_apart_16 (by decide) (Nat.le_of_ble_eq_true rfl) (fun r16 M16 hQ => ?_)
    obtain ⟨rfl, hMe⟩ := hQ
    replace hMe := hMe.symm
    subst hMe
    refine pw_if_ne (tgt := 24) C dX10_apart_19 (by decide) (by split <;> omega) (fun h19 => ?_) (fun h19 => ?_)
    · have e19 : (0 ≤ b ∧ b < M 6 0) := Decidable.byContradiction fun h => by rw [if_neg h] at h19; omega
      refine pw_aload0 C dX10_apart_24 ?_
      refine g_0_0 C fl_X10_10 dX10_apart_25 ?_
      refine pw_aload0 C dX10_apart_28 ?_
      refine g_0_2 C fl_X10_26 dX10_apart_29 ?_
      refine g_6_2 C fl_X10_145 dX10_apart_32 ?_
      refine pw_aload0 C dX10_apart_35 ?_
      refine g_0_2 C fl_X10_26 dX10_apart_36 ?_
      refine pw_iload1 C dX10_apart_39 ?_
      refine pw_cVi1 C (c_X9_start _ K _ _) cb_X9_start lay_6 kc_9 rfl ml_X10_148 dX10_apart_40 (by decide) (Nat.le_of_ble_eq_true rfl) (fun r40 M40 hQ => ?_)
      obtain ⟨rfl, hMe⟩ := hQ
      replace hMe := hMe.symm
      subst hMe
      refine pw_aload0 C dX10_apart_43 ?_
      refine g_0_2 C fl_X10_26 dX10_apart_44 ?_
      refine g_6_2 C fl_X10_145 dX10_apart_47 ?_
      refine pw_aload0 C dX10_apart_50 ?_
      refine g_0_2 C fl_X10_26 dX10_apart_51 ?_
      refine pw_iload2 C dX10_apart_54 ?_
      refine pw_cVi1 C (c_X9_start _ K _ _) cb_X9_start lay_6 kc_9 rfl ml_X10_148 dX10_apart_55 (by decide) (Nat.le_of_ble_eq_true rfl) (fun r55 M55 hQ => ?_)
      obtain ⟨rfl, hMe⟩ := hQ
      replace hMe := hMe.symm
      subst hMe
      refine pw_aload0 C dX10_apart_58 ?_
      refine g_0_2 C fl_X10_26 dX10_apart_59 ?_
      refine g_6_1 C fl_X10_122 dX10_apart_62 ?_
      refine pw_cVi5 C (c_X3_distance _ K _ _ _ _ _ _ _ _ (lay_7) (lay_7) (by decide) (by decide) (by omega) (by omega) (by omega) (by intro p h1 h2; have := wf_wl hW a p (by omega) (by omega) (by omega) (by omega); omega) (by intro p h1 h2; have := wf_wl hW b p (by omega) (by omega) (by omega) (by omega); omega) (wf_pr hW) (by omega)) cb_X3_distance lay_1 kc_3 rfl ml_X10_151 dX10_apart_65 (by decide) (Nat.le_of_ble_eq_true rfl) (fun r65 M65 hQ => ?_)
      obtain ⟨rfl, hMe⟩ := hQ
      replace hMe := hMe.symm
      subst hMe
      exact pw_iretI C dX10_apart_68 (⟨by rw [if_pos (by omega)], rfl⟩)
    · have e19 : ¬ (0 ≤ b ∧ b < M 6 0) := fun h => by rw [if_pos h] at h19; omega
      refine pw_iconst C dX10_apart_22 ?_
      exact pw_iretI C dX10_apart_23 (⟨by rw [if_neg (by omega)], rfl⟩)
set_option maxHeartbeats 4000000 in
set_option maxRecDepth 100000 in
theorem c_X10_from (l : Launch) (K : KX) (M : Mem) (w : Int) (hW : WfK (cf M)) (hw : -2147483648 ≤ w ∧ w ≤ 2147483647) (hs : 0 ≤ (M 3 0) ∧ (M 3 0) ≤ 40) (hb : ∀ j, 0 ≤ j → j < (M 3 0) → -128 ≤ M 5 j ∧ M 5 j ≤ 127) : MCi l K LAY yX10_from cX10_from 3 (some .int) 3 [rV K 0, iV w] M (fun r M' => (M' 3 0 = 0) ∧ (((allL (M 5) (M 1 0) (M 3 0) ∧ (0 ≤ w ∧ w < M 6 0) ∧ M 3 0 = M 6 1) ∧ r = dst (M 2) (M 1 1) (fun p => M 5 p - 97) (fun p => M 7 (w * 7 + p)) (M 6 1)) ∨ (¬ (allL (M 5) (M 1 0) (M 3 0) ∧ (0 ≤ w ∧ w < M 6 0) ∧ M 3 0 = M 6 1) ∧ r = -1)) ∧ Sm [3, 4] M M') := by
  refine mci_intro RX10 rfl [some (rV K 0), some (iV w), none] rfl (by decide +kernel) (cat_r (cat_i cat_nil)) (Nat.le_of_ble_eq_true rfl) (fun X hX C => ?_)
  subst hX
  have w_let := wf_let hW
  have w_sw := wf_sw hW
  have w_dr := wf_dr hW
  have w_gp := wf_gp hW
  have w_w := wf_w hW
  have w_l := wf_l hW
  have w_l1 := wf_l1 hW
  have w_t := wf_t hW
  refine pw_aload0 C dX10_from_0 ?_
  refine g_0_1 C fl_X10_19 dX10_from_1 ?_
  refine pw_aload0 C dX10_from_4 ?_
  refine g_0_0 C fl_X10_10 dX10_from_5 ?_
  refine g_1_0 C fl_X10_83 dX10_from_8 ?_
  refine pw_cVi1 C (c_X6_take _ K _ _ (by omega) (by omega) (hb)) cb_X6_take lay_3 kc_6 rfl ml_X10_118 dX10_from_11 (by decide) (Nat.le_of_ble_eq_true rfl) (fun r11 M11 hQ => ?_)
  obtain ⟨hz_11, hp_11, hF11⟩ := hQ
  have hr11 : (allL (M 5) (M 1 0) (M 3 0) ∧ r11 = M 3 0) ∨ (¬ allL (M 5) (M 1 0) (M 3 0) ∧ r11 = -1) := hp_11.elim (fun h => Or.inl ⟨h.1, h.2.1⟩) (fun h => Or.inr h)
  refine pw_istore2 C (by decide) dX10_from_14 ?_
  refine pw_aload0 C dX10_from_15 ?_
  refine g_0_2 C fl_X10_26 dX10_from_16 ?_
  refine pw_iload1 C dX10_from_19 ?_
  have nz20_6 : M11 6 = M 6 := (hF11 6 (by decide))
  refine pw_cVi1 C (c_X9_has _ K _ _ (by first | omega | (simp only [nz20_6]; omega)) (by first | omega | (simp only [nz20_6]; omega))) cb_X9_has lay_6 kc_9 rfl ml_X10_139 dX10_from_20 (by decide) (Nat.le_of_ble_eq_true rfl) (fun r20 M20 hQ => ?_)
  obtain ⟨rfl, hMe⟩ := hQ
  replace hMe := hMe.symm
  subst hMe
  refine pw_if_eq (tgt := 37) C dX10_from_23 (by decide) (by split <;> omega) (fun h23 => ?_) (fun h23 => ?_)
  · have e23 : ¬ (0 ≤ w ∧ w < M 6 0) := fun h => by rw [hF11 6 (by decide), if_pos h] at h23; omega
    refine pw_iconst C dX10_from_37 ?_
    exact pw_iretI C dX10_from_38 (⟨by exact hz_11, by refine Or.inr ⟨fun h => ?_, rfl⟩; rcases hr11 with q | q; omega; exact q.1 h.1, (Sm_trans Sm_refl hF11 (by decide))⟩)
  · have e23 : (0 ≤ w ∧ w < M 6 0) := Decidable.byContradiction fun h => by rw [hF11 6 (by decide), if_neg h] at h23; omega
    refine pw_iload2 C dX10_from_26 ?_
    refine pw_aload0 C dX10_from_27 ?_
    refine g_0_2 C fl_X10_26 dX10_from_28 ?_
    refine g_6_1 C fl_X10_122 dX10_from_31 ?_
    refine pw_top C _ (congrFun (hF11 6 (by decide)) _) ?_
    refine pw_icmp_eq (tgt := 39) C dX10_from_34 (by decide) (by omega) (by omega) (fun h34 => ?_) (fun h34 => ?_)
    · have hal : allL (M 5) (M 1 0) (M 3 0) ∧ r11 = M 3 0 := by rcases hr11 with h | h; exact h; omega
      have hrow : ∀ j, 0 ≤ j → j < M 3 0 → M11 4 j = M 5 j - 97 := hp_11.elim (fun h => h.2.2) (fun h => absurd h.2 (by omega))
      refine pw_aload0 C dX10_from_39 ?_
      refine g_0_0 C fl_X10_10 dX10_from_40 ?_
      refine pw_aload0 C dX10_from_43 ?_
      refine g_0_1 C fl_X10_19 dX10_from_44 ?_
      refine g_3_1 C fl_X10_125 dX10_from_47 ?_
      refine pw_iconst C dX10_from_50 ?_
      refine pw_aload0 C dX10_from_51 ?_
      refine g_0_2 C fl_X10_26 dX10_from_52 ?_
      refine g_6_2 C fl_X10_145 dX10_from_55 ?_
      refine pw_aload0 C dX10_from_58 ?_
      refine g_0_2 C fl_X10_26 dX10_from_59 ?_
      refine pw_iload1 C dX10_from_62 ?_
      refine pw_cVi1 C (c_X9_start _ K _ _) cb_X9_start lay_6 kc_9 rfl ml_X10_148 dX10_from_63 (by decide) (Nat.le_of_ble_eq_true rfl) (fun r63 M63 hQ => ?_)
      obtain ⟨rfl, hMe⟩ := hQ
      replace hMe := hMe.symm
      subst hMe
      refine pw_iload2 C dX10_from_66 ?_
      have nz67_1 : M11 1 = M 1 := (hF11 1 (by decide))
      have nz67_2 : M11 2 = M 2 := (hF11 2 (by decide))
      refine pw_cVi5 C (c_X3_distance _ K _ _ _ _ _ _ _ _ (lay_4) (lay_7) (by decide) (by decide) (by first | omega | (simp only [nz67_1, nz67_2]; omega)) (by first | omega | (simp only [nz67_1, nz67_2]; omega)) (by first | omega | (simp only [nz67_1, nz67_2]; omega)) (by intro p h1 h2; rw [Int.zero_add, hrow p h1 (by omega)]; have := hal.1 p h1 (by omega); omega) (by intro p h1 h2; rw [hF11 7 (by decide)]; have := wf_wl hW w p (by omega) (by omega) (by omega) (by omega); omega) (by rw [hF11 2 (by decide)]; exact wf_pr hW) (by first | omega | (simp only [nz67_1, nz67_2]; omega))) cb_X3_distance lay_1 kc_3 rfl ml_X10_151 dX10_from_67 (by decide) (Nat.le_of_ble_eq_true rfl) (fun r67 M67 hQ => ?_)
      obtain ⟨rfl, hMe⟩ := hQ
      replace hMe := hMe.symm
      subst hMe
      exact pw_iretI C dX10_from_70 (⟨by exact hz_11, by
            refine Or.inl ⟨⟨hal.1, e23, by omega⟩, ?_⟩
            rw [hF11 2 (by decide), hF11 1 (by decide), h34]
            refine dst_congr (n := M 6 1) ?_ ?_ (fun i _ _ => rfl) (M 6 1) (by omega) (by omega)
            · intro i q1 q2; rw [Int.zero_add]; exact hrow i q1 (by omega)
            · intro i q1 q2; rw [hF11 7 (by decide)], (Sm_trans Sm_refl hF11 (by decide))⟩)
    · refine pw_iconst C dX10_from_37 ?_
      exact pw_iretI C dX10_from_38 (⟨by exact hz_11, by refine Or.inr ⟨fun h => ?_, rfl⟩; rcases hr11 with q | q; omega; exact q.1 h.1, (Sm_trans Sm_refl hF11 (by decide))⟩)
set_option maxHeartbeats 4000000 in
set_option maxRecDepth 100000 in
theorem c_X10_of (l : Launch) (K : KX) (M : Mem) (w h : Int) (hW : WfK (cf M)) (hw : -2147483648 ≤ w ∧ w ≤ 2147483647) (hh : -2147483648 ≤ h ∧ h ≤ 2147483647) : MCi l K LAY yX10_of cX10_of 3 (some .int) 3 [rV K 0, iV w, iV h] M (fun r M' => (r = if (0 ≤ w ∧ w < M 6 0) ∧ 0 ≤ h ∧ h ≤ M 6 1 then (if h = 0 then M 8 w else M 7 (w * 7 + h - 1)) else -1) ∧ M' = M) := by
  refine mci_intro RX10 rfl [some (rV K 0), some (iV w), some (iV h)] rfl (by decide +kernel) (cat_r (cat_i (cat_i cat_nil))) (Nat.le_of_ble_eq_true rfl) (fun X hX C => ?_)
  subst hX
  have w_let := wf_let hW
  have w_sw := wf_sw hW
  have w_dr := wf_dr hW
  have w_gp := wf_gp hW
  have w_w := wf_w hW
  have w_l := wf_l hW
  have w_l1 := wf_l1 hW
  have w_t := wf_t hW
  refine pw_aload0 C dX10_of_0 ?_
  refine g_0_2 C fl_X10_26 dX10_of_1 ?_
  refine pw_iload1 C dX10_of_4 ?_
  refine pw_cVi1 C (c_X9_has _ K _ _ (by omega) (by omega)) cb_X9_has lay_6 kc_9 rfl ml_X10_139 dX10_of_5 (by decide) (Nat.le_of_ble_eq_true rfl) (fun r5 M5 hQ => ?_)
  obtain ⟨rfl, hMe⟩ := hQ
  replace hMe := hMe.symm
  subst hMe
  refine pw_if_eq (tgt := 26) C dX10_of_8 (by decide) (by split <;> omega) (fun h8 => ?_) (fun h8 => ?_)
  · have e8 : ¬ (0 ≤ w ∧ w < M 6 0) := fun h => by rw [if_pos h] at h8; omega
    refine pw_iconst C dX10_of_26 ?_
    exact pw_iretI C dX10_of_27 (⟨by rw [if_neg (by omega)], rfl⟩)
  · have e8 : (0 ≤ w ∧ w < M 6 0) := Decidable.byContradiction fun h => by rw [if_neg h] at h8; omega
    refine pw_iload2 C dX10_of_11 ?_
    refine pw_if_lt (tgt := 26) C dX10_of_12 (by decide) (by omega) (fun h12 => ?_) (fun h12 => ?_)
    · refine pw_iconst C dX10_of_26 ?_
      exact pw_iretI C dX10_of_27 (⟨by rw [if_neg (by omega)], rfl⟩)
    · refine pw_iload2 C dX10_of_15 ?_
      refine pw_aload0 C dX10_of_16 ?_
      refine g_0_2 C fl_X10_26 dX10_of_17 ?_
      refine g_6_1 C fl_X10_122 dX10_of_20 ?_
      refine pw_icmp_le (tgt := 28) C dX10_of_23 (by decide) (by omega) (by omega) (fun h23 => ?_) (fun h23 => ?_)
      · refine pw_iload2 C dX10_of_28 ?_
        refine pw_if_ne (tgt := 44) C dX10_of_29 (by decide) (by omega) (fun h29 => ?_) (fun h29 => ?_)
        · refine pw_aload0 C dX10_of_44 ?_
          refine g_0_2 C fl_X10_26 dX10_of_45 ?_
          refine g_6_2 C fl_X10_145 dX10_of_48 ?_
          refine pw_aload0 C dX10_of_51 ?_
          refine g_0_2 C fl_X10_26 dX10_of_52 ?_
          refine pw_iload1 C dX10_of_55 ?_
          refine pw_cVi1 C (c_X9_start _ K _ _) cb_X9_start lay_6 kc_9 rfl ml_X10_148 dX10_of_56 (by decide) (Nat.le_of_ble_eq_true rfl) (fun r56 M56 hQ => ?_)
          obtain ⟨rfl, hMe⟩ := hQ
          replace hMe := hMe.symm
          subst hMe
          refine pw_iload2 C dX10_of_59 ?_
          refine pw_iadd C dX10_of_60 ?_
          refine pw_iconst C dX10_of_61 ?_
          refine pw_isub C dX10_of_62 ?_
          refine pw_iaload C lay_7 (by omega) (by decide) dX10_of_63 ?_
          exact pw_iretI C dX10_of_64 (⟨by rw [if_pos (by omega)]; first | rw [if_pos (by omega)] | rw [if_neg (by omega)], rfl⟩)
        · refine pw_aload0 C dX10_of_32 ?_
          refine g_0_2 C fl_X10_26 dX10_of_33 ?_
          refine g_6_3 C fl_X10_142 dX10_of_36 ?_
          refine pw_iload1 C dX10_of_39 ?_
          refine pw_iaload C lay_8 (by omega) (by decide) dX10_of_40 ?_
          refine pw_goto (tgt := 64) C dX10_of_41 (by decide) ?_
          exact pw_iretI C dX10_of_64 (⟨by rw [if_pos (by omega)]; first | rw [if_pos (by omega)] | rw [if_neg (by omega)], rfl⟩)
      · refine pw_iconst C dX10_of_26 ?_
        exact pw_iretI C dX10_of_27 (⟨by rw [if_neg (by omega)], rfl⟩)
def cnF (s : Int) (c : Cfg) (w : Int) : Int := if w = 0 then kW c else if w = 1 then bc8 (bsI (kP c) 1 (kW c)) else if w = 2 then bc8 (bsI (kP c) 2 (kW c)) else if w = 3 then kT c else if w = 4 then kN c else if w = 5 then (if kW c = 0 then -1 else kL c) else if w = 6 then kSw c else if w = 7 then kGp c else if w = 8 then s else if w = 9 then kDr c else if 10 ≤ w ∧ w - 10 < kT c then kXs c (w - 10) else -1
set_option maxHeartbeats 4000000 in
set_option maxRecDepth 100000 in
theorem c_X10_count (l : Launch) (K : KX) (M : Mem) (w : Int) (hW : WfK (cf M)) (hw : -2147483648 ≤ w ∧ w ≤ 2147483647) (hs : 0 ≤ (M 3 0) ∧ (M 3 0) ≤ 40) : MCi l K LAY yX10_count cX10_count 2 (some .int) 3 [rV K 0, iV w] M (fun r M' => (r = cnF ((M 3 0)) (cf M) w) ∧ M' = M) := by
  refine mci_intro RX10 rfl [some (rV K 0), some (iV w)] rfl (by decide +kernel) (cat_r (cat_i cat_nil)) (Nat.le_of_ble_eq_true rfl) (fun X hX C => ?_)
  subst hX
  have w_let := wf_let hW
  have w_sw := wf_sw hW
  have w_dr := wf_dr hW
  have w_gp := wf_gp hW
  have w_w := wf_w hW
  have w_l := wf_l hW
  have w_l1 := wf_l1 hW
  have w_t := wf_t hW
  have hb1 := bsI_rng (p := M 8) (v := 1) (n := M 6 0) (by omega)
  have hb2 := bsI_rng (p := M 8) (v := 2) (n := M 6 0) (by omega)
  refine pw_iload1 C dX10_count_0 ?_
  by_cases hs1 : 0 ≤ w ∧ w ≤ 9
  · have hz1 : w = 0 ∨ w = 1 ∨ w = 2 ∨ w = 3 ∨ w = 4 ∨ w = 5 ∨ w = 6 ∨ w = 7 ∨ w = 8 ∨ w = 9 := by omega
    rcases hz1 with hc1 | hc1 | hc1 | hc1 | hc1 | hc1 | hc1 | hc1 | hc1 | hc1
    · refine pw_top C 0 hc1 ?_
      refine pw_tin (tgt := 56) C dX10_count_1 (by decide) (by decide) rfl (by decide) ?_
      refine pw_aload0 C dX10_count_56 ?_
      refine g_0_2 C fl_X10_26 dX10_count_57 ?_
      refine g_6_0 C fl_X10_78 dX10_count_60 ?_
      exact pw_iretI C dX10_count_63 (⟨by unfold cnF cf; simp only [hc1]; simp, rfl⟩)
    · refine pw_top C 1 hc1 ?_
      refine pw_tin (tgt := 64) C dX10_count_1 (by decide) (by decide) rfl (by decide) ?_
      refine pw_aload0 C dX10_count_64 ?_
      refine g_0_2 C fl_X10_26 dX10_count_65 ?_
      refine pw_iconst C dX10_count_68 ?_
      refine pw_cVi1 C (c_X9_having _ K _ _ (by omega) (by omega) (wf_p hW)) cb_X9_having lay_6 kc_9 rfl ml_X10_262 dX10_count_69 (by decide) (Nat.le_of_ble_eq_true rfl) (fun r69 M69 hQ => ?_)
      obtain ⟨rfl, hMe⟩ := hQ
      replace hMe := hMe.symm
      subst hMe
      refine pw_cSi1 C (c_J6_bitCount_0f7a4 _ K _ _ (by omega)) cb_J6_bitCount_0f7a4 ml_X10_198 dX10_count_72 (by decide) (Nat.le_of_ble_eq_true rfl) (fun r72 M72 hQ => ?_)
      obtain ⟨rfl, hMe⟩ := hQ
      replace hMe := hMe.symm
      subst hMe
      exact pw_iretI C dX10_count_75 (⟨by unfold cnF cf; simp only [hc1]; simp, rfl⟩)
    · refine pw_top C 2 hc1 ?_
      refine pw_tin (tgt := 76) C dX10_count_1 (by decide) (by decide) rfl (by decide) ?_
      refine pw_aload0 C dX10_count_76 ?_
      refine g_0_2 C fl_X10_26 dX10_count_77 ?_
      refine pw_iconst C dX10_count_80 ?_
      refine pw_cVi1 C (c_X9_having _ K _ _ (by omega) (by omega) (wf_p hW)) cb_X9_having lay_6 kc_9 rfl ml_X10_262 dX10_count_81 (by decide) (Nat.le_of_ble_eq_true rfl) (fun r81 M81 hQ => ?_)
      obtain ⟨rfl, hMe⟩ := hQ
      replace hMe := hMe.symm
      subst hMe
      refine pw_cSi1 C (c_J6_bitCount_0f7a4 _ K _ _ (by omega)) cb_J6_bitCount_0f7a4 ml_X10_198 dX10_count_84 (by decide) (Nat.le_of_ble_eq_true rfl) (fun r84 M84 hQ => ?_)
      obtain ⟨rfl, hMe⟩ := hQ
      replace hMe := hMe.symm
      subst hMe
      exact pw_iretI C dX10_count_87 (⟨by unfold cnF cf; simp only [hc1]; simp, rfl⟩)
    · refine pw_top C 3 hc1 ?_
      refine pw_tin (tgt := 88) C dX10_count_1 (by decide) (by decide) rfl (by decide) ?_
      refine pw_aload0 C dX10_count_88 ?_
      refine g_0_3 C fl_X10_33 dX10_count_89 ?_
      refine g_9_0 C fl_X10_82 dX10_count_92 ?_
      exact pw_iretI C dX10_count_95 (⟨by unfold cnF cf; simp only [hc1]; simp, rfl⟩)
    · refine pw_top C 4 hc1 ?_
      refine pw_tin (tgt := 96) C dX10_count_1 (by decide) (by decide) rfl (by decide) ?_
      refine pw_aload0 C dX10_count_96 ?_
      refine g_0_0 C fl_X10_10 dX10_count_97 ?_
      refine g_1_0 C fl_X10_83 dX10_count_100 ?_
      exact pw_iretI C dX10_count_103 (⟨by unfold cnF cf; simp only [hc1]; simp, rfl⟩)
    · refine pw_top C 5 hc1 ?_
      refine pw_tin (tgt := 104) C dX10_count_1 (by decide) (by decide) rfl (by decide) ?_
      refine pw_aload0 C dX10_count_104 ?_
      refine g_0_2 C fl_X10_26 dX10_count_105 ?_
      refine g_6_0 C fl_X10_78 dX10_count_108 ?_
      refine pw_if_ne (tgt := 118) C dX10_count_111 (by decide) (by omega) (fun h111 => ?_) (fun h111 => ?_)
      · refine pw_aload0 C dX10_count_118 ?_
        refine g_0_2 C fl_X10_26 dX10_count_119 ?_
        refine g_6_1 C fl_X10_122 dX10_count_122 ?_
        exact pw_iretI C dX10_count_125 (⟨by unfold cnF cf; simp only [hc1]; simp [h111], rfl⟩)
      · refine pw_iconst C dX10_count_114 ?_
        refine pw_goto (tgt := 125) C dX10_count_115 (by decide) ?_
        exact pw_iretI C dX10_count_125 (⟨by unfold cnF cf; simp only [hc1]; simp [h111], rfl⟩)
    · refine pw_top C 6 hc1 ?_
      refine pw_tin (tgt := 126) C dX10_count_1 (by decide) (by decide) rfl (by decide) ?_
      refine pw_aload0 C dX10_count_126 ?_
      refine g_0_0 C fl_X10_10 dX10_count_127 ?_
      refine g_1_1 C fl_X10_101 dX10_count_130 ?_
      exact pw_iretI C dX10_count_133 (⟨by unfold cnF cf; simp only [hc1]; simp, rfl⟩)
    · refine pw_top C 7 hc1 ?_
      refine pw_tin (tgt := 134) C dX10_count_1 (by decide) (by decide) rfl (by decide) ?_
      refine pw_aload0 C dX10_count_134 ?_
      refine g_0_0 C fl_X10_10 dX10_count_135 ?_
      refine g_1_3 C fl_X10_107 dX10_count_138 ?_
      exact pw_iretI C dX10_count_141 (⟨by unfold cnF cf; simp only [hc1]; simp, rfl⟩)
    · refine pw_top C 8 hc1 ?_
      refine pw_tin (tgt := 142) C dX10_count_1 (by decide) (by decide) rfl (by decide) ?_
      refine pw_aload0 C dX10_count_142 ?_
      refine g_0_1 C fl_X10_19 dX10_count_143 ?_
      refine g_3_0 C fl_X10_113 dX10_count_146 ?_
      exact pw_iretI C dX10_count_149 (⟨by unfold cnF cf; simp only [hc1]; simp, rfl⟩)
    · refine pw_top C 9 hc1 ?_
      refine pw_tin (tgt := 150) C dX10_count_1 (by decide) (by decide) rfl (by decide) ?_
      refine pw_aload0 C dX10_count_150 ?_
      refine g_0_0 C fl_X10_10 dX10_count_151 ?_
      refine g_1_2 C fl_X10_104 dX10_count_154 ?_
      exact pw_iretI C dX10_count_157 (⟨by unfold cnF cf; simp only [hc1]; simp, rfl⟩)
  · refine pw_tout (tgt := 158) C dX10_count_1 (by omega) (by omega) (by decide) ?_
    refine pw_iload1 C dX10_count_158 ?_
    refine pw_bipush C dX10_count_159 (by decide) ?_
    refine pw_icmp_lt (tgt := 193) C dX10_count_161 (by decide) (by omega) (by omega) (fun h161 => ?_) (fun h161 => ?_)
    · refine pw_iconst C dX10_count_193 ?_
      exact pw_iretI C dX10_count_194 (⟨by unfold cnF cf; rw [if_neg (by omega), if_neg (by omega), if_neg (by omega), if_neg (by omega), if_neg (by omega), if_neg (by omega), if_neg (by omega), if_neg (by omega), if_neg (by omega), if_neg (by omega)]; first | rw [if_neg (show ¬ (10 ≤ w ∧ w - 10 < M 9 0) by omega)] | rw [if_pos (show 10 ≤ w ∧ w - 10 < M 9 0 by omega)], rfl⟩)
    · refine pw_aload0 C dX10_count_164 ?_
      refine g_0_3 C fl_X10_33 dX10_count_165 ?_
      refine pw_iload1 C dX10_count_168 ?_
      refine pw_bipush C dX10_count_169 (by decide) ?_
      refine pw_isub C dX10_count_171 ?_
      refine pw_cVi1 C (c_X7_has _ K _ _ (by omega) (by omega)) cb_X7_has lay_9 kc_7 rfl ml_X10_249 dX10_count_172 (by decide) (Nat.le_of_ble_eq_true rfl) (fun r172 M172 hQ => ?_)
      obtain ⟨rfl, hMe⟩ := hQ
      replace hMe := hMe.symm
      subst hMe
      refine pw_if_eq (tgt := 193) C dX10_count_175 (by decide) (by split <;> omega) (fun h175 => ?_) (fun h175 => ?_)
      · have e9 : ¬ (0 ≤ w - 10 ∧ w - 10 < M 9 0) := fun h => by rw [if_pos h] at h175; omega
        refine pw_iconst C dX10_count_193 ?_
        exact pw_iretI C dX10_count_194 (⟨by unfold cnF cf; rw [if_neg (by omega), if_neg (by omega), if_neg (by omega), if_neg (by omega), if_neg (by omega), if_neg (by omega), if_neg (by omega), if_neg (by omega), if_neg (by omega), if_neg (by omega)]; first | rw [if_neg (show ¬ (10 ≤ w ∧ w - 10 < M 9 0) by omega)] | rw [if_pos (show 10 ≤ w ∧ w - 10 < M 9 0 by omega)], rfl⟩)
      · have e9 : (0 ≤ w - 10 ∧ w - 10 < M 9 0) := Decidable.byContradiction fun h => by rw [if_neg h] at h175; omega
        refine pw_aload0 C dX10_count_178 ?_
        refine g_0_3 C fl_X10_33 dX10_count_179 ?_
        refine g_9_2 C fl_X10_265 dX10_count_182 ?_
        refine pw_iload1 C dX10_count_185 ?_
        refine pw_bipush C dX10_count_186 (by decide) ?_
        refine pw_isub C dX10_count_188 ?_
        refine pw_iaload C lay_11 (by omega) (by decide) dX10_count_189 ?_
        refine pw_goto (tgt := 194) C dX10_count_190 (by decide) ?_
        exact pw_iretI C dX10_count_194 (⟨by unfold cnF cf; rw [if_neg (by omega), if_neg (by omega), if_neg (by omega), if_neg (by omega), if_neg (by omega), if_neg (by omega), if_neg (by omega), if_neg (by omega), if_neg (by omega), if_neg (by omega)]; first | rw [if_neg (show ¬ (10 ≤ w ∧ w - 10 < M 9 0) by omega)] | rw [if_pos (show 10 ≤ w ∧ w - 10 < M 9 0 by omega)], rfl⟩)
set_option maxHeartbeats 4000000 in
set_option maxRecDepth 100000 in
theorem c_X7_allHave (l : Launch) (K : KX) (M : Mem) (m : Int) (hW : WfK (cf M)) (hm : -2147483648 ≤ m ∧ m ≤ 2147483647) : MCi l K LAY yX7_allHave cX7_allHave 3 (some .boolean) 1 [rV K 9, iV m] M (fun r M' => (((1 ≤ m ∧ m ≤ 6 ∧ 0 < M 9 0 ∧ ∀ t, 0 ≤ t → t < M 9 0 → m ≤ M 11 t) ∧ r = 1) ∨ (¬ (1 ≤ m ∧ m ≤ 6 ∧ 0 < M 9 0 ∧ ∀ t, 0 ≤ t → t < M 9 0 → m ≤ M 11 t) ∧ r = 0)) ∧ M' = M) := by
  refine mci_intro RX7 rfl [some (rV K 9), some (iV m), none] rfl (by decide +kernel) (cat_r (cat_i cat_nil)) (Nat.le_of_ble_eq_true rfl) (fun X hX C => ?_)
  subst hX
  have w_let := wf_let hW
  have w_sw := wf_sw hW
  have w_dr := wf_dr hW
  have w_gp := wf_gp hW
  have w_w := wf_w hW
  have w_l := wf_l hW
  have w_l1 := wf_l1 hW
  have w_t := wf_t hW
  refine pw_iload1 C dX7_allHave_0 ?_
  refine pw_iconst C dX7_allHave_1 ?_
  refine pw_icmp_lt (tgt := 11) C dX7_allHave_2 (by decide) (by omega) (by omega) (fun h2 => ?_) (fun h2 => ?_)
  · refine pw_iconst C dX7_allHave_11 ?_
    exact pw_zretI C dX7_allHave_12 (by decide) (⟨by exact Or.inr ⟨fun h => by omega, rfl⟩, rfl⟩)
  · refine pw_iload1 C dX7_allHave_5 ?_
    refine pw_bipush C dX7_allHave_6 (by decide) ?_
    refine pw_icmp_le (tgt := 13) C dX7_allHave_8 (by decide) (by omega) (by omega) (fun h8 => ?_) (fun h8 => ?_)
    · refine pw_iconst C dX7_allHave_13 ?_
      refine pw_istore2 C (by decide) dX7_allHave_14 ?_
      have cut_15 : ∀ (fu : Nat) (t : Int), (0 ≤ t ∧ t ≤ M 9 0) → (∀ u, 0 ≤ u → u < t → m ≤ M 11 u) → (M 9 0 - t).toNat < fu → PW X K LAY 3 (0, 0) (Zi X K LAY (fun r M' => (((1 ≤ m ∧ m ≤ 6 ∧ 0 < M 9 0 ∧ ∀ t, 0 ≤ t → t < M 9 0 → m ≤ M 11 t) ∧ r = 1) ∨ (¬ (1 ≤ m ∧ m ≤ 6 ∧ 0 < M 9 0 ∧ ∀ t, 0 ≤ t → t < M 9 0 → m ≤ M 11 t) ∧ r = 0)) ∧ M' = M)) 15 [some (rV K 9), some (iV m), some (iV t)] [] M := by
        intro fu
        induction fu with
        | zero => intro _ _ _ hm; exact absurd hm (Nat.not_lt_zero _)
        | succ fu ih =>
          intro t ht h1 hm
          have ih_15 := ih
          have hm_15 := hm
          refine pw_iload2 C dX7_allHave_15 ?_
          refine pw_aload0 C dX7_allHave_16 ?_
          refine g_9_0 C fl_X7_9 dX7_allHave_17 ?_
          refine pw_icmp_ge (tgt := 41) C dX7_allHave_20 (by decide) (by omega) (by omega) (fun h20 => ?_) (fun h20 => ?_)
          · refine pw_aload0 C dX7_allHave_41 ?_
            refine g_9_0 C fl_X7_9 dX7_allHave_42 ?_
            refine pw_if_le (tgt := 52) C dX7_allHave_45 (by decide) (by omega) (fun h45 => ?_) (fun h45 => ?_)
            · refine pw_iconst C dX7_allHave_52 ?_
              exact pw_zretI C dX7_allHave_53 (by decide) (⟨by first | exact Or.inl ⟨⟨by omega, by omega, by omega, fun u q1 q2 => h1 u q1 (by omega)⟩, rfl⟩ | exact Or.inr ⟨fun h => by omega, rfl⟩, rfl⟩)
            · refine pw_iconst C dX7_allHave_48 ?_
              refine pw_goto (tgt := 53) C dX7_allHave_49 (by decide) ?_
              exact pw_zretI C dX7_allHave_53 (by decide) (⟨by first | exact Or.inl ⟨⟨by omega, by omega, by omega, fun u q1 q2 => h1 u q1 (by omega)⟩, rfl⟩ | exact Or.inr ⟨fun h => by omega, rfl⟩, rfl⟩)
          · have hx := wf_xs hW t (by omega) (by omega)
            refine pw_aload0 C dX7_allHave_23 ?_
            refine g_9_2 C fl_X7_19 dX7_allHave_24 ?_
            refine pw_iload2 C dX7_allHave_27 ?_
            refine pw_iaload C lay_11 (by omega) (by decide) dX7_allHave_28 ?_
            refine pw_iload1 C dX7_allHave_29 ?_
            refine pw_icmp_ge (tgt := 35) C dX7_allHave_30 (by decide) (by omega) (by omega) (fun h30 => ?_) (fun h30 => ?_)
            · refine pw_iinc2 C (by decide) dX7_allHave_35 ?_
              refine pw_goto (tgt := 15) C dX7_allHave_38 (by decide) ?_
              exact ih_15 _ (by omega) (by
                    intro u q1 q2
                    by_cases e : u = t
                    · rw [e]; omega
                    · exact h1 u q1 (by omega)) (by omega)
            · refine pw_iconst C dX7_allHave_33 ?_
              exact pw_zretI C dX7_allHave_34 (by decide) (⟨by exact Or.inr ⟨fun h => by have := h.2.2.2 t (by omega) (by omega); omega, rfl⟩, rfl⟩)
      exact cut_15 _ _ (by omega) (by intro u q1 q2; omega) (Nat.lt_succ_self _)
    · refine pw_iconst C dX7_allHave_11 ?_
      exact pw_zretI C dX7_allHave_12 (by decide) (⟨by exact Or.inr ⟨fun h => by omega, rfl⟩, rfl⟩)
