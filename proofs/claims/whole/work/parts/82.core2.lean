def PQ (c : Cfg) (G : Prop) (A : Int → Prop) (r : Int) : Prop := (G ∧ nrB c ≠ 0 ∧ A r) ∨ (¬ (G ∧ nrB c ≠ 0) ∧ r = -1)
theorem PQ_one {c : Cfg} {G : Prop} {A : Int → Prop} (hA : ∀ x y, A x → A y → x = y) {r s : Int} (h : PQ c G A r) (h2 : PQ c G A s) : r = s := by
  rcases h with ⟨a, b, d⟩ | ⟨a, b⟩ <;> rcases h2 with ⟨a2, b2, d2⟩ | ⟨a2, b2⟩
  · exact hA r s d d2
  · exact absurd ⟨a, b⟩ a2
  · exact absurd ⟨a2, b2⟩ a
  · omega
/-- coreSet, core, cover, centres -/
def PCs (c : Cfg) (r0 r : Int) : Prop := PQ c (0 ≤ r0 ∧ r0 ≤ 63) (CoS c r0) r
def PCo (c : Cfg) (r0 r : Int) : Prop := PQ c (0 ≤ r0 ∧ r0 ≤ 63) (fun y => ∃ x, CoS c r0 x ∧ y = bc8 x) r
def PCv (c : Cfg) (r0 r : Int) : Prop := PQ c (0 ≤ r0 ∧ r0 ≤ 63) (CvS c r0) r
def PCt (c : Cfg) (k r : Int) : Prop := PQ c (1 ≤ k ∧ k ≤ 8) (CtS c k) r
theorem PCs_one {c : Cfg} {r0 r s : Int} (h : PCs c r0 r) (h2 : PCs c r0 s) : r = s := PQ_one (fun _ _ => CoS_one) h h2
theorem PCo_one {c : Cfg} {r0 r s : Int} (h : PCo c r0 r) (h2 : PCo c r0 s) : r = s := PQ_one (fun _ _ a b => by
  obtain ⟨x, a1, a2⟩ := a
  obtain ⟨y, b1, b2⟩ := b
  rw [a2, b2, CoS_one a1 b1]) h h2
theorem PCv_one {c : Cfg} {r0 r s : Int} (h : PCv c r0 r) (h2 : PCv c r0 s) : r = s := PQ_one (fun _ _ => CvS_one) h h2
theorem PCt_one {c : Cfg} {r0 r s : Int} (h : PCt c r0 r) (h2 : PCt c r0 s) : r = s := PQ_one (fun _ _ => CtS_one) h h2
theorem PCs_rng {c : Cfg} {r0 r : Int} (h : PCs c r0 r) : -1 ≤ r ∧ r < 256 := by
  rcases h with ⟨a, b, d⟩ | ⟨a, b⟩
  · have := CoS_rng d; omega
  · omega
theorem PCs_co {c : Cfg} {r0 r : Int} (h : PCs c r0 r) : PCo c r0 (if r = -1 then -1 else bc8 r) := by
  rcases h with ⟨a, b, d⟩ | ⟨a, b⟩
  · have := CoS_rng d
    rw [if_neg (by omega)]
    exact Or.inl ⟨a, b, r, d, rfl⟩
  · rw [if_pos b]
    exact Or.inr ⟨a, rfl⟩
set_option maxHeartbeats 4000000 in
set_option maxRecDepth 100000 in
theorem c_X10_coreSet (l : Launch) (K : KX) (M : Mem) (r0 : Int) (hW : WfK (cf M)) (hwd : M 15 4 = 8) (hZ : Z0a M) (hfr : M 24 0 = 0 ∨ (M 24 0 = 1 ∧ StR (cf M) M)) (hr : -2147483648 ≤ r0 ∧ r0 ≤ 2147483647) : MCi l K LAY yX10_coreSet cX10_coreSet 2 (some .int) 6 [rV K 0, iV r0] M (fun r M' => (PCs (cf M) r0 r) ∧ (M' 24 0 = 0 ∨ (M' 24 0 = 1 ∧ StR (cf M) M')) ∧ (M' 15 4 = 8) ∧ (Z0a M') ∧ Sm [12, 13, 15, 16, 17, 18, 19, 20, 24, 25, 26, 27, 28] M M') := by
  refine mci_intro RX10 rfl [some (rV K 0), some (iV r0)] rfl (by decide +kernel) (cat_r (cat_i cat_nil)) (Nat.le_of_ble_eq_true rfl) (fun X hX C => ?_)
  subst hX
  have w_w := wf_w hW
  have hnb : 0 ≤ nrB (cf M) ∧ nrB (cf M) ≤ 255 := by
    have h := bsI_rng (p := M 8) (v := 1) (n := M 6 0) (by omega)
    have e : nrB (cf M) = bsI (M 8) 1 (M 6 0) := rfl
    omega
  refine pw_aload0 C dX10_coreSet_0 ?_
  refine pw_iload1 C dX10_coreSet_1 ?_
  refine pw_cVi1 C (c_X10_asksWithin _ K _ _ (hW) (hr)) cb_X10_asksWithin lay_0 kc_10 rfl ml_X10_181 dX10_coreSet_2 (by decide) (Nat.le_of_ble_eq_true rfl) (fun r2 M2 hQ => ?_)
  obtain ⟨rfl, hMe⟩ := hQ
  replace hMe := hMe.symm
  subst hMe
  refine pw_if_ne (tgt := 10) C dX10_coreSet_5 (by decide) (by split <;> omega) (fun h5 => ?_) (fun h5 => ?_)
  · have e5 : ((0 ≤ r0 ∧ r0 ≤ 63) ∧ nrB (cf M) ≠ 0) := Decidable.byContradiction fun h => by rw [if_neg h] at h5; omega
    refine pw_aload0 C dX10_coreSet_10 ?_
    refine g_0_6 C fl_X10_58 dX10_coreSet_11 ?_
    refine pw_cVv0 C (c_X4_refresh _ K _ (hW) (hwd) (hZ) (hfr)) cb_X4_refresh lay_24 kc_4 rfl ml_X10_203 dX10_coreSet_14 (by decide) (Nat.le_of_ble_eq_true rfl) (fun M14 hQ => ?_)
    obtain ⟨hS_14, h0_14, h2_14, h3_14, hF14⟩ := hQ
    refine pw_aload0 C dX10_coreSet_17 ?_
    refine g_0_6 C fl_X10_58 dX10_coreSet_18 ?_
    refine pw_iload1 C dX10_coreSet_21 ?_
    refine pw_cVi1 C (c_X4_leastNotHeld _ K _ _ (cf M) (hW) (e5.1) (hS_14.1) (by rw [hS_14.1]; exact hnb) (hS_14.2.1) ((hS_14.2.2.2 e5.2).1)) cb_X4_leastNotHeld lay_24 kc_4 rfl ml_X10_204 dX10_coreSet_22 (by decide) (Nat.le_of_ble_eq_true rfl) (fun r22 M22 hQ => ?_)
    obtain ⟨hp_22, hMe⟩ := hQ
    replace hMe := hMe.symm
    subst hMe
    exact pw_iretI C dX10_coreSet_25 (⟨by exact Or.inl ⟨e5.1, e5.2, hp_22⟩, by exact Or.inr ⟨h0_14, hS_14⟩, by exact h2_14, by exact h3_14, (Sm_trans Sm_refl hF14 (by decide))⟩)
  · have e5 : ¬ ((0 ≤ r0 ∧ r0 ≤ 63) ∧ nrB (cf M) ≠ 0) := fun h => by rw [if_pos h] at h5; omega
    refine pw_iconst C dX10_coreSet_8 ?_
    exact pw_iretI C dX10_coreSet_9 (⟨by exact Or.inr ⟨e5, rfl⟩, by exact hfr, by exact hwd, by exact hZ, Sm_refl⟩)
set_option maxHeartbeats 4000000 in
set_option maxRecDepth 100000 in
theorem c_X10_core (l : Launch) (K : KX) (M : Mem) (r0 : Int) (hW : WfK (cf M)) (hwd : M 15 4 = 8) (hZ : Z0a M) (hfr : M 24 0 = 0 ∨ (M 24 0 = 1 ∧ StR (cf M) M)) (hr : -2147483648 ≤ r0 ∧ r0 ≤ 2147483647) : MCi l K LAY yX10_core cX10_core 3 (some .int) 7 [rV K 0, iV r0] M (fun r M' => (PCo (cf M) r0 r) ∧ (M' 24 0 = 0 ∨ (M' 24 0 = 1 ∧ StR (cf M) M')) ∧ (M' 15 4 = 8) ∧ (Z0a M') ∧ Sm [12, 13, 15, 16, 17, 18, 19, 20, 24, 25, 26, 27, 28] M M') := by
  refine mci_intro RX10 rfl [some (rV K 0), some (iV r0), none] rfl (by decide +kernel) (cat_r (cat_i cat_nil)) (Nat.le_of_ble_eq_true rfl) (fun X hX C => ?_)
  subst hX
  have w_w := wf_w hW
  have hnb : 0 ≤ nrB (cf M) ∧ nrB (cf M) ≤ 255 := by
    have h := bsI_rng (p := M 8) (v := 1) (n := M 6 0) (by omega)
    have e : nrB (cf M) = bsI (M 8) 1 (M 6 0) := rfl
    omega
  refine pw_aload0 C dX10_core_0 ?_
  refine pw_iload1 C dX10_core_1 ?_
  refine pw_cVi1 C (c_X10_coreSet _ K _ _ (hW) (hwd) (hZ) (hfr) (hr)) cb_X10_coreSet lay_0 kc_10 rfl ml_X10_195 dX10_core_2 (by decide) (Nat.le_of_ble_eq_true rfl) (fun r2 M2 hQ => ?_)
  obtain ⟨hp_2, h0_2, h2_2, h3_2, hF2⟩ := hQ
  have hr2 := PCs_rng hp_2
  have hq := PCs_co hp_2
  refine pw_istore2 C (by decide) dX10_core_5 ?_
  refine pw_iload2 C dX10_core_6 ?_
  refine pw_iconst C dX10_core_7 ?_
  refine pw_icmp_ne (tgt := 15) C dX10_core_8 (by decide) (by omega) (by omega) (fun h8 => ?_) (fun h8 => ?_)
  · refine pw_iload2 C dX10_core_15 ?_
    refine pw_cSi1 C (c_J6_bitCount_0f7a4 _ K _ _ (by omega)) cb_J6_bitCount_0f7a4 ml_X10_198 dX10_core_16 (by decide) (Nat.le_of_ble_eq_true rfl) (fun r16 M16 hQ => ?_)
    obtain ⟨rfl, hMe⟩ := hQ
    replace hMe := hMe.symm
    subst hMe
    exact pw_iretI C dX10_core_19 (⟨by first | (rw [if_neg h8] at hq; exact hq) | (rw [if_pos (by omega)] at hq; exact hq), by exact h0_2, by exact h2_2, by exact h3_2, (Sm_trans Sm_refl hF2 (by decide))⟩)
  · refine pw_iconst C dX10_core_11 ?_
    refine pw_goto (tgt := 19) C dX10_core_12 (by decide) ?_
    exact pw_iretI C dX10_core_19 (⟨by first | (rw [if_neg h8] at hq; exact hq) | (rw [if_pos (by omega)] at hq; exact hq), by exact h0_2, by exact h2_2, by exact h3_2, (Sm_trans Sm_refl hF2 (by decide))⟩)
set_option maxHeartbeats 4000000 in
set_option maxRecDepth 100000 in
theorem c_X10_cover (l : Launch) (K : KX) (M : Mem) (r0 : Int) (hW : WfK (cf M)) (hwd : M 15 4 = 8) (hZ : Z0a M) (hfr : M 24 0 = 0 ∨ (M 24 0 = 1 ∧ StR (cf M) M)) (hr : -2147483648 ≤ r0 ∧ r0 ≤ 2147483647) : MCi l K LAY yX10_cover cX10_cover 2 (some .int) 6 [rV K 0, iV r0] M (fun r M' => (PCv (cf M) r0 r) ∧ (M' 24 0 = 0 ∨ (M' 24 0 = 1 ∧ StR (cf M) M')) ∧ (M' 15 4 = 8) ∧ (Z0a M') ∧ Sm [12, 13, 15, 16, 17, 18, 19, 20, 24, 25, 26, 27, 28] M M') := by
  refine mci_intro RX10 rfl [some (rV K 0), some (iV r0)] rfl (by decide +kernel) (cat_r (cat_i cat_nil)) (Nat.le_of_ble_eq_true rfl) (fun X hX C => ?_)
  subst hX
  have w_w := wf_w hW
  have hnb : 0 ≤ nrB (cf M) ∧ nrB (cf M) ≤ 255 := by
    have h := bsI_rng (p := M 8) (v := 1) (n := M 6 0) (by omega)
    have e : nrB (cf M) = bsI (M 8) 1 (M 6 0) := rfl
    omega
  refine pw_aload0 C dX10_cover_0 ?_
  refine pw_iload1 C dX10_cover_1 ?_
  refine pw_cVi1 C (c_X10_asksWithin _ K _ _ (hW) (hr)) cb_X10_asksWithin lay_0 kc_10 rfl ml_X10_181 dX10_cover_2 (by decide) (Nat.le_of_ble_eq_true rfl) (fun r2 M2 hQ => ?_)
  obtain ⟨rfl, hMe⟩ := hQ
  replace hMe := hMe.symm
  subst hMe
  refine pw_if_ne (tgt := 10) C dX10_cover_5 (by decide) (by split <;> omega) (fun h5 => ?_) (fun h5 => ?_)
  · have e5 : ((0 ≤ r0 ∧ r0 ≤ 63) ∧ nrB (cf M) ≠ 0) := Decidable.byContradiction fun h => by rw [if_neg h] at h5; omega
    refine pw_aload0 C dX10_cover_10 ?_
    refine g_0_6 C fl_X10_58 dX10_cover_11 ?_
    refine pw_cVv0 C (c_X4_refresh _ K _ (hW) (hwd) (hZ) (hfr)) cb_X4_refresh lay_24 kc_4 rfl ml_X10_203 dX10_cover_14 (by decide) (Nat.le_of_ble_eq_true rfl) (fun M14 hQ => ?_)
    obtain ⟨hS_14, h0_14, h2_14, h3_14, hF14⟩ := hQ
    refine pw_aload0 C dX10_cover_17 ?_
    refine g_0_6 C fl_X10_58 dX10_cover_18 ?_
    refine pw_iload1 C dX10_cover_21 ?_
    refine pw_cVi1 C (c_X4_fewestSets _ K _ _ (e5.1) ((hS_14.2.2.2 e5.2).2.2)) cb_X4_fewestSets lay_24 kc_4 rfl ml_X10_207 dX10_cover_22 (by decide) (Nat.le_of_ble_eq_true rfl) (fun r22 M22 hQ => ?_)
    obtain ⟨hp_22, hMe⟩ := hQ
    replace hMe := hMe.symm
    subst hMe
    exact pw_iretI C dX10_cover_25 (⟨by exact Or.inl ⟨e5.1, e5.2, St_cv hW e5.1 e5.2 hS_14 hp_22⟩, by exact Or.inr ⟨h0_14, hS_14⟩, by exact h2_14, by exact h3_14, (Sm_trans Sm_refl hF14 (by decide))⟩)
  · have e5 : ¬ ((0 ≤ r0 ∧ r0 ≤ 63) ∧ nrB (cf M) ≠ 0) := fun h => by rw [if_pos h] at h5; omega
    refine pw_iconst C dX10_cover_8 ?_
    exact pw_iretI C dX10_cover_9 (⟨by exact Or.inr ⟨e5, rfl⟩, by exact hfr, by exact hwd, by exact hZ, Sm_refl⟩)
set_option maxHeartbeats 4000000 in
set_option maxRecDepth 100000 in
theorem c_X10_centres (l : Launch) (K : KX) (M : Mem) (k : Int) (hW : WfK (cf M)) (hwd : M 15 4 = 8) (hZ : Z0a M) (hfr : M 24 0 = 0 ∨ (M 24 0 = 1 ∧ StR (cf M) M)) (hk : -2147483648 ≤ k ∧ k ≤ 2147483647) : MCi l K LAY yX10_centres cX10_centres 3 (some .int) 6 [rV K 0, iV k] M (fun r M' => (PCt (cf M) k r) ∧ (M' 24 0 = 0 ∨ (M' 24 0 = 1 ∧ StR (cf M) M')) ∧ (M' 15 4 = 8) ∧ (Z0a M') ∧ Sm [12, 13, 15, 16, 17, 18, 19, 20, 24, 25, 26, 27, 28] M M') := by
  refine mci_intro RX10 rfl [some (rV K 0), some (iV k), none] rfl (by decide +kernel) (cat_r (cat_i cat_nil)) (Nat.le_of_ble_eq_true rfl) (fun X hX C => ?_)
  subst hX
  have w_w := wf_w hW
  have hnb : 0 ≤ nrB (cf M) ∧ nrB (cf M) ≤ 255 := by
    have h := bsI_rng (p := M 8) (v := 1) (n := M 6 0) (by omega)
    have e : nrB (cf M) = bsI (M 8) 1 (M 6 0) := rfl
    omega
  refine pw_iload1 C dX10_centres_0 ?_
  refine pw_iconst C dX10_centres_1 ?_
  refine pw_icmp_lt (tgt := 21) C dX10_centres_2 (by decide) (by omega) (by omega) (fun h2 => ?_) (fun h2 => ?_)
  · refine pw_iconst C dX10_centres_21 ?_
    exact pw_iretI C dX10_centres_22 (⟨by
          refine Or.inr ⟨fun h => ?_, rfl⟩
          first | (have := h.1; omega) | exact h.2 hb0, by exact hfr, by exact hwd, by exact hZ, Sm_refl⟩)
  · refine pw_iload1 C dX10_centres_5 ?_
    refine pw_bipush C dX10_centres_6 (by decide) ?_
    refine pw_icmp_gt (tgt := 21) C dX10_centres_8 (by decide) (by omega) (by omega) (fun h8 => ?_) (fun h8 => ?_)
    · refine pw_iconst C dX10_centres_21 ?_
      exact pw_iretI C dX10_centres_22 (⟨by
            refine Or.inr ⟨fun h => ?_, rfl⟩
            first | (have := h.1; omega) | exact h.2 hb0, by exact hfr, by exact hwd, by exact hZ, Sm_refl⟩)
    · refine pw_aload0 C dX10_centres_11 ?_
      refine g_0_2 C fl_X10_26 dX10_centres_12 ?_
      refine pw_cVi0 C (c_X9_hasNear _ K _ (by omega) (wf_p hW)) cb_X9_hasNear lay_6 kc_9 rfl ml_X10_210 dX10_centres_15 (by decide) (Nat.le_of_ble_eq_true rfl) (fun r15 M15 hQ => ?_)
      obtain ⟨rfl, hMe⟩ := hQ
      replace hMe := hMe.symm
      subst hMe
      refine pw_if_ne (tgt := 23) C dX10_centres_18 (by decide) (by split <;> omega) (fun h18 => ?_) (fun h18 => ?_)
      · have hb9 : bsI (M 8) 1 (M 6 0) ≠ 0 := fun h => by rw [if_pos h] at h18; omega
        have hb0 : nrB (cf M) ≠ 0 := hb9
        refine pw_aload0 C dX10_centres_23 ?_
        refine g_0_6 C fl_X10_58 dX10_centres_24 ?_
        refine pw_cVv0 C (c_X4_refresh _ K _ (hW) (hwd) (hZ) (hfr)) cb_X4_refresh lay_24 kc_4 rfl ml_X10_203 dX10_centres_27 (by decide) (Nat.le_of_ble_eq_true rfl) (fun M27 hQ => ?_)
        obtain ⟨hS_27, h0_27, h2_27, h3_27, hF27⟩ := hQ
        have hv := (hS_27.2.2.2 hb0).2.2 k (by omega) (by omega)
        have hq := St_ct (k := k) hW (by omega) hb0 hS_27
        refine pw_aload0 C dX10_centres_30 ?_
        refine g_0_6 C fl_X10_58 dX10_centres_31 ?_
        refine g_24_1 C fl_X10_214 dX10_centres_34 ?_
        refine pw_iload1 C dX10_centres_37 ?_
        refine pw_iaload C lay_25 (by omega) (by decide) dX10_centres_38 ?_
        refine pw_istore2 C (by decide) dX10_centres_39 ?_
        refine pw_iload2 C dX10_centres_40 ?_
        refine pw_bipush C dX10_centres_41 (by decide) ?_
        refine pw_icmp_le (tgt := 50) C dX10_centres_43 (by decide) (by omega) (by omega) (fun h43 => ?_) (fun h43 => ?_)
        · refine pw_iload2 C dX10_centres_50 ?_
          exact pw_iretI C dX10_centres_51 (⟨by
                refine Or.inl ⟨by omega, hb0, ?_⟩
                first | (rw [if_neg (by omega)] at hq; exact hq) | (rw [if_pos (by omega)] at hq; exact hq), by exact Or.inr ⟨h0_27, hS_27⟩, by exact h2_27, by exact h3_27, (Sm_trans Sm_refl hF27 (by decide))⟩)
        · refine pw_iconst C dX10_centres_46 ?_
          refine pw_goto (tgt := 51) C dX10_centres_47 (by decide) ?_
          exact pw_iretI C dX10_centres_51 (⟨by
                refine Or.inl ⟨by omega, hb0, ?_⟩
                first | (rw [if_neg (by omega)] at hq; exact hq) | (rw [if_pos (by omega)] at hq; exact hq), by exact Or.inr ⟨h0_27, hS_27⟩, by exact h2_27, by exact h3_27, (Sm_trans Sm_refl hF27 (by decide))⟩)
      · have hb9 : bsI (M 8) 1 (M 6 0) = 0 := Decidable.byContradiction fun h => by rw [if_neg h] at h18; omega
        have hb0 : nrB (cf M) = 0 := hb9
        refine pw_iconst C dX10_centres_21 ?_
        exact pw_iretI C dX10_centres_22 (⟨by
              refine Or.inr ⟨fun h => ?_, rfl⟩
              first | (have := h.1; omega) | exact h.2 hb0, by exact hfr, by exact hwd, by exact hZ, Sm_refl⟩)
