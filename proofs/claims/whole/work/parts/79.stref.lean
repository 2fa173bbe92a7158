/-- the sets when they are fresh -/
def StR (c : Cfg) (M : Mem) : Prop := M 24 6 = nrB c ∧ (∀ S, 0 ≤ S → S < 256 → 0 ≤ M 26 S ∧ M 26 S ≤ 2147483647) ∧ (nrB c = 0 → ∀ S, 0 ≤ S → S < 256 → M 26 S = 2147483647) ∧ (nrB c ≠ 0 → KyOK c (M 26) ∧ (∀ j, 1 ≤ j → j < 9 → ∀ r, M 25 j ≤ r ↔ Cov (M 26) r (j - 1).toNat (nrB c)) ∧ ∀ j, 1 ≤ j → j < 9 → 0 ≤ M 25 j ∧ M 25 j ≤ 131071)
theorem StR_c {c : Cfg} {M M' : Mem} (h4 : M' 24 = M 24) (h5 : M' 25 = M 25) (h6 : M' 26 = M 26) (h : StR c M) : StR c M' := by
  unfold StR at h ⊢
  rw [h4, h5, h6]
  exact h
theorem Low_rng {K K' : Int → Int} {w : Int} (h : Low w K K') (hk : ∀ S, 0 ≤ S → S < 256 → 0 ≤ K S ∧ K S ≤ 2147483647) : ∀ S, 0 ≤ S → S < 256 → 0 ≤ K' S ∧ K' S ≤ 2147483647 := fun S q1 q2 => by
  obtain ⟨T, t1, -, t3⟩ := h.1 S q1 q2
  rw [t3]
  exact hk T t1.1 t1.2
set_option maxHeartbeats 4000000 in
set_option maxRecDepth 100000 in
theorem c_X4_refresh (l : Launch) (K : KX) (M : Mem) (hW : WfK (cf M)) (hwd : M 15 4 = 8) (hZ : Z0a M) (hfr : M 24 0 = 0 ∨ (M 24 0 = 1 ∧ StR (cf M) M)) : MCv l K LAY yX4_refresh cX4_refresh 2 none 5 [rV K 24] M (fun M' => (StR (cf M) M') ∧ (M' 24 0 = 1) ∧ (M' 15 4 = 8) ∧ (Z0a M') ∧ Sm [12, 13, 15, 16, 17, 18, 19, 20, 24, 25, 26, 27, 28] M M') := by
  refine mcv_intro RX4 rfl [some (rV K 24), none] rfl (by decide +kernel) (cat_r cat_nil) (Nat.le_of_ble_eq_true rfl) (fun X hX C => ?_)
  subst hX
  have w_let := wf_let hW
  have w_w := wf_w hW
  have w_l := wf_l hW
  have hnb : 0 ≤ nrB (cf M) ∧ nrB (cf M) ≤ 255 := by
    have h := bsI_rng (p := M 8) (v := 1) (n := M 6 0) (by omega)
    have e : nrB (cf M) = bsI (M 8) 1 (M 6 0) := rfl
    omega
  refine pw_aload0 C dX4_refresh_0 ?_
  refine g_24_0 C fl_X4_9 dX4_refresh_1 ?_
  refine pw_if_eq (tgt := 8) C dX4_refresh_4 (by decide) (by omega) (fun h4 => ?_) (fun h4 => ?_)
  · refine pw_aload0 C dX4_refresh_8 ?_
    refine pw_iconst C dX4_refresh_9 ?_
    refine p_24_0 C (by decide) fl_X4_9 dX4_refresh_10 ?_
    refine pw_aload0 C dX4_refresh_13 ?_
    refine pw_aload0 C dX4_refresh_14 ?_
    refine g_24_2 C fl_X4_32 dX4_refresh_15 ?_
    refine g_12_0 C fl_X4_36 dX4_refresh_18 ?_
    refine pw_iconst C dX4_refresh_21 ?_
    have nz22_6 : (up2 M 24 0 1) 6 = M 6 := (up2_ne (by decide))
    have nz22_8 : (up2 M 24 0 1) 8 = M 8 := (up2_ne (by decide))
    refine pw_cVi1 C (c_X9_having _ K _ _ (by first | omega | (simp only [nz22_6, nz22_8]; omega)) (by rw [nz22_6]; omega) (by rw [nz22_6, nz22_8]; exact wf_p hW)) cb_X9_having lay_6 kc_9 rfl ml_X4_42 dX4_refresh_22 (by decide) (Nat.le_of_ble_eq_true rfl) (fun r22 M22 hQ => ?_)
    obtain ⟨rfl, hMe⟩ := hQ
    replace hMe := hMe.symm
    subst hMe
    refine pw_top C (nrB (cf M)) (by rw [nz22_8, nz22_6]; rfl) ?_
    refine p_24_6 C fl_X4_28 dX4_refresh_25 ?_
    refine pw_iconst C dX4_refresh_28 ?_
    refine pw_istore1 C (by decide) dX4_refresh_29 ?_
    have cut_30 : ∀ (fu : Nat) (i : Int) (M1 : Mem), Sm [24, 26] M M1 → (0 ≤ i ∧ i ≤ 256) → (M1 24 6 = nrB (cf M)) → (M1 24 0 = 1) → (∀ j, 0 ≤ j → j < i → M1 26 j = 2147483647) → (256 - i).toNat < fu → PW X K LAY 2 (0, 0) (Zv X K LAY (fun M' => (StR (cf M) M') ∧ (M' 24 0 = 1) ∧ (M' 15 4 = 8) ∧ (Z0a M') ∧ Sm [12, 13, 15, 16, 17, 18, 19, 20, 24, 25, 26, 27, 28] M M')) 30 [some (rV K 24), some (iV i)] [] M1 := by
      intro fu
      induction fu with
      | zero => intro _ _ _ _ _ _ _ hm; exact absurd hm (Nat.not_lt_zero _)
      | succ fu ih =>
        intro i M1 hF30 hi n6 n0 g hm
        have ih_30 := ih
        have hm_30 := hm
        refine pw_iload1 C dX4_refresh_30 ?_
        refine pw_sipush C dX4_refresh_31 (by decide) ?_
        refine pw_icmp_ge (tgt := 51) C dX4_refresh_34 (by decide) (by omega) (by omega) (fun h34 => ?_) (fun h34 => ?_)
        · have ecf1 : cf M1 = cf M := by unfold cf; rw [hF30 1 (by decide), hF30 2 (by decide), hF30 6 (by decide), hF30 7 (by decide), hF30 8 (by decide), hF30 9 (by decide), hF30 10 (by decide), hF30 11 (by decide)]
          have w15 : M1 15 4 = 8 := by rw [hF30 15 (by decide)]; exact hwd
          have z1 : Z0a M1 := ⟨fun t q1 q2 => by rw [hF30 17 (by decide)]; exact hZ.1 t q1 q2, by rw [hF30 19 (by decide)]; exact hZ.2.1, by rw [hF30 20 (by decide)]; exact hZ.2.2⟩
          refine pw_aload0 C dX4_refresh_51 ?_
          refine g_24_6 C fl_X4_28 dX4_refresh_52 ?_
          refine pw_top C (nrB (cf M)) n6 ?_
          refine pw_if_eq (tgt := 70) C dX4_refresh_55 (by decide) (by omega) (fun h55 => ?_) (fun h55 => ?_)
          · exact pw_vretV C dX4_refresh_70 (⟨by
                  first
                    | exact ⟨n6, fun S q1 q2 => by rw [g S q1 (by omega)]; decide, fun _ S q1 q2 => g S q1 (by omega), fun q => absurd h55 q⟩
                    | (refine ⟨?_, ?_, fun q => absurd q h55, fun _ => ⟨?_, ?_, h2_67⟩⟩
                       · rw [hF67 24 (by decide), e24]; exact n6
                       · rw [hF67 26 (by decide)]; exact kr63
                       · rw [hF67 26 (by decide)]; exact hOK
                       · rw [hF67 26 (by decide)]; exact h1_67), by first | exact n0 | (rw [hF67 24 (by decide), e24]; exact n0), by first | exact w15 | (rw [hF67 15 (by decide), hF63 15 (by decide)]; exact h4_59), by first | exact z1 | exact ⟨fun t q1 q2 => by rw [hF67 17 (by decide), hF63 17 (by decide)]; exact h5_59.1 t q1 q2, by rw [hF67 19 (by decide), hF63 19 (by decide)]; exact h5_59.2.1, by rw [hF67 20 (by decide), hF63 20 (by decide)]; exact h5_59.2.2⟩, (Sm_trans Sm_refl hF30 (by decide))⟩)
          · have hw0 : 0 < M 6 0 := by
              rcases Int.lt_or_eq_of_le w_w.1 with q | q
              · exact q
              · refine absurd (?_ : nrB (cf M) = 0) h55
                show bsI (M 8) 1 (M 6 0) = 0
                rw [← q]; exact bsI_0
            refine pw_aload0 C dX4_refresh_58 ?_
            have nz59_6 : M1 6 = M 6 := (hF30 6 (by decide))
            have nz59_15 : M1 15 = M 15 := (hF30 15 (by decide))
            refine pw_cVv0 C (c_X4_lookAtAll _ K _ (by rw [ecf1]; exact hW) (w15) (z1) (by rw [hF30 6 (by decide)]; exact hw0) (fun S q1 q2 => g S q1 (by omega))) cb_X4_lookAtAll lay_24 kc_4 rfl ml_X4_49 dX4_refresh_59 (by decide) (Nat.le_of_ble_eq_true rfl) (fun M59 hQ => ?_)
            obtain ⟨h1_59, h2_59, h3_59, h4_59, h5_59, hF59⟩ := hQ
            rw [ecf1] at h1_59 h2_59
            refine pw_aload0 C dX4_refresh_62 ?_
            refine pw_cVv0 C (c_X4_holdSmallerSets _ K _ (h3_59)) cb_X4_holdSmallerSets lay_24 kc_4 rfl ml_X4_52 dX4_refresh_63 (by decide) (Nat.le_of_ble_eq_true rfl) (fun M63 hQ => ?_)
            obtain ⟨h1_63, hF63⟩ := hQ
            have hOK : KyOK (cf M) (M63 26) := Ky_low h1_59 h2_59 h1_63
            have kr63 := Low_rng h1_63 h3_59
            have e24 : M63 24 = M1 24 := (hF63 24 (by decide)).trans (hF59 24 (by decide))
            refine pw_aload0 C dX4_refresh_66 ?_
            have nz67_24 : M63 24 = M1 24 := ((hF63 24 (by decide)).trans (hF59 24 (by decide)))
            refine pw_cVv0 C (c_X4_coverAll _ K _ (Ky_mon hW kr63 hOK) (kr63) (by rw [e24, n6]; omega)) cb_X4_coverAll lay_24 kc_4 rfl ml_X4_55 dX4_refresh_67 (by decide) (Nat.le_of_ble_eq_true rfl) (fun M67 hQ => ?_)
            obtain ⟨h1_67, h2_67, hF67⟩ := hQ
            rw [e24, n6] at h1_67
            exact pw_vretV C dX4_refresh_70 (⟨by
                  first
                    | exact ⟨n6, fun S q1 q2 => by rw [g S q1 (by omega)]; decide, fun _ S q1 q2 => g S q1 (by omega), fun q => absurd h55 q⟩
                    | (refine ⟨?_, ?_, fun q => absurd q h55, fun _ => ⟨?_, ?_, h2_67⟩⟩
                       · rw [hF67 24 (by decide), e24]; exact n6
                       · rw [hF67 26 (by decide)]; exact kr63
                       · rw [hF67 26 (by decide)]; exact hOK
                       · rw [hF67 26 (by decide)]; exact h1_67), by first | exact n0 | (rw [hF67 24 (by decide), e24]; exact n0), by first | exact w15 | (rw [hF67 15 (by decide), hF63 15 (by decide)]; exact h4_59), by first | exact z1 | exact ⟨fun t q1 q2 => by rw [hF67 17 (by decide), hF63 17 (by decide)]; exact h5_59.1 t q1 q2, by rw [hF67 19 (by decide), hF63 19 (by decide)]; exact h5_59.2.1, by rw [hF67 20 (by decide), hF63 20 (by decide)]; exact h5_59.2.2⟩, (Sm_trans (Sm_trans (Sm_trans (Sm_trans Sm_refl hF30 (by decide)) hF59 (by decide)) hF63 (by decide)) hF67 (by decide))⟩)
        · refine pw_aload0 C dX4_refresh_37 ?_
          refine g_24_3 C fl_X4_19 dX4_refresh_38 ?_
          refine pw_iload1 C dX4_refresh_41 ?_
          refine pw_ldc C (z := 2147483647) (by decide) ct_X4_48 dX4_refresh_42 ?_
          refine pw_iastore C lay_26 (by omega) (by decide) dX4_refresh_44 ?_
          refine pw_iinc1 C (by decide) dX4_refresh_45 ?_
          refine pw_goto (tgt := 30) C dX4_refresh_48 (by decide) ?_
          exact ih_30 _ _ (Sm_up (Sm_trans Sm_refl hF30 (by decide)) (by decide)) (by omega) (by rw [rd_nc (by decide)]; exact n6) (by rw [rd_nc (by decide)]; exact n0) (by
                intro j q1 q2
                by_cases e : j = i
                · rw [e]; exact rd_eq
                · rw [rd_ne e]; exact g j q1 (by omega)) (by omega)
    exact cut_30 _ _ _ (Sm_up (Sm_up Sm_refl (by decide)) (by decide)) (by omega) (by exact rd_eq) (by rw [rd_ne (by decide)]; exact rd_eq) (by intro j q1 q2; omega) (Nat.lt_succ_self _)
  · exact pw_vretV C dX4_refresh_7 (⟨by exact hfr.elim (fun h => absurd h h4) (fun h => h.2), by exact hfr.elim (fun h => absurd h h4) (fun h => h.1), by exact hwd, by exact hZ, Sm_refl⟩)
