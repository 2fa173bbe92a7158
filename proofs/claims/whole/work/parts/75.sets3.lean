set_option maxHeartbeats 4000000 in
set_option maxRecDepth 100000 in
theorem c_X4_lookAtAll (l : Launch) (K : KX) (M : Mem) (hW : WfK (cf M)) (hwd : M 15 4 = 8) (hZ : Z0a M) (hn : 0 < M 6 0) (hkN : ∀ S, 0 ≤ S → S < 256 → M 26 S = 2147483647) : MCv l K LAY yX4_lookAtAll cX4_lookAtAll 4 none 4 [rV K 24] M (fun M' => (KyA (cf M) (M' 26) (nK (cf M))) ∧ (KyB (cf M) (M' 26) (nK (cf M))) ∧ ((∀ S, 0 ≤ S → S < 256 → 0 ≤ M' 26 S ∧ M' 26 S ≤ 2147483647)) ∧ (M' 15 4 = 8) ∧ (Z0a M') ∧ Sm [12, 13, 15, 16, 17, 18, 19, 20, 26, 28] M M') := by
  refine mcv_intro RX4 rfl [some (rV K 24), none, none, none] rfl (by decide +kernel) (cat_r cat_nil) (Nat.le_of_ble_eq_true rfl) (fun X hX C => ?_)
  subst hX
  have w_let := wf_let hW
  have w_sw := wf_sw hW
  have w_dr := wf_dr hW
  have w_gp := wf_gp hW
  have w_w := wf_w hW
  have w_l := wf_l hW
  have w_l1 := wf_l1 hW
  have w_t := wf_t hW
  have hK0 := nK_pos hW
  have hK1 := nK_le hW
  have m1 := mny_rng (p := M 8) (v := 1) (M 6 0) w_w.1
  have m2 := mny_rng (p := M 8) (v := 2) (M 6 0) w_w.1
  have m3 := mny_two (p := M 8) (u := 1) (v := 2) (by decide) (M 6 0) w_w.1
  refine pw_aload0 C dX4_lookAtAll_0 ?_
  refine g_24_2 C fl_X4_32 dX4_lookAtAll_1 ?_
  refine g_12_1 C fl_X4_58 dX4_lookAtAll_4 ?_
  refine pw_astore1 C (by decide) dX4_lookAtAll_7 ?_
  refine pw_aload0 C dX4_lookAtAll_8 ?_
  refine g_24_2 C fl_X4_32 dX4_lookAtAll_9 ?_
  refine pw_cVi0 C (c_X0_begin _ K _ (hW) (hwd)) cb_X0_begin lay_12 kc_0 rfl ml_X4_62 dX4_lookAtAll_12 (by decide) (Nat.le_of_ble_eq_true rfl) (fun r12 M12 hQ => ?_)
  obtain ⟨hr_12, h1_12, h2_12, hF12⟩ := hQ
  rw [hr_12]
  refine pw_top C (nK (cf M)) rfl ?_
  have n12 : M12 12 2 = (mny (M 8) 1 (M 6 0)) := by have := h1_12.2.2.1; rw [hF12 8 (by decide), hF12 6 (by decide)] at this; exact this
  refine pw_istore2 C (by decide) dX4_lookAtAll_15 ?_
  refine pw_iconst C dX4_lookAtAll_16 ?_
  refine pw_istore3 C (by decide) dX4_lookAtAll_17 ?_
  have cut_18 : ∀ (fu : Nat) (i : Int) (M2 : Mem), Sm [28] M12 M2 → (0 ≤ i ∧ i ≤ (mny (M 8) 1 (M 6 0))) → (∀ j, 0 ≤ j → j < i → M2 28 j = j) → ((mny (M 8) 1 (M 6 0)) - i).toNat < fu → PW X K LAY 4 (0, 0) (Zv X K LAY (fun M' => (KyA (cf M) (M' 26) (nK (cf M))) ∧ (KyB (cf M) (M' 26) (nK (cf M))) ∧ ((∀ S, 0 ≤ S → S < 256 → 0 ≤ M' 26 S ∧ M' 26 S ≤ 2147483647)) ∧ (M' 15 4 = 8) ∧ (Z0a M') ∧ Sm [12, 13, 15, 16, 17, 18, 19, 20, 26, 28] M M')) 18 [some (rV K 24), some (rV K 15), some (iV (nK (cf M))), some (iV i)] [] M2 := by
    intro fu
    induction fu with
    | zero => intro _ _ _ _ _ hm; exact absurd hm (Nat.not_lt_zero _)
    | succ fu ih =>
      intro i M2 hF18 hi g hm
      have ih_18 := ih
      have hm_18 := hm
      refine pw_iload3 C dX4_lookAtAll_18 ?_
      refine pw_aload0 C dX4_lookAtAll_19 ?_
      refine g_24_2 C fl_X4_32 dX4_lookAtAll_20 ?_
      refine g_12_2 C fl_X4_66 dX4_lookAtAll_23 ?_
      refine pw_top C _ (congrFun (hF18 12 (by decide)) _) ?_
      refine pw_top C (mny (M 8) 1 (M 6 0)) n12 ?_
      refine pw_icmp_ge (tgt := 42) C dX4_lookAtAll_26 (by decide) (by omega) (by omega) (fun h26 => ?_) (fun h26 => ?_)
      · refine pw_iconst C dX4_lookAtAll_42 ?_
        refine pw_istore3 C (by decide) dX4_lookAtAll_43 ?_
        have cut_44 : ∀ (fu : Nat) (lf pl : Int) (M1 : Mem), Sm [12, 13, 15, 16, 17, 18, 19, 20, 26, 28] M M1 → (0 ≤ lf ∧ lf ≤ nK (cf M)) → (CdR M1) → (KyA (cf M) (M1 26) (nK (cf M) - lf)) → (KyB (cf M) (M1 26) (nK (cf M) - lf)) → ((∀ S, 0 ≤ S → S < 256 → 0 ≤ M1 26 S ∧ M1 26 S ≤ 2147483647)) → (PermO (M1 28) (mny (M 8) 1 (M 6 0))) → (Z0a M1) → ((lf = 0 ∧ -1 ≤ pl ∧ pl ≤ 7) ∨ (1 ≤ lf ∧ (0 ≤ pl ∧ pl ≤ M 6 1) ∧ (∀ i, 0 ≤ i → i < M 6 1 → M1 16 i = rwX (cf M) (nK (cf M) - lf) i) ∧ WSa M1 pl)) → (lf).toNat < fu → PW X K LAY 4 (0, 0) (Zv X K LAY (fun M' => (KyA (cf M) (M' 26) (nK (cf M))) ∧ (KyB (cf M) (M' 26) (nK (cf M))) ∧ ((∀ S, 0 ≤ S → S < 256 → 0 ≤ M' 26 S ∧ M' 26 S ≤ 2147483647)) ∧ (M' 15 4 = 8) ∧ (Z0a M') ∧ Sm [12, 13, 15, 16, 17, 18, 19, 20, 26, 28] M M')) 44 [some (rV K 24), some (rV K 15), some (iV lf), some (iV pl)] [] M1 := by
          intro fu
          induction fu with
          | zero => intro _ _ _ _ _ _ _ _ _ _ _ _ hm; exact absurd hm (Nat.not_lt_zero _)
          | succ fu ih =>
            intro lf pl M1 hF44 hlf hC hkA hkB hkr hPm hZ1 hR hm
            have ih_44 := ih
            have hm_44 := hm
            have hplr : -1 ≤ pl ∧ pl ≤ 7 := by rcases hR with q | q; omega; omega
            refine pw_iload2 C dX4_lookAtAll_44 ?_
            refine pw_if_le (tgt := 101) C dX4_lookAtAll_45 (by decide) (by omega) (fun h45 => ?_) (fun h45 => ?_)
            · exact pw_vretV C dX4_lookAtAll_101 (⟨by rw [show nK (cf M) = nK (cf M) - lf by omega]; exact hkA, by rw [show nK (cf M) = nK (cf M) - lf by omega]; exact hkB, by exact hkr, by exact hC.1, by exact hZ1, (Sm_trans Sm_refl hF44 (by decide))⟩)
            · have hR9 := hR.elim (fun h => absurd h.1 (by omega)) id
              obtain ⟨hl1, hp1, hrw, hws⟩ := hR9
              refine pw_iload3 C dX4_lookAtAll_48 ?_
              refine pw_if_lt (tgt := 101) C dX4_lookAtAll_49 (by decide) (by omega) (fun h49 => ?_) (fun h49 => ?_)
              · exfalso; omega
              · have ecf_M1 : cf M1 = cf M := by unfold cf; rw [hF44 1 (by decide), hF44 2 (by decide), hF44 6 (by decide), hF44 7 (by decide), hF44 8 (by decide), hF44 9 (by decide), hF44 10 (by decide), hF44 11 (by decide)]
                have e6 : M1 6 = M 6 := hF44 6 (by decide)
                have e15 : M1 15 0 = M 6 1 := by have := hC.2.1; rw [e6] at this; exact this
                have hR1 : WRa M1 := CdR_WR (by rw [ecf_M1]; exact hW) hC (by rw [e6, hF44 1 (by decide)]; intro i q1 q2; rw [hrw i q1 q2]; exact dg_rng (by show (0 : Int) < M 1 0; omega))
                refine pw_aload1 C dX4_lookAtAll_52 ?_
                refine pw_iload3 C dX4_lookAtAll_53 ?_
                refine pw_cVv1 C (c_X8_putFrom _ K _ _ (hR1) (by rw [e15]; omega) (hws)) cb_X8_putFrom lay_15 kc_8 rfl ml_X4_69 dX4_lookAtAll_54 (by decide) (Nat.le_of_ble_eq_true rfl) (fun M54 hQ => ?_)
                obtain ⟨h1_54, h2_54, hF54⟩ := hQ
                have ecf_M54 : cf M54 = cf M := by unfold cf; rw [hF54 1 (by decide), hF44 1 (by decide), hF54 2 (by decide), hF44 2 (by decide), hF54 6 (by decide), hF44 6 (by decide), hF54 7 (by decide), hF44 7 (by decide), hF54 8 (by decide), hF44 8 (by decide), hF54 9 (by decide), hF44 9 (by decide), hF54 10 (by decide), hF44 10 (by decide), hF54 11 (by decide), hF44 11 (by decide)]
                have eR : M54 16 = M1 16 := hF54 16 (by decide)
                have hC54 : CdR M54 := by exact CdR_c (hF54 _ (by decide)) (hF54 _ (by decide)) (hF54 _ (by decide)) (hF54 _ (by decide)) (hF54 _ (by decide)) (hF54 _ (by decide)) (hF54 _ (by decide)) (hF54 _ (by decide)) hC
                have e6 : M54 6 = M 6 := (hF54 6 (by decide)).trans (hF44 6 (by decide))
                rw [e15] at h1_54
                have hat := at_row (M := M54) (k := nK (cf M) - lf) (by rw [ecf_M54]; exact hW) hC54 (by rw [e6, ecf_M54, eR]; exact hrw) (by rw [e6]; exact h1_54)
                rw [ecf_M54, e6] at hat
                obtain ⟨t1, t2, t3, t4, t5, t6, t7⟩ := hat
                obtain ⟨c1, c2, c3, c4, c5, c6⟩ := id hC54
                rw [e6] at c2 c4
                have e8 : M54 8 = M 8 := (hF54 8 (by decide)).trans (hF44 8 (by decide))
                rw [e8, e6] at c3
                have e1 : M54 1 = M 1 := (hF54 1 (by decide)).trans (hF44 1 (by decide))
                rw [e8, e1] at c4
                have hT8 : M54 12 2 ≤ M54 15 1 ∧ M54 15 1 ≤ 8 := by rw [c4]; split <;> omega
                have e26 : M54 26 = M1 26 := hF54 26 (by decide)
                have e28 : M54 28 = M1 28 := hF54 28 (by decide)
                have hZ54 : Z0a M54 := ⟨fun t q1 q2 => by rw [h2_54.1 t q2]; exact hZ1.1 t q1 q2, by rw [h2_54.2.1]; exact hZ1.2.1, by rw [h2_54.2.2]; exact hZ1.2.2⟩
                have hpkr : 0 ≤ M54 19 (M54 15 0) ∧ M54 19 (M54 15 0) ≤ 16383 := by rw [t6]; exact vl4_rng hW _
                have hDt : ∀ t, 0 ≤ t → t < mny (kP (cf M)) 1 (kW (cf M)) → M54 17 (M54 15 0 * 8 + t) = Dw (cf M) (rwX (cf M) (nK (cf M) - lf)) (wof (cf M) t) := fun t q1 q2 => by
                  have h5 := wof_t (c := cf M) w_w.1 ⟨q1, q2⟩
                  have h6 := t2 (wof (cf M) t) h5.1.1 h5.1.2 (by rw [e8]; exact h5.2.1)
                  rw [e8] at h6
                  have h7 : mny (M 8) 1 (wof (cf M) t) = t := h5.2.2
                  rw [h7] at h6
                  exact h6
                have hbt : ∀ t, 0 ≤ t → t < M54 12 2 → M54 13 t = 1 * 2 ^ (wof (cf M) t).toNat := fun t q1 q2 => by
                  have h5 := wof_t (c := cf M) w_w.1 (t := t) ⟨q1, by rw [c3] at q2; exact q2⟩
                  have h6 := (c5 (wof (cf M) t) h5.1.1 (by rw [e6]; exact h5.1.2) (by rw [e8]; exact h5.2.1)).1
                  rw [e8] at h6
                  have h7 : mny (M 8) 1 (wof (cf M) t) = t := h5.2.2
                  rw [h7] at h6
                  exact h6
                have hwr : ∀ t, 0 ≤ t → t < M54 12 2 → 0 ≤ wof (cf M) t ∧ wof (cf M) t < 8 := fun t q1 q2 => by
                  have h5 := wof_t (c := cf M) w_w.1 (t := t) ⟨q1, by rw [c3] at q2; exact q2⟩
                  have h8 : kW (cf M) = M 6 0 := rfl
                  omega
                have cut_84 : ∀  (M3 : Mem), Sm [12, 13, 15, 16, 17, 18, 19, 20, 26, 28] M M3 → (CdR M3) → ((∀ i, 0 ≤ i → i < M 6 1 → M3 16 i = rwX (cf M) (nK (cf M) - lf) i)) → (WSa M3 (M 6 1)) → (KyA (cf M) (M3 26) (nK (cf M) - lf + 1)) → (KyB (cf M) (M3 26) (nK (cf M) - lf + 1)) → ((∀ S, 0 ≤ S → S < 256 → 0 ≤ M3 26 S ∧ M3 26 S ≤ 2147483647)) → (PermO (M3 28) (mny (M 8) 1 (M 6 0))) → (Z0a M3) → PW X K LAY 4 (0, 0) (Zv X K LAY (fun M' => (KyA (cf M) (M' 26) (nK (cf M))) ∧ (KyB (cf M) (M' 26) (nK (cf M))) ∧ ((∀ S, 0 ≤ S → S < 256 → 0 ≤ M' 26 S ∧ M' 26 S ≤ 2147483647)) ∧ (M' 15 4 = 8) ∧ (Z0a M') ∧ Sm [12, 13, 15, 16, 17, 18, 19, 20, 26, 28] M M')) 84 [some (rV K 24), some (rV K 15), some (iV lf), some (iV pl)] [] M3 := by
                  intro M3 hF84 dC dR dS dA dB dr dP dZ
                  have e62 : M3 6 = M 6 := hF84 6 (by decide)
                  have d15 : M3 15 0 = M 6 1 := by have := dC.2.1; rw [e62] at this; exact this
                  have e12 : M3 1 = M 1 := hF84 1 (by decide)
                  refine pw_aload1 C dX4_lookAtAll_84 ?_
                  refine pw_aload1 C dX4_lookAtAll_85 ?_
                  refine g_15_0 C fl_X4_93 dX4_lookAtAll_86 ?_
                  refine pw_top C (M 6 1) d15 ?_
                  refine pw_iconst C dX4_lookAtAll_89 ?_
                  refine pw_isub C dX4_lookAtAll_90 ?_
                  have nz91_1 : M3 1 = M 1 := (hF84 1 (by decide))
                  refine pw_cVi1 C (c_X8_advance _ K _ _ (by rw [e12]; omega) (by omega) (by intro i q1 q2; rw [e12, dR i q1 (by omega)]; exact dg_rng (by show (0 : Int) < M 1 0; omega))) cb_X8_advance lay_15 kc_8 rfl ml_X4_96 dX4_lookAtAll_91 (by decide) (Nat.le_of_ble_eq_true rfl) (fun r91 M91 hQ => ?_)
                  obtain ⟨hp_91, hF91⟩ := hQ
                  refine pw_istore3 C (by decide) dX4_lookAtAll_94 ?_
                  refine pw_iinc2 C (by decide) dX4_lookAtAll_95 ?_
                  refine pw_goto (tgt := 44) C dX4_lookAtAll_98 (by decide) ?_
                  have hav := adv_dg (N := M 1 0) (n := M 6 1) (k := nK (cf M) - lf) (r := r91) (x := M3 16) (y := M91 16) (by omega) (by omega) (by constructor; omega; show _ < nK (cf M); omega) dR (by rw [e12, d15] at hp_91; exact hp_91.elim (fun h => Or.inl ⟨h.1, h.2.1⟩) Or.inr)
                  have hnk : nK (cf M) = M 1 0 ^ (M 6 1).toNat := rfl
                  exact ih_44 _ _ _ (Sm_trans (Sm_trans Sm_refl hF84 (by decide)) hF91 (by decide)) (by omega) (by exact CdR_c (hF91 _ (by decide)) (hF91 _ (by decide)) (hF91 _ (by decide)) (hF91 _ (by decide)) (hF91 _ (by decide)) (hF91 _ (by decide)) (hF91 _ (by decide)) (hF91 _ (by decide)) dC) (by rw [show nK (cf M) - (lf + -1) = nK (cf M) - lf + 1 by omega, hF91 26 (by decide)]; exact dA) (by rw [show nK (cf M) - (lf + -1) = nK (cf M) - lf + 1 by omega, hF91 26 (by decide)]; exact dB) (by rw [hF91 26 (by decide)]; exact dr) (by rw [hF91 28 (by decide)]; exact dP) (by exact ⟨fun t q1 q2 => by rw [hF91 17 (by decide)]; exact dZ.1 t q1 q2, by rw [hF91 19 (by decide)]; exact dZ.2.1, by rw [hF91 20 (by decide)]; exact dZ.2.2⟩) (by
                        rcases hav with q | q
                        · exact Or.inl ⟨by omega, by omega, by omega⟩
                        · refine Or.inr ⟨by omega, by omega, fun i q1 q2 => ?_, WSa_adv dS hF91 (by omega) q.2.2.2.2⟩
                          rw [q.2.2.2.1 i q1 q2, show nK (cf M) - (lf + -1) = nK (cf M) - lf + 1 by omega]
                          rfl) (by omega)
                refine pw_aload0 C dX4_lookAtAll_57 ?_
                refine g_24_2 C fl_X4_32 dX4_lookAtAll_58 ?_
                have nz61_1 : M54 1 = M 1 := ((hF54 1 (by decide)).trans (hF44 1 (by decide)))
                have nz61_12 : M54 12 = M1 12 := (hF54 12 (by decide))
                have nz61_15 : M54 15 = M1 15 := (hF54 15 (by decide))
                refine pw_cVi0 C (c_X0_isFarEnough _ K _ (c1) (by omega) (by omega) (by rw [e1]; omega) (t1)) cb_X0_isFarEnough lay_12 kc_0 rfl ml_X4_75 dX4_lookAtAll_61 (by decide) (Nat.le_of_ble_eq_true rfl) (fun r61 M61 hQ => ?_)
                obtain ⟨hp_61, hMe⟩ := hQ
                replace hMe := hMe.symm
                subst hMe
                have hr61 : r61 = 0 ∨ r61 = 1 := hp_61.elim (fun h => Or.inr h.2) (fun h => Or.inl h.2)
                refine pw_if_eq (tgt := 84) C dX4_lookAtAll_64 (by decide) (by omega) (fun h64 => ?_) (fun h64 => ?_)
                · have hcd : cdK (cf M) (nK (cf M) - lf) = false := by
                    rcases hp_61 with q | q
                    · omega
                    · rw [e1] at q; cases hq : cdK (cf M) (nK (cf M) - lf) with
                      | false => rfl
                      | true => rw [e1] at t3; exact absurd (t3.mpr hq) q.1
                  exact cut_84 _ (Sm_trans (Sm_trans Sm_refl hF44 (by decide)) hF54 (by decide)) (by exact hC54) (by rw [eR]; exact hrw) (by exact h1_54) (by rw [e26]; exact KyA_no hkA) (by rw [e26]; exact KyB_no hkB hcd) (by rw [e26]; exact hkr) (by rw [e28]; exact hPm) (by exact hZ54)
                · have hcd : cdK (cf M) (nK (cf M) - lf) = true := by
                    rcases hp_61 with q | q
                    · rw [e1] at q t3; exact t3.mp q.1
                    · omega
                  refine pw_aload0 C dX4_lookAtAll_67 ?_
                  refine pw_aload1 C dX4_lookAtAll_68 ?_
                  refine g_15_3 C fl_X4_79 dX4_lookAtAll_69 ?_
                  refine pw_aload1 C dX4_lookAtAll_72 ?_
                  refine pw_cVi0 C (c_X8_whole _ K _ ) cb_X8_whole lay_15 kc_8 rfl ml_X4_82 dX4_lookAtAll_73 (by decide) (Nat.le_of_ble_eq_true rfl) (fun r73 M73 hQ => ?_)
                  obtain ⟨rfl, hMe⟩ := hQ
                  replace hMe := hMe.symm
                  subst hMe
                  refine pw_top C (M54 15 0 * 8) (by rw [c1]) ?_
                  have nz76_12 : M54 12 = M1 12 := (hF54 12 (by decide))
                  have nz76_28 : M54 28 = M1 28 := (hF54 28 (by decide))
                  refine pw_cVv2 C (c_X4_sortByDistance _ K _ _ (by omega) (by omega) (by rw [e28, c3]; exact hPm) (fun t q1 q2 => t1 t q1 (by omega))) cb_X4_sortByDistance lay_24 kc_4 rfl ml_X4_85 dX4_lookAtAll_76 (by decide) (Nat.le_of_ble_eq_true rfl) (fun M76 hQ => ?_)
                  obtain ⟨h1_76, h2_76, hF76⟩ := hQ
                  refine pw_aload0 C dX4_lookAtAll_79 ?_
                  refine pw_aload1 C dX4_lookAtAll_80 ?_
                  have nz81_12 : M76 12 = M1 12 := ((hF76 12 (by decide)).trans (hF54 12 (by decide)))
                  have nz81_13 : M76 13 = M1 13 := ((hF76 13 (by decide)).trans (hF54 13 (by decide)))
                  have nz81_15 : M76 15 = M1 15 := ((hF76 15 (by decide)).trans (hF54 15 (by decide)))
                  have nz81_17 : M76 17 = M54 17 := (hF76 17 (by decide))
                  have nz81_19 : M76 19 = M54 19 := (hF76 19 (by decide))
                  have nz81_26 : M76 26 = M1 26 := ((hF76 26 (by decide)).trans (hF54 26 (by decide)))
                  refine pw_cVv1 C (c_X4_holdNearest _ K _ (wof (cf M)) (by rw [hF76 15 (by decide)]; exact c1) (by rw [hF76 15 (by decide)]; omega) (by rw [hF76 12 (by decide)]; omega) (by rw [hF76 12 (by decide)]; exact h1_76) (by rw [hF76 12 (by decide), hF76 15 (by decide), hF76 17 (by decide)]; exact h2_76) (by rw [hF76 12 (by decide), hF76 15 (by decide), hF76 17 (by decide)]; exact fun t q1 q2 => t1 t q1 (by omega)) (by rw [hF76 12 (by decide)]; exact hwr) (by rw [hF76 12 (by decide), hF76 13 (by decide)]; exact hbt) (by rw [hF76 19 (by decide), hF76 15 (by decide)]; exact hpkr) (by rw [hF76 26 (by decide), e26]; exact hkr)) cb_X4_holdNearest lay_24 kc_4 rfl ml_X4_89 dX4_lookAtAll_81 (by decide) (Nat.le_of_ble_eq_true rfl) (fun M81 hQ => ?_)
                  obtain ⟨h1_81, h2_81, h3_81, h4_81, hF81⟩ := hQ
                  rw [hF76 26 (by decide), hF76 15 (by decide), hF76 17 (by decide), hF76 12 (by decide), hF76 19 (by decide), t6, c3] at h1_81
                  rw [hF76 26 (by decide)] at h2_81
                  obtain ⟨A, hA, hA3, hA4⟩ := h3_81
                  rw [hF76 15 (by decide), hF76 17 (by decide), hF76 12 (by decide), hF76 19 (by decide), t6, c3] at hA3
                  rw [hF76 12 (by decide), c3] at hA4
                  rw [c3] at h1_76
                  have hyes := Ky_yes (c := cf M) hW (by rw [e26]; exact hkA) (by rw [e26]; exact hkB) (by omega) hcd hDt h1_76 h1_81 h2_81 hA3 hA4
                  exact cut_84 _ (Sm_trans (Sm_trans (Sm_trans (Sm_trans Sm_refl hF44 (by decide)) hF54 (by decide)) hF76 (by decide)) hF81 (by decide)) (by exact CdR_c ((hF81 _ (by decide)).trans (hF76 _ (by decide))) ((hF81 _ (by decide)).trans (hF76 _ (by decide))) ((hF81 _ (by decide)).trans (hF76 _ (by decide))) ((hF81 _ (by decide)).trans (hF76 _ (by decide))) ((hF81 _ (by decide)).trans (hF76 _ (by decide))) ((hF81 _ (by decide)).trans (hF76 _ (by decide))) ((hF81 _ (by decide)).trans (hF76 _ (by decide))) ((hF81 _ (by decide)).trans (hF76 _ (by decide))) hC54) (by rw [hF81 16 (by decide), hF76 16 (by decide), eR]; exact hrw) (by unfold WSa wDa at h1_54 ⊢; rw [hF81 15 (by decide), hF81 16 (by decide), hF81 17 (by decide), hF81 18 (by decide), hF81 19 (by decide), hF81 20 (by decide), hF81 2 (by decide), hF81 1 (by decide), hF76 15 (by decide), hF76 16 (by decide), hF76 17 (by decide), hF76 18 (by decide), hF76 19 (by decide), hF76 20 (by decide), hF76 2 (by decide), hF76 1 (by decide)]; exact h1_54) (by exact hyes.1) (by exact hyes.2) (by exact h4_81) (by rw [hF81 28 (by decide)]; exact h1_76) (by exact ⟨fun t q1 q2 => by rw [hF81 17 (by decide), hF76 17 (by decide)]; exact hZ54.1 t q1 q2, by rw [hF81 19 (by decide), hF76 19 (by decide)]; exact hZ54.2.1, by rw [hF81 20 (by decide), hF76 20 (by decide)]; exact hZ54.2.2⟩)
        exact cut_44 _ _ _ _ (Sm_trans (Sm_trans Sm_refl hF12 (by decide)) hF18 (by decide)) (by omega) (by exact CdR_c (hF18 _ (by decide)) (hF18 _ (by decide)) (hF18 _ (by decide)) (hF18 _ (by decide)) (hF18 _ (by decide)) (hF18 _ (by decide)) (hF18 _ (by decide)) (hF18 _ (by decide)) h1_12) (by rw [show nK (cf M) - nK (cf M) = 0 by omega]; intro S q1 q2; left; rw [hF18 26 (by decide), hF12 26 (by decide)]; exact hkN S q1 q2) (by rw [show nK (cf M) - nK (cf M) = 0 by omega]; intro k q1 q2; omega) (by intro S q1 q2; rw [hF18 26 (by decide), hF12 26 (by decide), hkN S q1 q2]; decide) (by exact ⟨fun j q1 q2 => by rw [g j q1 (by omega)]; exact ⟨q1, q2⟩, fun t q1 q2 => ⟨t, q1, q2, g t q1 (by omega)⟩⟩) (by
              refine ⟨fun t q1 q2 => ?_, ?_, ?_⟩
              · rw [hF18 17 (by decide), hF12 17 (by decide)]; exact hZ.1 t q1 q2
              · rw [hF18 19 (by decide), hF12 19 (by decide)]; exact hZ.2.1
              · rw [hF18 20 (by decide), hF12 20 (by decide)]; exact hZ.2.2) (by
              refine Or.inr ⟨by omega, by omega, fun j q1 q2 => ?_, WSa_0 ?_ ?_⟩
              · rw [hF18 16 (by decide), h2_12 j q1 q2, show nK (cf M) - nK (cf M) = 0 by omega]; exact dg_zero.symm
              · have c4 := h1_12.2.2.2.1
                rw [n12, hF12 8 (by decide), hF12 6 (by decide), hF12 1 (by decide)] at c4
                rw [hF18 15 (by decide), c4]; split <;> omega
              · refine ⟨fun t q1 q2 => ?_, ?_, ?_⟩
                · rw [hF18 17 (by decide), hF12 17 (by decide)]; exact hZ.1 t q1 q2
                · rw [hF18 19 (by decide), hF12 19 (by decide)]; exact hZ.2.1
                · rw [hF18 20 (by decide), hF12 20 (by decide)]; exact hZ.2.2) (Nat.lt_succ_self _)
      · refine pw_aload0 C dX4_lookAtAll_29 ?_
        refine g_24_5 C fl_X4_25 dX4_lookAtAll_30 ?_
        refine pw_iload3 C dX4_lookAtAll_33 ?_
        refine pw_iload3 C dX4_lookAtAll_34 ?_
        refine pw_iastore C lay_28 (by omega) (by decide) dX4_lookAtAll_35 ?_
        refine pw_iinc3 C (by decide) dX4_lookAtAll_36 ?_
        refine pw_goto (tgt := 18) C dX4_lookAtAll_39 (by decide) ?_
        exact ih_18 _ _ (Sm_up (Sm_trans Sm_refl hF18 (by decide)) (by decide)) (by omega) (by
              intro j q1 q2
              by_cases e : j = i
              · rw [e]; exact rd_eq
              · rw [rd_ne e]; exact g j q1 (by omega)) (by omega)
  exact cut_18 _ _ _ Sm_refl (by omega) (by intro j q1 q2; omega) (Nat.lt_succ_self _)
