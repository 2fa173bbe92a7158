def LtI (c : Cfg) (rr i r n : Int) : Prop := (0 ≤ r ∧ r < 16) ∧ ∀ b : Nat, b < 4 → (r.toNat.testBit b = true ↔ ∃ j, (0 ≤ j ∧ j < n) ∧ (cdK c j && decide (rdK c j ≤ rr)) = true ∧ rwX c j i = (b : Int))
theorem LtI_0 {c : Cfg} {rr i : Int} : LtI c rr i 0 0 := by
  refine ⟨by decide, fun b _ => ?_⟩
  simp
  intro j q1 q2
  omega
theorem LtI_no {c : Cfg} {rr i r n : Int} (h : LtI c rr i r n) (hn : ¬ (cdK c n && decide (rdK c n ≤ rr)) = true) : LtI c rr i r (n + 1) := by
  refine ⟨h.1, fun b hb => ?_⟩
  rw [h.2 b hb]
  constructor
  · rintro ⟨j, z1, z2⟩; exact ⟨j, by omega, z2⟩
  · rintro ⟨j, z1, z2, z3⟩
    by_cases e : j = n
    · rw [e] at z2; exact absurd z2 hn
    · exact ⟨j, by omega, z2, z3⟩
theorem LtI_yes {c : Cfg} {rr i r n : Int} (hW : WfK c) (h : LtI c rr i r n) (h0 : 0 ≤ n) (hy : (cdK c n && decide (rdK c n ≤ rr)) = true) : LtI c rr i (((r.toNat ||| (1 * 2 ^ (rwX c n i).toNat : Int).toNat : Nat) : Int)) (n + 1) := by
  have hx := rwX_rng hW n i
  have e : ((1 * 2 ^ (rwX c n i).toNat : Int)).toNat = 2 ^ (rwX c n i).toNat := by
    rw [Int.one_mul, show ((2 : Int) ^ (rwX c n i).toNat) = ((2 ^ (rwX c n i).toNat : Nat) : Int) by rw [Int.natCast_pow]; rfl]
    rfl
  rw [e]
  have hlt : 2 ^ (rwX c n i).toNat < 2 ^ 4 := Nat.pow_lt_pow_right (by decide) (by omega)
  have h1 := h.1
  refine ⟨⟨by omega, ?_⟩, fun b hb => ?_⟩
  · have : r.toNat ||| 2 ^ (rwX c n i).toNat < 2 ^ 4 := Nat.or_lt_two_pow (by omega) hlt
    omega
  · rw [Int.toNat_natCast, Nat.testBit_or, Bool.or_eq_true, h.2 b hb, Nat.testBit_two_pow, decide_eq_true_eq]
    constructor
    · rintro (⟨j, z1, z2⟩ | z)
      · exact ⟨j, by omega, z2⟩
      · exact ⟨n, by omega, hy, by omega⟩
    · rintro ⟨j, z1, z2, z3⟩
      by_cases g : j = n
      · right; rw [g] at z3; omega
      · exact Or.inl ⟨j, by omega, z2, z3⟩
set_option maxHeartbeats 4000000 in
set_option maxRecDepth 100000 in
theorem c_X11_lettersAt (l : Launch) (K : KX) (M : Mem) (r0 i : Int) (hW : WfK (cfM M)) (hKn : M 43 13 = 0 ∨ (M 43 13 = 1 ∧ KnOK (cfM M) M)) (hr : -2147483648 ≤ r0 ∧ r0 ≤ 2147483647) (hi : -2147483648 ≤ i ∧ i ≤ 2147483647) : MCi l K LAY yX11_lettersAt cX11_lettersAt 5 (some .int) 6 [rV K 43, iV r0, iV i] M (fun r M' => (PLt (cfM M) r0 i r) ∧ (M' 43 0 = 0) ∧ (M' 43 13 = 0 ∨ (M' 43 13 = 1 ∧ KnOK (cfM M) M')) ∧ Sm [43, 51, 52, 53] M M' ∧ Fm [0, 13] M M') := by
  refine mci_intro RX11 rfl [some (rV K 43), some (iV r0), some (iV i), none, none] rfl (by decide +kernel) (cat_r (cat_i (cat_i cat_nil))) (Nat.le_of_ble_eq_true rfl) (fun X hX C => ?_)
  subst hX
  have w_let := wm_let hW
  have w_sw := wm_sw hW
  have w_dr := wm_dr hW
  have w_gp := wm_gp hW
  have w_w := wm_w hW
  have w_l := wm_l hW
  have w_l1 := wm_l1 hW
  have w_t := wm_t hW
  have hK0 := nK_pos hW
  have hK1 := nK_le hW
  have ec0 : cfM (up2 M 43 0 0) = cfM M := cfM_e (rd_ne (by decide)) (rd_ne (by decide)) (rd_ne (by decide)) (rd_ne (by decide)) (rd_ne (by decide)) (rd_ne (by decide)) (rd_ne (by decide)) (up2_ne (by decide)) (up2_ne (by decide)) (up2_ne (by decide)) (up2_ne (by decide)) (up2_ne (by decide))
  refine pw_aload0 C dX11_lettersAt_0 ?_
  refine pw_iconst C dX11_lettersAt_1 ?_
  refine p_43_0 C fl_X11_1 dX11_lettersAt_2 ?_
  refine pw_aload0 C dX11_lettersAt_5 ?_
  refine pw_iload1 C dX11_lettersAt_6 ?_
  refine pw_cVi1 C (c_X11_isAsked _ K _ _ (by rw [ec0]; exact hW) (hr)) cb_X11_isAsked lay_43 kc_11 rfl ml_X11_163 dX11_lettersAt_7 (by decide) (Nat.le_of_ble_eq_true rfl) (fun r7 M7 hQ => ?_)
  obtain ⟨rfl, hMe⟩ := hQ
  replace hMe := hMe.symm
  subst hMe
  rw [ec0]
  refine pw_if_eq (tgt := 25) C dX11_lettersAt_10 (by decide) (by split <;> omega) (fun h10 => ?_) (fun h10 => ?_)
  · have e10 : ¬ ((0 ≤ r0 ∧ r0 ≤ 63) ∧ nrB (cfM M) ≠ 0) := fun h => by rw [if_pos h] at h10; omega
    refine pw_iconst C dX11_lettersAt_25 ?_
    exact pw_iretI C dX11_lettersAt_26 (⟨by first | exact Or.inr ⟨fun h => e10 ⟨h.1, h.2.1⟩, rfl⟩ | exact Or.inr ⟨fun h => by have := h.2.2; have h9 : kL (cfM M) = M 43 7 := rfl; omega, rfl⟩, by exact rd_eq, by rw [rd_ne (by decide)]; exact hKn.elim Or.inl (fun h => Or.inr ⟨h.1, KnOK_c (up2_ne (by decide)) h.2⟩), (Sm_up Sm_refl (by decide)), (Fm_up Fm_refl (by decide))⟩)
  · have e10 : ((0 ≤ r0 ∧ r0 ≤ 63) ∧ nrB (cfM M) ≠ 0) := Decidable.byContradiction fun h => by rw [if_neg h] at h10; omega
    refine pw_iload2 C dX11_lettersAt_13 ?_
    refine pw_if_lt (tgt := 25) C dX11_lettersAt_14 (by decide) (by omega) (fun h14 => ?_) (fun h14 => ?_)
    · refine pw_iconst C dX11_lettersAt_25 ?_
      exact pw_iretI C dX11_lettersAt_26 (⟨by first | exact Or.inr ⟨fun h => e10 ⟨h.1, h.2.1⟩, rfl⟩ | exact Or.inr ⟨fun h => by have := h.2.2; have h9 : kL (cfM M) = M 43 7 := rfl; omega, rfl⟩, by exact rd_eq, by rw [rd_ne (by decide)]; exact hKn.elim Or.inl (fun h => Or.inr ⟨h.1, KnOK_c (up2_ne (by decide)) h.2⟩), (Sm_up Sm_refl (by decide)), (Fm_up Fm_refl (by decide))⟩)
    · refine pw_iload2 C dX11_lettersAt_17 ?_
      refine pw_aload0 C dX11_lettersAt_18 ?_
      refine g_43_7 C fl_X11_110 dX11_lettersAt_19 ?_
      refine pw_top C _ (rd_ne (by decide)) ?_
      refine pw_icmp_lt (tgt := 27) C dX11_lettersAt_22 (by decide) (by omega) (by omega) (fun h22 => ?_) (fun h22 => ?_)
      · refine pw_aload0 C dX11_lettersAt_27 ?_
        refine pw_cVv0 C (c_X11_knows _ K _ (by rw [ec0]; exact hW) (by rw [ec0, rd_ne (by decide)]; exact hKn.elim Or.inl (fun h => Or.inr ⟨h.1, KnOK_c (up2_ne (by decide)) h.2⟩))) cb_X11_knows lay_43 kc_11 rfl ml_X11_145 dX11_lettersAt_28 (by decide) (Nat.le_of_ble_eq_true rfl) (fun M28 hQ => ?_)
        obtain ⟨h1_28, h2_28, hF28, hJ28⟩ := hQ
        rw [ec0] at h1_28
        have ec28 : cfM M28 = cfM M := cfM_e ((hJ28 1 (by decide)).trans (rd_ne (by decide))) ((hJ28 3 (by decide)).trans (rd_ne (by decide))) ((hJ28 4 (by decide)).trans (rd_ne (by decide))) ((hJ28 5 (by decide)).trans (rd_ne (by decide))) ((hJ28 6 (by decide)).trans (rd_ne (by decide))) ((hJ28 7 (by decide)).trans (rd_ne (by decide))) ((hJ28 10 (by decide)).trans (rd_ne (by decide))) ((hF28 44 (by decide)).trans (up2_ne (by decide))) ((hF28 45 (by decide)).trans (up2_ne (by decide))) ((hF28 46 (by decide)).trans (up2_ne (by decide))) ((hF28 47 (by decide)).trans (up2_ne (by decide))) ((hF28 48 (by decide)).trans (up2_ne (by decide)))
        refine pw_iconst C dX11_lettersAt_31 ?_
        refine pw_istore3 C (by decide) dX11_lettersAt_32 ?_
        refine pw_iconst C dX11_lettersAt_33 ?_
        refine pw_istore4 C (by decide) dX11_lettersAt_34 ?_
        have cut_36 : ∀ (fu : Nat) (b k : Int) (M2 : Mem), Sm [43, 51, 52, 53] M M2 → Fm [0, 13] M M2 → (0 ≤ k ∧ k ≤ nK (cfM M)) → (M2 43 0 = 0) → (M2 43 13 = 1) → (KnOK (cfM M) M2) → (LtI (cfM M) r0 i b k) → (nK (cfM M) - k).toNat < fu → PW X K LAY 5 (0, 0) (Zi X K LAY (fun r M' => (PLt (cfM M) r0 i r) ∧ (M' 43 0 = 0) ∧ (M' 43 13 = 0 ∨ (M' 43 13 = 1 ∧ KnOK (cfM M) M')) ∧ Sm [43, 51, 52, 53] M M' ∧ Fm [0, 13] M M')) 36 [some (rV K 43), some (iV r0), some (iV i), some (iV b), some (iV k)] [] M2 := by
          intro fu
          induction fu with
          | zero => intro _ _ _ _ _ _ _ _ _ _ hm; exact absurd hm (Nat.not_lt_zero _)
          | succ fu ih =>
            intro b k M2 hF36 hJ36 hk z2 z13 hk2 hL hm
            have ih_36 := ih
            have hm_36 := hm
            have ec2 : cfM M2 = cfM M := cfM_e (hJ36 1 (by decide)) (hJ36 3 (by decide)) (hJ36 4 (by decide)) (hJ36 5 (by decide)) (hJ36 6 (by decide)) (hJ36 7 (by decide)) (hJ36 10 (by decide)) (hF36 44 (by decide)) (hF36 45 (by decide)) (hF36 46 (by decide)) (hF36 47 (by decide)) (hF36 48 (by decide))
            refine pw_iload4 C dX11_lettersAt_36 ?_
            refine pw_aload0 C dX11_lettersAt_38 ?_
            refine pw_cVi0 C (c_X11_rows _ K _ (by rw [ec2]; exact hW)) cb_X11_rows lay_43 kc_11 rfl ml_X11_130 dX11_lettersAt_39 (by decide) (Nat.le_of_ble_eq_true rfl) (fun r39 M39 hQ => ?_)
            obtain ⟨rfl, hMe⟩ := hQ
            replace hMe := hMe.symm
            subst hMe
            rw [ec2]
            refine pw_icmp_ge (tgt := 82) C dX11_lettersAt_42 (by decide) (by omega) (by omega) (fun h42 => ?_) (fun h42 => ?_)
            · refine pw_iload3 C dX11_lettersAt_82 ?_
              exact pw_iretI C dX11_lettersAt_83 (⟨by exact Or.inl ⟨⟨e10.1, e10.2, by show 0 ≤ i ∧ i < M 43 7; omega⟩, by rw [show k = nK (cfM M) by omega] at hL; exact hL⟩, by exact z2, by exact Or.inr ⟨z13, hk2⟩, (Sm_trans Sm_refl hF36 (by decide)), (Fm_tr Fm_refl hJ36 (by decide))⟩)
            · refine pw_aload0 C dX11_lettersAt_45 ?_
              refine pw_iload4 C dX11_lettersAt_46 ?_
              refine pw_cVi1 C (c_X11_isCandidate _ K _ _ (by rw [ec2]; exact hW) (by rw [ec2]; exact hk2) (by rw [ec2]; omega)) cb_X11_isCandidate lay_43 kc_11 rfl ml_X11_148 dX11_lettersAt_48 (by decide) (Nat.le_of_ble_eq_true rfl) (fun r48 M48 hQ => ?_)
              obtain ⟨rfl, hMe⟩ := hQ
              replace hMe := hMe.symm
              subst hMe
              rw [ec2]
              refine pw_if_eq (tgt := 76) C dX11_lettersAt_51 (by decide) (by split <;> omega) (fun h51 => ?_) (fun h51 => ?_)
              · have e51 : cdK (cfM M) k = false := Bool.eq_false_iff.mpr (fun h => by rw [if_pos h] at h51; omega)
                refine pw_iinc4 C (by decide) dX11_lettersAt_76 ?_
                refine pw_goto (tgt := 36) C dX11_lettersAt_79 (by decide) ?_
                exact ih_36 _ _ _ (Sm_trans Sm_refl hF36 (by decide)) (Fm_tr Fm_refl hJ36 (by decide)) (by omega) (by first | exact z2 | (rw [hF70 43 (by decide)]; exact z2)) (by first | exact z13 | (rw [hF70 43 (by decide)]; exact z13)) (by first | exact hk2 | exact KnOK_c (hF70 52 (by decide)) hk2) (by
                      first
                        | exact LtI_yes hW hL (by omega) (by simp only [Bool.and_eq_true, decide_eq_true_eq]; exact ⟨e51, by omega⟩)
                        | exact LtI_no hL (by simp only [Bool.and_eq_true, decide_eq_true_eq]; intro h; omega)
                        | exact LtI_no hL (by rw [e51]; simp)) (by omega)
              · have e51 : cdK (cfM M) k = true := Decidable.byContradiction fun h => by rw [if_neg h] at h51; omega
                refine pw_aload0 C dX11_lettersAt_54 ?_
                refine pw_iload4 C dX11_lettersAt_55 ?_
                refine pw_cVi1 C (c_X11_radius _ K _ _ (by rw [ec2]; exact hW) (by rw [ec2]; exact hk2) (by rw [ec2]; omega)) cb_X11_radius lay_43 kc_11 rfl ml_X11_151 dX11_lettersAt_57 (by decide) (Nat.le_of_ble_eq_true rfl) (fun r57 M57 hQ => ?_)
                obtain ⟨rfl, hMe⟩ := hQ
                replace hMe := hMe.symm
                subst hMe
                rw [ec2]
                have hrk := (rdK_rng hW k).1
                refine pw_iload1 C dX11_lettersAt_60 ?_
                refine pw_icmp_gt (tgt := 76) C dX11_lettersAt_61 (by decide) (by omega) (by omega) (fun h61 => ?_) (fun h61 => ?_)
                · refine pw_iinc4 C (by decide) dX11_lettersAt_76 ?_
                  refine pw_goto (tgt := 36) C dX11_lettersAt_79 (by decide) ?_
                  exact ih_36 _ _ _ (Sm_trans Sm_refl hF36 (by decide)) (Fm_tr Fm_refl hJ36 (by decide)) (by omega) (by first | exact z2 | (rw [hF70 43 (by decide)]; exact z2)) (by first | exact z13 | (rw [hF70 43 (by decide)]; exact z13)) (by first | exact hk2 | exact KnOK_c (hF70 52 (by decide)) hk2) (by
                        first
                          | exact LtI_yes hW hL (by omega) (by simp only [Bool.and_eq_true, decide_eq_true_eq]; exact ⟨e51, by omega⟩)
                          | exact LtI_no hL (by simp only [Bool.and_eq_true, decide_eq_true_eq]; intro h; omega)
                          | exact LtI_no hL (by rw [e51]; simp)) (by omega)
                · refine pw_iload3 C dX11_lettersAt_64 ?_
                  refine pw_iconst C dX11_lettersAt_65 ?_
                  refine pw_aload0 C dX11_lettersAt_66 ?_
                  refine pw_iload4 C dX11_lettersAt_67 ?_
                  refine pw_iload2 C dX11_lettersAt_69 ?_
                  refine pw_cVi2 C (c_X11_letterOf _ K _ _ _ (by rw [ec2]; exact hW) (by rw [ec2]; right; omega) (by omega)) cb_X11_letterOf lay_43 kc_11 rfl ml_X11_160 dX11_lettersAt_70 (by decide) (Nat.le_of_ble_eq_true rfl) (fun r70 M70 hQ => ?_)
                  obtain ⟨hp_70, hF70⟩ := hQ
                  rw [ec2, hJ36 7 (by decide), if_pos (by omega)] at hp_70
                  rw [hp_70]
                  have hxk := rwX_rng hW k i
                  have hp2 := p2_lt (n := rwX (cfM M) k i) (by omega)
                  refine pw_ishl C (1 * 2 ^ (rwX (cfM M) k i).toNat) (b_shl (by decide) (by omega) (by omega)) dX11_lettersAt_73 ?_
                  refine pw_ior C (((b.toNat ||| (1 * 2 ^ (rwX (cfM M) k i).toNat : Int).toNat : Nat) : Int)) (b_or (by have := hL.1; omega) (by omega)) dX11_lettersAt_74 ?_
                  refine pw_istore3 C (by decide) dX11_lettersAt_75 ?_
                  refine pw_iinc4 C (by decide) dX11_lettersAt_76 ?_
                  refine pw_goto (tgt := 36) C dX11_lettersAt_79 (by decide) ?_
                  exact ih_36 _ _ _ (Sm_trans (Sm_trans Sm_refl hF36 (by decide)) hF70 (by decide)) (Fm_fr (Fm_tr Fm_refl hJ36 (by decide)) hF70 (by decide)) (by omega) (by first | exact z2 | (rw [hF70 43 (by decide)]; exact z2)) (by first | exact z13 | (rw [hF70 43 (by decide)]; exact z13)) (by first | exact hk2 | exact KnOK_c (hF70 52 (by decide)) hk2) (by
                        first
                          | exact LtI_yes hW hL (by omega) (by simp only [Bool.and_eq_true, decide_eq_true_eq]; exact ⟨e51, by omega⟩)
                          | exact LtI_no hL (by simp only [Bool.and_eq_true, decide_eq_true_eq]; intro h; omega)
                          | exact LtI_no hL (by rw [e51]; simp)) (by omega)
        exact cut_36 _ _ _ _ (Sm_trans (Sm_up Sm_refl (by decide)) hF28 (by decide)) (Fm_tr (Fm_up Fm_refl (by decide)) hJ28 (by decide)) (by omega) (by rw [hJ28 0 (by decide)]; exact rd_eq) (by exact h2_28) (by exact h1_28) (by exact LtI_0) (Nat.lt_succ_self _)
      · refine pw_iconst C dX11_lettersAt_25 ?_
        exact pw_iretI C dX11_lettersAt_26 (⟨by first | exact Or.inr ⟨fun h => e10 ⟨h.1, h.2.1⟩, rfl⟩ | exact Or.inr ⟨fun h => by have := h.2.2; have h9 : kL (cfM M) = M 43 7 := rfl; omega, rfl⟩, by exact rd_eq, by rw [rd_ne (by decide)]; exact hKn.elim Or.inl (fun h => Or.inr ⟨h.1, KnOK_c (up2_ne (by decide)) h.2⟩), (Sm_up Sm_refl (by decide)), (Fm_up Fm_refl (by decide))⟩)
set_option maxHeartbeats 4000000 in
set_option maxRecDepth 100000 in
theorem c_X11_leastSum (l : Launch) (K : KX) (M : Mem) (hW : WfK (cfM M)) (hKn : M 43 13 = 0 ∨ (M 43 13 = 1 ∧ KnOK (cfM M) M)) : MCi l K LAY yX11_leastSum cX11_leastSum 5 (some .int) 4 [rV K 43] M (fun r M' => (M' 43 13 = 0 ∨ (M' 43 13 = 1 ∧ KnOK (cfM M) M')) ∧ ((nrB (cfM M) = 0 ∧ r = -1) ∨ (nrB (cfM M) ≠ 0 ∧ KnOK (cfM M) M' ∧ (((∀ j, 0 ≤ j → j < nK (cfM M) → cdK (cfM M) j = false) ∧ r = -1) ∨ (0 ≤ r ∧ FM (cdK (cfM M)) (suK (cfM M)) (nK (cfM M)) r)))) ∧ (r ≠ -1 → M' 43 25 = cnI (fun j => cdK (cfM M) j && decide (suK (cfM M) j = suK (cfM M) r)) (nK (cfM M))) ∧ Sm [43, 51, 52, 53] M M' ∧ Fm [13, 25] M M') := by
  refine mci_intro RX11 rfl [some (rV K 43), none, none, none, none] rfl (by decide +kernel) (cat_r cat_nil) (Nat.le_of_ble_eq_true rfl) (fun X hX C => ?_)
  subst hX
  have w_let := wm_let hW
  have w_sw := wm_sw hW
  have w_dr := wm_dr hW
  have w_gp := wm_gp hW
  have w_w := wm_w hW
  have w_l := wm_l hW
  have w_l1 := wm_l1 hW
  have w_t := wm_t hW
  have hK0 := nK_pos hW
  have hK1 := nK_le hW
  have hmr := mny_rng (p := M 46) (v := 1) (M 43 6) w_w.1
  have hmz : mny (M 46) 1 (M 43 6) = 0 ↔ nrB (cfM M) = 0 := many_nz hW
  refine pw_aload0 C dX11_leastSum_0 ?_
  refine pw_iconst C dX11_leastSum_1 ?_
  refine pw_cVi1 C (c_X11_many _ K _ _ (hW) (by omega)) cb_X11_many lay_43 kc_11 rfl ml_X11_141 dX11_leastSum_2 (by decide) (Nat.le_of_ble_eq_true rfl) (fun r2 M2 hQ => ?_)
  obtain ⟨rfl, hMe⟩ := hQ
  replace hMe := hMe.symm
  subst hMe
  refine pw_if_ne (tgt := 10) C dX11_leastSum_5 (by decide) (by omega) (fun h5 => ?_) (fun h5 => ?_)
  · refine pw_aload0 C dX11_leastSum_10 ?_
    refine pw_cVv0 C (c_X11_knows _ K _ (hW) (hKn)) cb_X11_knows lay_43 kc_11 rfl ml_X11_145 dX11_leastSum_11 (by decide) (Nat.le_of_ble_eq_true rfl) (fun M11 hQ => ?_)
    obtain ⟨h1_11, h2_11, hF11, hJ11⟩ := hQ
    refine pw_iconst C dX11_leastSum_14 ?_
    refine pw_istore1 C (by decide) dX11_leastSum_15 ?_
    refine pw_iconst C dX11_leastSum_16 ?_
    refine pw_istore2 C (by decide) dX11_leastSum_17 ?_
    refine pw_aload0 C dX11_leastSum_18 ?_
    refine pw_iconst C dX11_leastSum_19 ?_
    refine p_43_25 C fl_X11_182 dX11_leastSum_20 ?_
    refine pw_iconst C dX11_leastSum_23 ?_
    refine pw_istore3 C (by decide) dX11_leastSum_24 ?_
    have cut_25 : ∀ (fu : Nat) (b v k : Int) (M2 : Mem), Sm [43, 51, 52, 53] M M2 → Fm [13, 25] M M2 → (0 ≤ k ∧ k ≤ nK (cfM M)) → (M2 43 13 = 1) → (KnOK (cfM M) M2) → (((∀ j, 0 ≤ j → j < k → cdK (cfM M) j = false) ∧ b = -1 ∧ v = 0 ∧ M2 43 25 = 0) ∨ (0 ≤ b ∧ b < k ∧ FM (cdK (cfM M)) (suK (cfM M)) k b ∧ v = suK (cfM M) b ∧ M2 43 25 = cnI (fun j => cdK (cfM M) j && decide (suK (cfM M) j = suK (cfM M) b)) k)) → (nK (cfM M) - k).toNat < fu → PW X K LAY 5 (0, 0) (Zi X K LAY (fun r M' => (M' 43 13 = 0 ∨ (M' 43 13 = 1 ∧ KnOK (cfM M) M')) ∧ ((nrB (cfM M) = 0 ∧ r = -1) ∨ (nrB (cfM M) ≠ 0 ∧ KnOK (cfM M) M' ∧ (((∀ j, 0 ≤ j → j < nK (cfM M) → cdK (cfM M) j = false) ∧ r = -1) ∨ (0 ≤ r ∧ FM (cdK (cfM M)) (suK (cfM M)) (nK (cfM M)) r)))) ∧ (r ≠ -1 → M' 43 25 = cnI (fun j => cdK (cfM M) j && decide (suK (cfM M) j = suK (cfM M) r)) (nK (cfM M))) ∧ Sm [43, 51, 52, 53] M M' ∧ Fm [13, 25] M M')) 25 [some (rV K 43), some (iV b), some (iV v), some (iV k), none] [] M2 := by
      intro fu
      induction fu with
      | zero => intro _ _ _ _ _ _ _ _ _ _ hm; exact absurd hm (Nat.not_lt_zero _)
      | succ fu ih =>
        intro b v k M2 hF25 hJ25 hk z13 hk2 hb hm
        have ih_25 := ih
        have hm_25 := hm
        have ec2 : cfM M2 = cfM M := cfM_e (hJ25 1 (by decide)) (hJ25 3 (by decide)) (hJ25 4 (by decide)) (hJ25 5 (by decide)) (hJ25 6 (by decide)) (hJ25 7 (by decide)) (hJ25 10 (by decide)) (hF25 44 (by decide)) (hF25 45 (by decide)) (hF25 46 (by decide)) (hF25 47 (by decide)) (hF25 48 (by decide))
        have hvr : (0 ≤ v ∧ v ≤ 504) ∧ (-1 ≤ b ∧ b < k + 1) := by rcases hb with q | q; omega; have := (rdK_rng hW b).2; omega
        refine pw_iload3 C dX11_leastSum_25 ?_
        refine pw_aload0 C dX11_leastSum_26 ?_
        refine pw_cVi0 C (c_X11_rows _ K _ (by rw [ec2]; exact hW)) cb_X11_rows lay_43 kc_11 rfl ml_X11_130 dX11_leastSum_27 (by decide) (Nat.le_of_ble_eq_true rfl) (fun r27 M27 hQ => ?_)
        obtain ⟨rfl, hMe⟩ := hQ
        replace hMe := hMe.symm
        subst hMe
        rw [ec2]
        refine pw_icmp_ge (tgt := 94) C dX11_leastSum_30 (by decide) (by omega) (by omega) (fun h30 => ?_) (fun h30 => ?_)
        · refine pw_iload1 C dX11_leastSum_94 ?_
          exact pw_iretI C dX11_leastSum_95 (⟨by exact Or.inr ⟨z13, hk2⟩, by refine Or.inr ⟨fun h => h5 (hmz.mpr h), hk2, ?_⟩; rw [show nK (cfM M) = k by omega]; rcases hb with q | q; exact Or.inl ⟨q.1, q.2.1⟩; exact Or.inr ⟨q.1, q.2.2.1⟩, by intro h; rw [show nK (cfM M) = k by omega]; rcases hb with q | q; exact absurd q.2.1 h; exact q.2.2.2.2, (Sm_trans Sm_refl hF25 (by decide)), (Fm_tr Fm_refl hJ25 (by decide))⟩)
        · refine pw_aload0 C dX11_leastSum_33 ?_
          refine pw_iload3 C dX11_leastSum_34 ?_
          refine pw_cVi1 C (c_X11_isCandidate _ K _ _ (by rw [ec2]; exact hW) (by rw [ec2]; exact hk2) (by rw [ec2]; omega)) cb_X11_isCandidate lay_43 kc_11 rfl ml_X11_148 dX11_leastSum_35 (by decide) (Nat.le_of_ble_eq_true rfl) (fun r35 M35 hQ => ?_)
          obtain ⟨rfl, hMe⟩ := hQ
          replace hMe := hMe.symm
          subst hMe
          rw [ec2]
          refine pw_if_ne (tgt := 44) C dX11_leastSum_38 (by decide) (by split <;> omega) (fun h38 => ?_) (fun h38 => ?_)
          · have e38 : cdK (cfM M) k = true := Decidable.byContradiction fun h => by rw [if_neg h] at h38; omega
            refine pw_aload0 C dX11_leastSum_44 ?_
            refine pw_iload3 C dX11_leastSum_45 ?_
            refine pw_cVi1 C (c_X11_sumOf _ K _ _ (by rw [ec2]; exact hW) (by rw [ec2]; exact hk2) (by rw [ec2]; omega)) cb_X11_sumOf lay_43 kc_11 rfl ml_X11_185 dX11_leastSum_46 (by decide) (Nat.le_of_ble_eq_true rfl) (fun r46 M46 hQ => ?_)
            obtain ⟨rfl, hMe⟩ := hQ
            replace hMe := hMe.symm
            subst hMe
            rw [ec2]
            have hsk := (rdK_rng hW k).2
            refine pw_istore4 C (by decide) dX11_leastSum_49 ?_
            have cut_72 : ∀  (b2 v2 : Int) (M3 : Mem), Sm [43, 51, 52, 53] M M3 → Fm [13, 25] M M3 → (M3 43 13 = 1) → (KnOK (cfM M) M3) → ((0 ≤ b2 ∧ b2 ≤ k) ∧ FM (cdK (cfM M)) (suK (cfM M)) (k + 1) b2 ∧ v2 = suK (cfM M) b2 ∧ M3 43 25 = cnI (fun j => cdK (cfM M) j && decide (suK (cfM M) j = suK (cfM M) b2)) k) → PW X K LAY 5 (0, 0) (Zi X K LAY (fun r M' => (M' 43 13 = 0 ∨ (M' 43 13 = 1 ∧ KnOK (cfM M) M')) ∧ ((nrB (cfM M) = 0 ∧ r = -1) ∨ (nrB (cfM M) ≠ 0 ∧ KnOK (cfM M) M' ∧ (((∀ j, 0 ≤ j → j < nK (cfM M) → cdK (cfM M) j = false) ∧ r = -1) ∨ (0 ≤ r ∧ FM (cdK (cfM M)) (suK (cfM M)) (nK (cfM M)) r)))) ∧ (r ≠ -1 → M' 43 25 = cnI (fun j => cdK (cfM M) j && decide (suK (cfM M) j = suK (cfM M) r)) (nK (cfM M))) ∧ Sm [43, 51, 52, 53] M M' ∧ Fm [13, 25] M M')) 72 [some (rV K 43), some (iV b2), some (iV v2), some (iV k), some (iV (suK (cfM M) k))] [] M3 := by
              intro b2 v2 M3 hF72 hJ72 y13 hk3 hb2
              have hv2 := (rdK_rng hW b2).2
              rw [← hb2.2.2.1] at hv2
              have hnx : ∀ j, j = k ∨ j ≠ k := fun j => Decidable.em _
              refine pw_iload4 C dX11_leastSum_72 ?_
              refine pw_iload2 C dX11_leastSum_74 ?_
              refine pw_icmp_ne (tgt := 88) C dX11_leastSum_75 (by decide) (by omega) (by omega) (fun h75 => ?_) (fun h75 => ?_)
              · refine pw_iinc3 C (by decide) dX11_leastSum_88 ?_
                refine pw_goto (tgt := 25) C dX11_leastSum_91 (by decide) ?_
                refine pw_fgt (fgt_k (fgt_k (fgt_k (fgt_k (fgt_no fgt_nil))))) ?_
                exact ih_25 _ _ _ _ (Sm_trans Sm_refl hF72 (by decide)) (Fm_tr Fm_refl hJ72 (by decide)) (by omega) (by first | exact z13 | exact y13 | (rw [rd_ne (by decide)]; exact y13)) (by first | exact hk2 | exact hk3 | exact KnOK_c (up2_ne (by decide)) hk3) (by
                      first
                        | (rcases hb with q | q
                           · exact Or.inl ⟨fun j q1 q2 => by by_cases z : j = k; rw [z]; exact e38; exact q.1 j q1 (by omega), q.2.1, q.2.2.1, q.2.2.2⟩
                           · refine Or.inr ⟨q.1, by omega, FM_keep q.2.2.1 (Or.inl e38), q.2.2.2.1, ?_⟩
                             rw [cnI_s (by omega), q.2.2.2.2, if_neg (by rw [e38]; simp)]; omega)
                        | (refine Or.inr ⟨hb2.1.1, by omega, hb2.2.1, hb2.2.2.1, ?_⟩
                           rw [rd_eq, cnI_s (by omega), hb2.2.2.2, if_pos (by rw [e38, h75, hb2.2.2.1]; simp)])
                        | (refine Or.inr ⟨hb2.1.1, by omega, hb2.2.1, hb2.2.2.1, ?_⟩
                           rw [cnI_s (by omega), hb2.2.2.2, if_neg (by rw [e38]; simp; rw [← hb2.2.2.1]; exact h75)]; omega)) (by omega)
              · refine pw_aload0 C dX11_leastSum_78 ?_
                refine pw_dup C rfl dX11_leastSum_79 ?_
                refine g_43_25 C fl_X11_182 dX11_leastSum_80 ?_
                refine pw_iconst C dX11_leastSum_83 ?_
                refine pw_iadd C dX11_leastSum_84 ?_
                refine p_43_25 C fl_X11_182 dX11_leastSum_85 ?_
                refine pw_iinc3 C (by decide) dX11_leastSum_88 ?_
                refine pw_goto (tgt := 25) C dX11_leastSum_91 (by decide) ?_
                refine pw_fgt (fgt_k (fgt_k (fgt_k (fgt_k (fgt_no fgt_nil))))) ?_
                exact ih_25 _ _ _ _ (Sm_up (Sm_trans Sm_refl hF72 (by decide)) (by decide)) (Fm_up (Fm_tr Fm_refl hJ72 (by decide)) (by decide)) (by omega) (by first | exact z13 | exact y13 | (rw [rd_ne (by decide)]; exact y13)) (by first | exact hk2 | exact hk3 | exact KnOK_c (up2_ne (by decide)) hk3) (by
                      first
                        | (rcases hb with q | q
                           · exact Or.inl ⟨fun j q1 q2 => by by_cases z : j = k; rw [z]; exact e38; exact q.1 j q1 (by omega), q.2.1, q.2.2.1, q.2.2.2⟩
                           · refine Or.inr ⟨q.1, by omega, FM_keep q.2.2.1 (Or.inl e38), q.2.2.2.1, ?_⟩
                             rw [cnI_s (by omega), q.2.2.2.2, if_neg (by rw [e38]; simp)]; omega)
                        | (refine Or.inr ⟨hb2.1.1, by omega, hb2.2.1, hb2.2.2.1, ?_⟩
                           rw [rd_eq, cnI_s (by omega), hb2.2.2.2, if_pos (by rw [e38, h75, hb2.2.2.1]; simp)])
                        | (refine Or.inr ⟨hb2.1.1, by omega, hb2.2.1, hb2.2.2.1, ?_⟩
                           rw [cnI_s (by omega), hb2.2.2.2, if_neg (by rw [e38]; simp; rw [← hb2.2.2.1]; exact h75)]; omega)) (by omega)
            refine pw_iload1 C dX11_leastSum_51 ?_
            refine pw_iconst C dX11_leastSum_52 ?_
            refine pw_icmp_eq (tgt := 62) C dX11_leastSum_53 (by decide) (by omega) (by omega) (fun h53 => ?_) (fun h53 => ?_)
            · refine pw_iload3 C dX11_leastSum_62 ?_
              refine pw_istore1 C (by decide) dX11_leastSum_63 ?_
              refine pw_iload4 C dX11_leastSum_64 ?_
              refine pw_istore2 C (by decide) dX11_leastSum_66 ?_
              refine pw_aload0 C dX11_leastSum_67 ?_
              refine pw_iconst C dX11_leastSum_68 ?_
              refine p_43_25 C fl_X11_182 dX11_leastSum_69 ?_
              exact cut_72 _ _ _ (Sm_up (Sm_trans Sm_refl hF25 (by decide)) (by decide)) (Fm_up (Fm_tr Fm_refl hJ25 (by decide)) (by decide)) (by rw [rd_ne (by decide)]; exact z13) (by exact KnOK_c (up2_ne (by decide)) hk2) (by
                    rcases hb with q | q
                    · refine ⟨by omega, FM_first q.1 e38 (by omega), rfl, ?_⟩
                      rw [rd_eq, cnI_zero k (by omega) (fun j q1 q2 => by simp [q.1 j q1 q2])]
                    · have hlt : suK (cfM M) k < suK (cfM M) b := by first | exact absurd h53 (by omega) | (rw [← q.2.2.2.1]; omega)
                      refine ⟨by omega, FM_new q.2.2.1 e38 hlt (by omega), rfl, ?_⟩
                      rw [rd_eq, cnI_zero k (by omega) (fun j q1 q2 => ?_)]
                      by_cases g : cdK (cfM M) j = true
                      · have := q.2.2.1.2.2.2 j q1 q2 g
                        simp only [Bool.and_eq_false_iff, decide_eq_false_iff_not]
                        right; omega
                      · simp [g])
            · refine pw_iload4 C dX11_leastSum_56 ?_
              refine pw_iload2 C dX11_leastSum_58 ?_
              refine pw_icmp_ge (tgt := 72) C dX11_leastSum_59 (by decide) (by omega) (by omega) (fun h59 => ?_) (fun h59 => ?_)
              · exact cut_72 _ _ _ (Sm_trans Sm_refl hF25 (by decide)) (Fm_tr Fm_refl hJ25 (by decide)) (by exact z13) (by exact hk2) (by
                      rcases hb with q | q
                      · exact absurd q.2.1 h53
                      · exact ⟨by omega, FM_keep q.2.2.1 (Or.inr (by rw [← q.2.2.2.1]; omega)), q.2.2.2.1, q.2.2.2.2⟩)
              · refine pw_iload3 C dX11_leastSum_62 ?_
                refine pw_istore1 C (by decide) dX11_leastSum_63 ?_
                refine pw_iload4 C dX11_leastSum_64 ?_
                refine pw_istore2 C (by decide) dX11_leastSum_66 ?_
                refine pw_aload0 C dX11_leastSum_67 ?_
                refine pw_iconst C dX11_leastSum_68 ?_
                refine p_43_25 C fl_X11_182 dX11_leastSum_69 ?_
                exact cut_72 _ _ _ (Sm_up (Sm_trans Sm_refl hF25 (by decide)) (by decide)) (Fm_up (Fm_tr Fm_refl hJ25 (by decide)) (by decide)) (by rw [rd_ne (by decide)]; exact z13) (by exact KnOK_c (up2_ne (by decide)) hk2) (by
                      rcases hb with q | q
                      · refine ⟨by omega, FM_first q.1 e38 (by omega), rfl, ?_⟩
                        rw [rd_eq, cnI_zero k (by omega) (fun j q1 q2 => by simp [q.1 j q1 q2])]
                      · have hlt : suK (cfM M) k < suK (cfM M) b := by first | exact absurd h53 (by omega) | (rw [← q.2.2.2.1]; omega)
                        refine ⟨by omega, FM_new q.2.2.1 e38 hlt (by omega), rfl, ?_⟩
                        rw [rd_eq, cnI_zero k (by omega) (fun j q1 q2 => ?_)]
                        by_cases g : cdK (cfM M) j = true
                        · have := q.2.2.1.2.2.2 j q1 q2 g
                          simp only [Bool.and_eq_false_iff, decide_eq_false_iff_not]
                          right; omega
                        · simp [g])
          · have e38 : cdK (cfM M) k = false := Bool.eq_false_iff.mpr (fun h => by rw [if_pos h] at h38; omega)
            refine pw_goto (tgt := 88) C dX11_leastSum_41 (by decide) ?_
            refine pw_iinc3 C (by decide) dX11_leastSum_88 ?_
            refine pw_goto (tgt := 25) C dX11_leastSum_91 (by decide) ?_
            exact ih_25 _ _ _ _ (Sm_trans Sm_refl hF25 (by decide)) (Fm_tr Fm_refl hJ25 (by decide)) (by omega) (by first | exact z13 | exact y13 | (rw [rd_ne (by decide)]; exact y13)) (by first | exact hk2 | exact hk3 | exact KnOK_c (up2_ne (by decide)) hk3) (by
                  first
                    | (rcases hb with q | q
                       · exact Or.inl ⟨fun j q1 q2 => by by_cases z : j = k; rw [z]; exact e38; exact q.1 j q1 (by omega), q.2.1, q.2.2.1, q.2.2.2⟩
                       · refine Or.inr ⟨q.1, by omega, FM_keep q.2.2.1 (Or.inl e38), q.2.2.2.1, ?_⟩
                         rw [cnI_s (by omega), q.2.2.2.2, if_neg (by rw [e38]; simp)]; omega)
                    | (refine Or.inr ⟨hb2.1.1, by omega, hb2.2.1, hb2.2.2.1, ?_⟩
                       rw [rd_eq, cnI_s (by omega), hb2.2.2.2, if_pos (by rw [e38, h75, hb2.2.2.1]; simp)])
                    | (refine Or.inr ⟨hb2.1.1, by omega, hb2.2.1, hb2.2.2.1, ?_⟩
                       rw [cnI_s (by omega), hb2.2.2.2, if_neg (by rw [e38]; simp; rw [← hb2.2.2.1]; exact h75)]; omega)) (by omega)
    exact cut_25 _ _ _ _ _ (Sm_up (Sm_trans Sm_refl hF11 (by decide)) (by decide)) (Fm_up (Fm_tr Fm_refl hJ11 (by decide)) (by decide)) (by omega) (by rw [rd_ne (by decide)]; exact h2_11) (by exact KnOK_c (up2_ne (by decide)) h1_11) (by exact Or.inl ⟨fun j q1 q2 => by omega, rfl, rfl, rd_eq⟩) (Nat.lt_succ_self _)
  · refine pw_iconst C dX11_leastSum_8 ?_
    exact pw_iretI C dX11_leastSum_9 (⟨by exact hKn, by exact Or.inl ⟨hmz.mp h5, rfl⟩, by intro h; exact absurd rfl h, Sm_refl, Fm_refl⟩)
