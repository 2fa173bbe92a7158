set_option maxHeartbeats 4000000 in
set_option maxRecDepth 100000 in
theorem c_X11_coreOf (l : Launch) (K : KX) (M : Mem) (r0 : Int) (hW : WfK (cfM M)) (hKn : M 43 13 = 0 ∨ (M 43 13 = 1 ∧ KnOK (cfM M) M)) (hr : 0 ≤ r0 ∧ r0 ≤ 63) : MCi l K LAY yX11_coreOf cX11_coreOf 5 (some .int) 5 [rV K 43, iV r0] M (fun r M' => (CoS (cfM M) r0 r) ∧ (M' 43 13 = 1) ∧ (KnOK (cfM M) M') ∧ Sm [43, 51, 52, 53, 54] M M' ∧ Fm [13] M M') := by
  refine mci_intro RX11 rfl [some (rV K 43), some (iV r0), none, none, none] rfl (by decide +kernel) (cat_r (cat_i cat_nil)) (Nat.le_of_ble_eq_true rfl) (fun X hX C => ?_)
  subst hX
  have w_let := wm_let hW
  have w_sw := wm_sw hW
  have w_dr := wm_dr hW
  have w_gp := wm_gp hW
  have w_w := wm_w hW
  have w_l := wm_l hW
  have w_l1 := wm_l1 hW
  have w_t := wm_t hW
  have hK0 := nK_pos hW
  have hK1 := nK_le hW
  have hnb : 0 ≤ nrB (cfM M) ∧ nrB (cfM M) < 256 := bsI_rng (p := M 46) (v := 1) (n := M 43 6) (by omega)
  refine pw_aload0 C dX11_coreOf_0 ?_
  refine pw_iload1 C dX11_coreOf_1 ?_
  refine pw_cVv1 C (c_X11_holds _ K _ _ (hW) (hKn) (hr)) cb_X11_holds lay_43 kc_11 rfl ml_X11_166 dX11_coreOf_2 (by decide) (Nat.le_of_ble_eq_true rfl) (fun M2 hQ => ?_)
  obtain ⟨h1_2, h4_2, h2_2, h3_2, hF2, hJ2⟩ := hQ
  have ec2 : cfM M2 = cfM M := cfM_e (hJ2 1 (by decide)) (hJ2 3 (by decide)) (hJ2 4 (by decide)) (hJ2 5 (by decide)) (hJ2 6 (by decide)) (hJ2 7 (by decide)) (hJ2 10 (by decide)) (hF2 44 (by decide)) (hF2 45 (by decide)) (hF2 46 (by decide)) (hF2 47 (by decide)) (hF2 48 (by decide))
  refine pw_aload0 C dX11_coreOf_5 ?_
  refine pw_cVi0 C (c_X11_nearBits _ K _ (by rw [ec2]; exact hW)) cb_X11_nearBits lay_43 kc_11 rfl ml_X11_170 dX11_coreOf_6 (by decide) (Nat.le_of_ble_eq_true rfl) (fun r6 M6 hQ => ?_)
  obtain ⟨rfl, hMe⟩ := hQ
  replace hMe := hMe.symm
  subst hMe
  refine pw_top C (nrB (cfM M)) (by rw [← ec2]; rfl) ?_
  refine pw_istore2 C (by decide) dX11_coreOf_9 ?_
  refine pw_iconst C dX11_coreOf_10 ?_
  refine pw_istore3 C (by decide) dX11_coreOf_11 ?_
  refine pw_iconst C dX11_coreOf_12 ?_
  refine pw_istore4 C (by decide) dX11_coreOf_13 ?_
  have cut_15 : ∀ (fu : Nat) (x i : Int), (1 ≤ i ∧ i ≤ 256) → (∃ z, CoI (cfM M) r0 x z i) → (256 - i).toNat < fu → PW X K LAY 5 (0, 0) (Zi X K LAY (fun r M' => (CoS (cfM M) r0 r) ∧ (M' 43 13 = 1) ∧ (KnOK (cfM M) M') ∧ Sm [43, 51, 52, 53, 54] M M' ∧ Fm [13] M M')) 15 [some (rV K 43), some (iV r0), some (iV (nrB (cfM M))), some (iV x), some (iV i)] [] M2 := by
    intro fu
    induction fu with
    | zero => intro _ _ _ _ hm; exact absurd hm (Nat.not_lt_zero _)
    | succ fu ih =>
      intro x i hi g hm
      have ih_15 := ih
      have hm_15 := hm
      obtain ⟨z, g⟩ := g
      have hcr := CoI_rng g hi.1
      have hbi := bc8_rng i
      have hbx := bc8_rng x
      have hzx : (x = 0 ∧ z = 9) ∨ (1 ≤ x ∧ z = bc8 x) := by
        rcases g with ⟨a, b, -⟩ | ⟨a, b, -⟩
        · exact Or.inl ⟨a, b⟩
        · exact Or.inr ⟨a.1, b⟩
      refine pw_iload4 C dX11_coreOf_15 ?_
      refine pw_sipush C dX11_coreOf_17 (by decide) ?_
      refine pw_icmp_ge (tgt := 70) C dX11_coreOf_20 (by decide) (by omega) (by omega) (fun h20 => ?_) (fun h20 => ?_)
      · refine pw_iload3 C dX11_coreOf_70 ?_
        exact pw_iretI C dX11_coreOf_71 (⟨by exact CoI_end (z := z) (by rw [show (256 : Int) = i by omega]; exact g), by exact h2_2, by exact h3_2, (Sm_trans Sm_refl hF2 (by decide)), (Fm_tr Fm_refl hJ2 (by decide))⟩)
      · have han := andn_rng (i := i) (N := nrB (cfM M)) (by omega)
        have hv := h4_2 i (by omega) (by omega)
        have hh := h1_2 i (by omega) (by omega)
        have cut_64 : ∀  (x9 : Int), (∃ z, CoI (cfM M) r0 x9 z (i + 1)) → PW X K LAY 5 (0, 0) (Zi X K LAY (fun r M' => (CoS (cfM M) r0 r) ∧ (M' 43 13 = 1) ∧ (KnOK (cfM M) M') ∧ Sm [43, 51, 52, 53, 54] M M' ∧ Fm [13] M M')) 64 [some (rV K 43), some (iV r0), some (iV (nrB (cfM M))), some (iV x9), some (iV i)] [] M2 := by
          intro x9 g9
          refine pw_iinc4 C (by decide) dX11_coreOf_64 ?_
          refine pw_goto (tgt := 15) C dX11_coreOf_67 (by decide) ?_
          exact ih_15 _ _ (by omega) (by exact g9) (by omega)
        refine pw_iload4 C dX11_coreOf_23 ?_
        refine pw_iload2 C dX11_coreOf_25 ?_
        refine pw_iconst C dX11_coreOf_26 ?_
        refine pw_ixor C (-(nrB (cfM M)) - 1) (b_noti hnb) dX11_coreOf_27 ?_
        refine pw_iand C (andn i (nrB (cfM M))) (b_andn (by omega) hnb) dX11_coreOf_28 ?_
        refine pw_if_ne (tgt := 64) C dX11_coreOf_29 (by decide) (by omega) (fun h29 => ?_) (fun h29 => ?_)
        · have hns : ¬ sub2 i (nrB (cfM M)) := fun q => h29 ((andn_0 (by omega)).mpr q)
          exact cut_64 _ (by exact ⟨z, CoI_skip g hi.1 (fun q => absurd q hns)⟩)
        · have hys : sub2 i (nrB (cfM M)) := (andn_0 (by omega)).mp (by omega)
          refine pw_aload0 C dX11_coreOf_32 ?_
          refine g_43_23 C fl_X11_52 dX11_coreOf_33 ?_
          refine pw_iload4 C dX11_coreOf_36 ?_
          refine pw_zaload C lay_54 (by omega) (by decide) dX11_coreOf_38 ?_
          refine pw_if_eq (tgt := 45) C dX11_coreOf_39 (by decide) (by omega) (fun h39 => ?_) (fun h39 => ?_)
          · have hno : ¬ Hd (cfM M) r0 i := fun q => by have := hh.mpr q; omega
            refine pw_iload3 C dX11_coreOf_45 ?_
            refine pw_if_eq (tgt := 61) C dX11_coreOf_46 (by decide) (by omega) (fun h46 => ?_) (fun h46 => ?_)
            · refine pw_iload4 C dX11_coreOf_61 ?_
              refine pw_istore3 C (by decide) dX11_coreOf_63 ?_
              exact cut_64 _ (by exact ⟨_, CoI_new g hi.1 hys hno (by omega)⟩)
            · refine pw_iload4 C dX11_coreOf_49 ?_
              refine pw_cSi1 C (c_X11_size _ K _ _ (by omega)) cb_X11_size ml_X11_173 dX11_coreOf_51 (by decide) (Nat.le_of_ble_eq_true rfl) (fun r51 M51 hQ => ?_)
              obtain ⟨rfl, hMe⟩ := hQ
              replace hMe := hMe.symm
              subst hMe
              refine pw_iload3 C dX11_coreOf_54 ?_
              refine pw_cSi1 C (c_X11_size _ K _ _ (by omega)) cb_X11_size ml_X11_173 dX11_coreOf_55 (by decide) (Nat.le_of_ble_eq_true rfl) (fun r55 M55 hQ => ?_)
              obtain ⟨rfl, hMe⟩ := hQ
              replace hMe := hMe.symm
              subst hMe
              refine pw_icmp_ge (tgt := 64) C dX11_coreOf_58 (by decide) (by omega) (by omega) (fun h58 => ?_) (fun h58 => ?_)
              · exact cut_64 _ (by exact ⟨z, CoI_skip g hi.1 (fun _ _ => by omega)⟩)
              · refine pw_iload4 C dX11_coreOf_61 ?_
                refine pw_istore3 C (by decide) dX11_coreOf_63 ?_
                exact cut_64 _ (by exact ⟨_, CoI_new g hi.1 hys hno (by omega)⟩)
          · have hye : Hd (cfM M) r0 i := hh.mp (by omega)
            refine pw_goto (tgt := 64) C dX11_coreOf_42 (by decide) ?_
            exact cut_64 _ (by exact ⟨z, CoI_skip g hi.1 (fun _ q => absurd hye q)⟩)
  exact cut_15 _ _ _ (by omega) (by exact ⟨9, CoI_0⟩) (Nat.lt_succ_self _)
