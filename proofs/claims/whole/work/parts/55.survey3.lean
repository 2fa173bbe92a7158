theorem svi_rng {c : Cfg} {M : Mem} {k : Int} (hW : WfK c) (h : SvI c M k) : (-1 ≤ M 21 1 ∧ M 21 1 ≤ 63) ∧ (-1 ≤ M 21 3 ∧ M 21 3 ≤ 504) := by
  obtain ⟨a1, a2, -, -⟩ := h
  constructor
  · rcases a1 with ⟨-, b⟩ | ⟨b, -, b2, -⟩
    · omega
    · have := rdK_rng hW b; omega
  · rcases a2 with ⟨-, b⟩ | ⟨b, -, b2, -⟩
    · omega
    · have := rdK_rng hW b; omega
theorem ovf {N n k : Int} (hN : 2 ≤ N) {x : Int → Int} (hx : ∀ i, 0 ≤ i → i < n → x i = dg N n k i) : ∀ i, 0 ≤ i → i < n → 0 ≤ x i ∧ x i < N := fun i q1 q2 => by rw [hx i q1 q2]; exact dg_rng (by omega)
set_option maxHeartbeats 4000000 in
set_option maxRecDepth 100000 in
theorem c_X5_lookAtAll (l : Launch) (K : KX) (M : Mem) (hW : WfK (cf M)) (hwd : M 15 4 = 8) (hZ : Z0a M) (hn : 0 < M 6 0) (hSv : SvI (cf M) M 0) : MCv l K LAY yX5_lookAtAll cX5_lookAtAll 4 none 4 [rV K 21] M (fun M' => (SvI (cf M) M' (nK (cf M))) ∧ (M' 21 0 = M 21 0) ∧ (M' 15 4 = 8) ∧ (Z0a M') ∧ Sm [12, 13, 15, 16, 17, 18, 19, 20, 21, 22, 23] M M') := by
  refine mcv_intro RX5 rfl [some (rV K 21), none, none, none] rfl (by decide +kernel) (cat_r cat_nil) (Nat.le_of_ble_eq_true rfl) (fun X hX C => ?_)
  subst hX
  have w_let := wf_let hW
  have w_sw := wf_sw hW
  have w_dr := wf_dr hW
  have w_gp := wf_gp hW
  have w_w := wf_w hW
  have w_l := wf_l hW
  have w_l1 := wf_l1 hW
  have w_t := wf_t hW
  have hK0 := nK_pos hW
  have hK1 := nK_le hW
  have m1 := mny_rng (p := M 8) (v := 1) (M 6 0) w_w.1
  have m2 := mny_rng (p := M 8) (v := 2) (M 6 0) w_w.1
  have m3 := mny_two (p := M 8) (u := 1) (v := 2) (by decide) (M 6 0) w_w.1
  refine pw_aload0 C dX5_lookAtAll_0 ?_
  refine g_21_8 C fl_X5_38 dX5_lookAtAll_1 ?_
  refine g_12_1 C fl_X5_63 dX5_lookAtAll_4 ?_
  refine pw_astore1 C (by decide) dX5_lookAtAll_7 ?_
  refine pw_iconst C dX5_lookAtAll_8 ?_
  refine pw_istore2 C (by decide) dX5_lookAtAll_9 ?_
  refine pw_aload0 C dX5_lookAtAll_10 ?_
  refine g_21_8 C fl_X5_38 dX5_lookAtAll_11 ?_
  refine pw_cVi0 C (c_X0_begin _ K _ (hW) (hwd)) cb_X0_begin lay_12 kc_0 rfl ml_X5_67 dX5_lookAtAll_14 (by decide) (Nat.le_of_ble_eq_true rfl) (fun r14 M14 hQ => ?_)
  obtain ⟨hr_14, h1_14, h2_14, hF14⟩ := hQ
  rw [hr_14]
  refine pw_top C (nK (cf M)) rfl ?_
  refine pw_istore3 C (by decide) dX5_lookAtAll_17 ?_
  have cut_18 : ∀ (fu : Nat) (pl lf : Int) (M1 : Mem), Sm [12, 13, 15, 16, 17, 18, 19, 20, 21, 22, 23] M M1 → (0 ≤ lf ∧ lf ≤ nK (cf M)) → (CdR M1) → (SvI (cf M) M1 (nK (cf M) - lf)) → (M1 21 0 = M 21 0) → (Z0a M1) → ((lf = 0 ∧ -1 ≤ pl ∧ pl ≤ 7) ∨ (1 ≤ lf ∧ (0 ≤ pl ∧ pl ≤ M 6 1) ∧ (∀ i, 0 ≤ i → i < M 6 1 → M1 16 i = rwX (cf M) (nK (cf M) - lf) i) ∧ WSa M1 pl)) → (lf).toNat < fu → PW X K LAY 4 (0, 0) (Zv X K LAY (fun M' => (SvI (cf M) M' (nK (cf M))) ∧ (M' 21 0 = M 21 0) ∧ (M' 15 4 = 8) ∧ (Z0a M') ∧ Sm [12, 13, 15, 16, 17, 18, 19, 20, 21, 22, 23] M M')) 18 [some (rV K 21), some (rV K 15), some (iV pl), some (iV lf)] [] M1 := by
    intro fu
    induction fu with
    | zero => intro _ _ _ _ _ _ _ _ _ _ hm; exact absurd hm (Nat.not_lt_zero _)
    | succ fu ih =>
      intro pl lf M1 hF18 hlf hC hI hf0 hZ1 hR hm
      have ih_18 := ih
      have hm_18 := hm
      have hplr : -1 ≤ pl ∧ pl ≤ 7 := by rcases hR with q | q; omega; omega
      refine pw_iload3 C dX5_lookAtAll_18 ?_
      refine pw_if_le (tgt := 63) C dX5_lookAtAll_19 (by decide) (by omega) (fun h19 => ?_) (fun h19 => ?_)
      · exact pw_vretV C dX5_lookAtAll_63 (⟨by rw [show nK (cf M) = nK (cf M) - lf by omega]; exact hI, by exact hf0, by exact hC.1, by exact hZ1, (Sm_trans Sm_refl hF18 (by decide))⟩)
      · have hR9 := hR.elim (fun h => absurd h.1 (by omega)) id
        obtain ⟨hl1, hp1, hrw, hws⟩ := hR9
        refine pw_iload2 C dX5_lookAtAll_22 ?_
        refine pw_if_lt (tgt := 63) C dX5_lookAtAll_23 (by decide) (by omega) (fun h23 => ?_) (fun h23 => ?_)
        · exfalso; omega
        · have ecf_M1 : cf M1 = cf M := by unfold cf; rw [hF18 1 (by decide), hF18 2 (by decide), hF18 6 (by decide), hF18 7 (by decide), hF18 8 (by decide), hF18 9 (by decide), hF18 10 (by decide), hF18 11 (by decide)]
          have e6 : M1 6 = M 6 := hF18 6 (by decide)
          have e15 : M1 15 0 = M 6 1 := by have := hC.2.1; rw [e6] at this; exact this
          have hR1 : WRa M1 := CdR_WR (by rw [ecf_M1]; exact hW) hC (by rw [e6, hF18 1 (by decide)]; intro i q1 q2; rw [hrw i q1 q2]; exact dg_rng (by show (0 : Int) < M 1 0; omega))
          refine pw_aload1 C dX5_lookAtAll_26 ?_
          refine pw_iload2 C dX5_lookAtAll_27 ?_
          refine pw_cVv1 C (c_X8_putFrom _ K _ _ (hR1) (by rw [e15]; omega) (hws)) cb_X8_putFrom lay_15 kc_8 rfl ml_X5_71 dX5_lookAtAll_28 (by decide) (Nat.le_of_ble_eq_true rfl) (fun M28 hQ => ?_)
          obtain ⟨h1_28, h2_28, hF28⟩ := hQ
          have ecf_M28 : cf M28 = cf M := by unfold cf; rw [hF28 1 (by decide), hF18 1 (by decide), hF28 2 (by decide), hF18 2 (by decide), hF28 6 (by decide), hF18 6 (by decide), hF28 7 (by decide), hF18 7 (by decide), hF28 8 (by decide), hF18 8 (by decide), hF28 9 (by decide), hF18 9 (by decide), hF28 10 (by decide), hF18 10 (by decide), hF28 11 (by decide), hF18 11 (by decide)]
          have eR28 : M28 16 = M1 16 := hF28 16 (by decide)
          have hC28 : CdR M28 := CdR_c (hF28 _ (by decide)) (hF28 _ (by decide)) (hF28 _ (by decide)) (hF28 _ (by decide)) (hF28 _ (by decide)) (hF28 _ (by decide)) (hF28 _ (by decide)) (hF28 _ (by decide)) hC
          have e6 : M28 6 = M 6 := (hF28 6 (by decide)).trans (hF18 6 (by decide))
          have eo : M28 15 = M1 15 := hF28 15 (by decide)
          rw [e15] at h1_28
          have hat := at_row (M := M28) (k := nK (cf M) - lf) (by rw [ecf_M28]; exact hW) hC28 (by rw [e6, ecf_M28, eR28]; exact hrw) (by rw [e6]; exact h1_28)
          rw [ecf_M28, e6] at hat
          obtain ⟨t1, t2, t3, t4, t5, t6, t7⟩ := hat
          obtain ⟨c1, c2, c3, c4, c5, c6⟩ := id hC28
          rw [e6] at c2 c4
          have e8 : M28 8 = M 8 := (hF28 8 (by decide)).trans (hF18 8 (by decide))
          rw [e8, e6] at c3
          have e1 : M28 1 = M 1 := (hF28 1 (by decide)).trans (hF18 1 (by decide))
          rw [e8, e1] at c4
          have hT8 : M28 12 2 ≤ M28 15 1 ∧ M28 15 1 ≤ 8 := by rw [c4]; split <;> omega
          have e21 : M28 21 = M1 21 := hF28 21 (by decide)
          have e22 : M28 22 = M1 22 := hF28 22 (by decide)
          have e23 : M28 23 = M1 23 := hF28 23 (by decide)
          have hI28 : SvI (cf M) M28 (nK (cf M) - lf) := SvI_c e21 e22 e23 hI
          have hZ28 : Z0a M28 := ⟨fun t q1 q2 => by rw [h2_28.1 t q2]; exact hZ1.1 t q1 q2, by rw [h2_28.2.1]; exact hZ1.2.1, by rw [h2_28.2.2]; exact hZ1.2.2⟩
          have cut_46 : ∀  (M2 : Mem), Sm [12, 13, 15, 16, 17, 18, 19, 20, 21, 22, 23] M M2 → (CdR M2) → ((∀ i, 0 ≤ i → i < M 6 1 → M2 16 i = rwX (cf M) (nK (cf M) - lf) i)) → (WSa M2 (M 6 1)) → (SvI (cf M) M2 (nK (cf M) - lf + 1)) → (M2 21 0 = M 21 0) → (Z0a M2) → PW X K LAY 4 (0, 0) (Zv X K LAY (fun M' => (SvI (cf M) M' (nK (cf M))) ∧ (M' 21 0 = M 21 0) ∧ (M' 15 4 = 8) ∧ (Z0a M') ∧ Sm [12, 13, 15, 16, 17, 18, 19, 20, 21, 22, 23] M M')) 46 [some (rV K 21), some (rV K 15), some (iV pl), some (iV lf)] [] M2 := by
            intro M2 hF46 dC dR dS dI df dZ
            have e62 : M2 6 = M 6 := hF46 6 (by decide)
            have d15 : M2 15 0 = M 6 1 := by have := dC.2.1; rw [e62] at this; exact this
            have e12 : M2 1 = M 1 := hF46 1 (by decide)
            refine pw_aload1 C dX5_lookAtAll_46 ?_
            refine pw_aload1 C dX5_lookAtAll_47 ?_
            refine g_15_0 C fl_X5_84 dX5_lookAtAll_48 ?_
            refine pw_top C (M 6 1) d15 ?_
            refine pw_iconst C dX5_lookAtAll_51 ?_
            refine pw_isub C dX5_lookAtAll_52 ?_
            have nz53_1 : M2 1 = M 1 := (hF46 1 (by decide))
            refine pw_cVi1 C (c_X8_advance _ K _ _ (by rw [e12]; omega) (by omega) (by intro i q1 q2; rw [e12, dR i q1 (by omega)]; exact dg_rng (by show (0 : Int) < M 1 0; omega))) cb_X8_advance lay_15 kc_8 rfl ml_X5_87 dX5_lookAtAll_53 (by decide) (Nat.le_of_ble_eq_true rfl) (fun r53 M53 hQ => ?_)
            obtain ⟨hp_53, hF53⟩ := hQ
            refine pw_istore2 C (by decide) dX5_lookAtAll_56 ?_
            refine pw_iinc3 C (by decide) dX5_lookAtAll_57 ?_
            refine pw_goto (tgt := 18) C dX5_lookAtAll_60 (by decide) ?_
            have hav := adv_dg (N := M 1 0) (n := M 6 1) (k := nK (cf M) - lf) (r := r53) (x := M2 16) (y := M53 16) (by omega) (by omega) (by constructor; omega; show _ < nK (cf M); omega) dR (by rw [e12, d15] at hp_53; exact hp_53.elim (fun h => Or.inl ⟨h.1, h.2.1⟩) Or.inr)
            have hnk : nK (cf M) = M 1 0 ^ (M 6 1).toNat := rfl
            exact ih_18 _ _ _ (Sm_trans (Sm_trans Sm_refl hF46 (by decide)) hF53 (by decide)) (by omega) (by exact CdR_c (hF53 _ (by decide)) (hF53 _ (by decide)) (hF53 _ (by decide)) (hF53 _ (by decide)) (hF53 _ (by decide)) (hF53 _ (by decide)) (hF53 _ (by decide)) (hF53 _ (by decide)) dC) (by rw [show nK (cf M) - (lf + -1) = nK (cf M) - lf + 1 by omega]; exact SvI_c (hF53 _ (by decide)) (hF53 _ (by decide)) (hF53 _ (by decide)) dI) (by rw [hF53 21 (by decide)]; exact df) (by exact ⟨fun t q1 q2 => by rw [hF53 17 (by decide)]; exact dZ.1 t q1 q2, by rw [hF53 19 (by decide)]; exact dZ.2.1, by rw [hF53 20 (by decide)]; exact dZ.2.2⟩) (by
                  rcases hav with q | q
                  · exact Or.inl ⟨by omega, by omega, by omega⟩
                  · refine Or.inr ⟨by omega, by omega, fun i q1 q2 => ?_, WSa_adv dS hF53 (by omega) q.2.2.2.2⟩
                    rw [q.2.2.2.1 i q1 q2, show nK (cf M) - (lf + -1) = nK (cf M) - lf + 1 by omega]
                    rfl) (by omega)
          refine pw_aload0 C dX5_lookAtAll_31 ?_
          refine g_21_8 C fl_X5_38 dX5_lookAtAll_32 ?_
          have nz35_1 : M28 1 = M 1 := ((hF28 1 (by decide)).trans (hF18 1 (by decide)))
          have nz35_12 : M28 12 = M1 12 := (hF28 12 (by decide))
          have nz35_15 : M28 15 = M1 15 := (hF28 15 (by decide))
          refine pw_cVi0 C (c_X0_isFarEnough _ K _ (c1) (by omega) (by omega) (by rw [e1]; omega) (t1)) cb_X0_isFarEnough lay_12 kc_0 rfl ml_X5_77 dX5_lookAtAll_35 (by decide) (Nat.le_of_ble_eq_true rfl) (fun r35 M35 hQ => ?_)
          obtain ⟨hp_35, hMe⟩ := hQ
          replace hMe := hMe.symm
          subst hMe
          have hr35 : r35 = 0 ∨ r35 = 1 := hp_35.elim (fun h => Or.inr h.2) (fun h => Or.inl h.2)
          refine pw_if_eq (tgt := 46) C dX5_lookAtAll_38 (by decide) (by omega) (fun h38 => ?_) (fun h38 => ?_)
          · have hcd : cdK (cf M) (nK (cf M) - lf) = false := by
              rcases hp_35 with q | q
              · omega
              · rw [e1] at q; cases hq : cdK (cf M) (nK (cf M) - lf) with
                | false => rfl
                | true => rw [e1] at t3; exact absurd (t3.mpr hq) q.1
            exact cut_46 _ (Sm_trans (Sm_trans Sm_refl hF18 (by decide)) hF28 (by decide)) (by exact hC28) (by rw [eR28]; exact hrw) (by exact h1_28) (by exact SvI_no hI28 (by omega) hcd) (by rw [e21]; exact hf0) (by exact hZ28)
          · have hcd : cdK (cf M) (nK (cf M) - lf) = true := by
              rcases hp_35 with q | q
              · rw [e1] at q t3; exact t3.mp q.1
              · omega
            refine pw_aload0 C dX5_lookAtAll_41 ?_
            refine pw_aload1 C dX5_lookAtAll_42 ?_
            have nz43_12 : M28 12 = M1 12 := (hF28 12 (by decide))
            have nz43_15 : M28 15 = M1 15 := (hF28 15 (by decide))
            have nz43_21 : M28 21 = M1 21 := (hF28 21 (by decide))
            have nz43_23 : M28 23 = M1 23 := (hF28 23 (by decide))
            refine pw_cVv1 C (c_X5_lookAtOne _ K _ (c1) (by omega) (by omega) (fun t q1 q2 => t1 t q1 (by omega)) (by have := svi_rng hW hI28; omega) (by have := svi_rng hW hI28; omega) (fun r q1 q2 => (hI28.2.2.2 r q1 q2).1) (by rw [t7]; exact spI_rng w_l (fun i _ _ => rwX_rng hW _ i))) cb_X5_lookAtOne lay_21 kc_5 rfl ml_X5_80 dX5_lookAtAll_43 (by decide) (Nat.le_of_ble_eq_true rfl) (fun M43 hQ => ?_)
            obtain ⟨h0_43, h1_43, h2_43, hF43⟩ := hQ
            exact cut_46 _ (Sm_trans (Sm_trans (Sm_trans Sm_refl hF18 (by decide)) hF28 (by decide)) hF43 (by decide)) (by exact CdR_c (hF43 _ (by decide)) (hF43 _ (by decide)) (hF43 _ (by decide)) (hF43 _ (by decide)) (hF43 _ (by decide)) (hF43 _ (by decide)) (hF43 _ (by decide)) (hF43 _ (by decide)) hC28) (by rw [hF43 16 (by decide), eR28]; exact hrw) (by unfold WSa wDa at h1_28 ⊢; rw [hF43 15 (by decide), hF43 16 (by decide), hF43 17 (by decide), hF43 18 (by decide), hF43 19 (by decide), hF43 20 (by decide), hF43 2 (by decide), hF43 1 (by decide)]; exact h1_28) (by
                  have f1 := h1_43 (rdK (cf M) (nK (cf M) - lf)) t4.symm
                  have f2 := h2_43 (suK (cf M) (nK (cf M) - lf)) t5.symm
                  rw [t6, t7] at f1
                  rw [t6] at f2
                  exact SvI_yes hW hI28 (by omega) hcd f1.1 f1.2.1 f1.2.2.1 f1.2.2.2 f2.1 f2.2.1 f2.2.2) (by rw [h0_43, e21]; exact hf0) (by exact ⟨fun t q1 q2 => by rw [hF43 17 (by decide)]; exact hZ28.1 t q1 q2, by rw [hF43 19 (by decide)]; exact hZ28.2.1, by rw [hF43 20 (by decide)]; exact hZ28.2.2⟩)
  exact cut_18 _ _ _ _ (Sm_trans Sm_refl hF14 (by decide)) (by omega) (by exact h1_14) (by rw [show nK (cf M) - nK (cf M) = 0 by omega]; exact SvI_c (hF14 _ (by decide)) (hF14 _ (by decide)) (hF14 _ (by decide)) hSv) (by rw [hF14 21 (by decide)]) (by
        refine ⟨fun t q1 q2 => ?_, ?_, ?_⟩
        · rw [hF14 17 (by decide)]; exact hZ.1 t q1 q2
        · rw [hF14 19 (by decide)]; exact hZ.2.1
        · rw [hF14 20 (by decide)]; exact hZ.2.2) (by
        refine Or.inr ⟨by omega, by omega, fun i q1 q2 => ?_, WSa_0 ?_ ?_⟩
        · rw [h2_14 i q1 q2, show nK (cf M) - nK (cf M) = 0 by omega]; exact dg_zero.symm
        · have c4 := h1_14.2.2.2.1
          rw [h1_14.2.2.1, hF14 8 (by decide), hF14 6 (by decide), hF14 1 (by decide)] at c4
          rw [c4]; split <;> omega
        · refine ⟨fun t q1 q2 => ?_, ?_, ?_⟩
          · rw [hF14 17 (by decide)]; exact hZ.1 t q1 q2
          · rw [hF14 19 (by decide)]; exact hZ.2.1
          · rw [hF14 20 (by decide)]; exact hZ.2.2) (Nat.lt_succ_self _)
