set_option maxHeartbeats 4000000 in
set_option maxRecDepth 100000 in
theorem c_X11_size (l : Launch) (K : KX) (M : Mem) (x : Int) (hx : 0 ≤ x ∧ x < 256) : MCi l K LAY yX11_size cX11_size 3 (some .int) 1 [iV x] M (fun r M' => (r = bc8 x) ∧ M' = M) := by
  refine mci_intro RX11 rfl [some (iV x), none, none] rfl (by decide +kernel) (cat_i cat_nil) (Nat.le_of_ble_eq_true rfl) (fun X hX C => ?_)
  subst hX
  refine pw_iconst C dX11_size_0 ?_
  refine pw_istore1 C (by decide) dX11_size_1 ?_
  refine pw_iconst C dX11_size_2 ?_
  refine pw_istore2 C (by decide) dX11_size_3 ?_
  have cut_4 : ∀ (fu : Nat) (n i : Int), (0 ≤ i ∧ i ≤ 8) → (n = ((pcN x.toNat i.toNat : Nat) : Int)) → (8 - i).toNat < fu → PW X K LAY 3 (0, 0) (Zi X K LAY (fun r M' => (r = bc8 x) ∧ M' = M)) 4 [some (iV x), some (iV n), some (iV i)] [] M := by
    intro fu
    induction fu with
    | zero => intro _ _ _ _ hm; exact absurd hm (Nat.not_lt_zero _)
    | succ fu ih =>
      intro n i hi hn hm
      have ih_4 := ih
      have hm_4 := hm
      refine pw_iload2 C dX11_size_4 ?_
      refine pw_bipush C dX11_size_5 (by decide) ?_
      refine pw_icmp_ge (tgt := 24) C dX11_size_7 (by decide) (by omega) (by omega) (fun h7 => ?_) (fun h7 => ?_)
      · refine pw_iload1 C dX11_size_24 ?_
        exact pw_iretI C dX11_size_25 (⟨by rw [hn, show i = 8 by omega]; rfl, rfl⟩)
      · have hd := dv_pos (x := x) (i := i) hx
        have ht := tb_mod (x := x) (i := i) hx.1
        refine pw_iload1 C dX11_size_10 ?_
        refine pw_iload0 C dX11_size_11 ?_
        refine pw_iload2 C dX11_size_12 ?_
        refine pw_ishr C (x / 2 ^ i.toNat) (b_shr (by omega) (by omega)) dX11_size_13 ?_
        refine pw_iconst C dX11_size_14 ?_
        refine pw_iand C (x / 2 ^ i.toNat % 2) (b_and1 hd.1) dX11_size_15 ?_
        refine pw_iadd C dX11_size_16 ?_
        refine pw_istore1 C (by decide) dX11_size_17 ?_
        refine pw_iinc2 C (by decide) dX11_size_18 ?_
        refine pw_goto (tgt := 4) C dX11_size_21 (by decide) ?_
        exact ih_4 _ _ (by omega) (by rw [show (i + 1).toNat = i.toNat + 1 by omega, pcN, ht, hn]; split <;> omega) (by omega)
  exact cut_4 _ _ _ (by omega) (by rfl) (Nat.lt_succ_self _)
set_option maxHeartbeats 4000000 in
set_option maxRecDepth 100000 in
theorem c_X11_holds (l : Launch) (K : KX) (M : Mem) (r0 : Int) (hW : WfK (cfM M)) (hKn : M 43 13 = 0 ∨ (M 43 13 = 1 ∧ KnOK (cfM M) M)) (hr : 0 ≤ r0 ∧ r0 ≤ 63) : MCv l K LAY yX11_holds cX11_holds 5 none 4 [rV K 43, iV r0] M (fun M' => (∀ S, 0 ≤ S → S < 256 → (M' 54 S = 1 ↔ Hd (cfM M) r0 S)) ∧ (H01 (M' 54)) ∧ (M' 43 13 = 1) ∧ (KnOK (cfM M) M') ∧ Sm [43, 51, 52, 53, 54] M M' ∧ Fm [13] M M') := by
  refine mcv_intro RX11 rfl [some (rV K 43), some (iV r0), none, none, none] rfl (by decide +kernel) (cat_r (cat_i cat_nil)) (Nat.le_of_ble_eq_true rfl) (fun X hX C => ?_)
  subst hX
  have w_let := wm_let hW
  have w_sw := wm_sw hW
  have w_dr := wm_dr hW
  have w_gp := wm_gp hW
  have w_w := wm_w hW
  have w_l := wm_l hW
  have w_l1 := wm_l1 hW
  have w_t := wm_t hW
  have hK0 := nK_pos hW
  have hK1 := nK_le hW
  refine pw_aload0 C dX11_holds_0 ?_
  refine pw_cVv0 C (c_X11_knows _ K _ (hW) (hKn)) cb_X11_knows lay_43 kc_11 rfl ml_X11_145 dX11_holds_1 (by decide) (Nat.le_of_ble_eq_true rfl) (fun M1 hQ => ?_)
  obtain ⟨h1_1, h2_1, hF1, hJ1⟩ := hQ
  have ec1 : cfM M1 = cfM M := cfM_e (hJ1 1 (by decide)) (hJ1 3 (by decide)) (hJ1 4 (by decide)) (hJ1 5 (by decide)) (hJ1 6 (by decide)) (hJ1 7 (by decide)) (hJ1 10 (by decide)) (hF1 44 (by decide)) (hF1 45 (by decide)) (hF1 46 (by decide)) (hF1 47 (by decide)) (hF1 48 (by decide))
  refine pw_iconst C dX11_holds_4 ?_
  refine pw_istore2 C (by decide) dX11_holds_5 ?_
  have cut_6 : ∀ (fu : Nat) (i : Int) (M2 : Mem), Sm [54] M1 M2 → (0 ≤ i ∧ i ≤ 256) → (∀ j, 0 ≤ j → j < i → M2 54 j = 0) → (256 - i).toNat < fu → PW X K LAY 5 (0, 0) (Zv X K LAY (fun M' => (∀ S, 0 ≤ S → S < 256 → (M' 54 S = 1 ↔ Hd (cfM M) r0 S)) ∧ (H01 (M' 54)) ∧ (M' 43 13 = 1) ∧ (KnOK (cfM M) M') ∧ Sm [43, 51, 52, 53, 54] M M' ∧ Fm [13] M M')) 6 [some (rV K 43), some (iV r0), some (iV i), none, none] [] M2 := by
    intro fu
    induction fu with
    | zero => intro _ _ _ _ _ hm; exact absurd hm (Nat.not_lt_zero _)
    | succ fu ih =>
      intro i M2 hF6 hi g hm
      have ih_6 := ih
      have hm_6 := hm
      refine pw_iload2 C dX11_holds_6 ?_
      refine pw_sipush C dX11_holds_7 (by decide) ?_
      refine pw_icmp_ge (tgt := 26) C dX11_holds_10 (by decide) (by omega) (by omega) (fun h10 => ?_) (fun h10 => ?_)
      · refine pw_iconst C dX11_holds_26 ?_
        refine pw_istore2 C (by decide) dX11_holds_27 ?_
        have cut_28 : ∀ (fu : Nat) (k : Int) (M3 : Mem), Sm [54] M1 M3 → (0 ≤ k ∧ k ≤ nK (cfM M)) → (H01 (M3 54)) → (HoA (cfM M) r0 k (M3 54)) → (nK (cfM M) - k).toNat < fu → PW X K LAY 5 (0, 0) (Zv X K LAY (fun M' => (∀ S, 0 ≤ S → S < 256 → (M' 54 S = 1 ↔ Hd (cfM M) r0 S)) ∧ (H01 (M' 54)) ∧ (M' 43 13 = 1) ∧ (KnOK (cfM M) M') ∧ Sm [43, 51, 52, 53, 54] M M' ∧ Fm [13] M M')) 28 [some (rV K 43), some (iV r0), some (iV k), none, none] [] M3 := by
          intro fu
          induction fu with
          | zero => intro _ _ _ _ _ _ hm; exact absurd hm (Nat.not_lt_zero _)
          | succ fu ih =>
            intro k M3 hF28 hk a1 a2 hm
            have ih_28 := ih
            have hm_28 := hm
            have eM3 : cfM M3 = cfM M := Eq.trans (by unfold cfM; rw [hF28 43 (by decide), hF28 44 (by decide), hF28 45 (by decide), hF28 46 (by decide), hF28 47 (by decide), hF28 48 (by decide)]) ec1
            refine pw_iload2 C dX11_holds_28 ?_
            refine pw_aload0 C dX11_holds_29 ?_
            refine pw_cVi0 C (c_X11_rows _ K _ (by rw [eM3]; exact hW)) cb_X11_rows lay_43 kc_11 rfl ml_X11_130 dX11_holds_30 (by decide) (Nat.le_of_ble_eq_true rfl) (fun r30 M30 hQ => ?_)
            obtain ⟨rfl, hMe⟩ := hQ
            replace hMe := hMe.symm
            subst hMe
            rw [eM3]
            refine pw_icmp_ge (tgt := 114) C dX11_holds_33 (by decide) (by omega) (by omega) (fun h33 => ?_) (fun h33 => ?_)
            · refine pw_iconst C dX11_holds_114 ?_
              refine pw_istore2 C (by decide) dX11_holds_115 ?_
              have cut_116 : ∀ (fu : Nat) (w : Int) (M6 : Mem), Sm [54] M1 M6 → (0 ≤ w ∧ w ≤ M 43 6) → (H01 (M6 54)) → (∃ I, HoA (cfM M) r0 (nK (cfM M)) I ∧ Dn w I (M6 54)) → (M 43 6 - w).toNat < fu → PW X K LAY 5 (0, 0) (Zv X K LAY (fun M' => (∀ S, 0 ≤ S → S < 256 → (M' 54 S = 1 ↔ Hd (cfM M) r0 S)) ∧ (H01 (M' 54)) ∧ (M' 43 13 = 1) ∧ (KnOK (cfM M) M') ∧ Sm [43, 51, 52, 53, 54] M M' ∧ Fm [13] M M')) 116 [some (rV K 43), some (iV r0), some (iV w), none, none] [] M6 := by
                intro fu
                induction fu with
                | zero => intro _ _ _ _ _ _ hm; exact absurd hm (Nat.not_lt_zero _)
                | succ fu ih =>
                  intro w M6 hF116 hw u1 u2 hm
                  have ih_116 := ih
                  have hm_116 := hm
                  refine pw_iload2 C dX11_holds_116 ?_
                  refine pw_aload0 C dX11_holds_117 ?_
                  refine g_43_6 C fl_X11_85 dX11_holds_118 ?_
                  refine pw_top C _ (congrFun (hF116 43 (by decide)) _) ?_
                  refine pw_top C _ (hJ1 6 (by decide)) ?_
                  refine pw_icmp_ge (tgt := 176) C dX11_holds_121 (by decide) (by omega) (by omega) (fun h121 => ?_) (fun h121 => ?_)
                  · exact pw_vretV C dX11_holds_176 (⟨by
                          obtain ⟨I, i1, i2⟩ := u2
                          exact Ho_Hd hW i1 (by rw [show kW (cfM M) = w by show M 43 6 = w; omega]; exact i2), by exact u1, by rw [hF116 43 (by decide)]; exact h2_1, by exact KnOK_c (hF116 52 (by decide)) h1_1, (Sm_trans (Sm_trans Sm_refl hF1 (by decide)) hF116 (by decide)), (Fm_fr (Fm_tr Fm_refl hJ1 (by decide)) hF116 (by decide))⟩)
                  · refine pw_iconst C dX11_holds_124 ?_
                    refine pw_istore3 C (by decide) dX11_holds_125 ?_
                    have cut_126 : ∀ (fu : Nat) (s : Int) (M7 : Mem), Sm [54] M6 M7 → (0 ≤ s ∧ s ≤ 256) → (H01 (M7 54)) → (PsI (M6 54) (M7 54) w s) → (256 - s).toNat < fu → PW X K LAY 5 (0, 0) (Zv X K LAY (fun M' => (∀ S, 0 ≤ S → S < 256 → (M' 54 S = 1 ↔ Hd (cfM M) r0 S)) ∧ (H01 (M' 54)) ∧ (M' 43 13 = 1) ∧ (KnOK (cfM M) M') ∧ Sm [43, 51, 52, 53, 54] M M' ∧ Fm [13] M M')) 126 [some (rV K 43), some (iV r0), some (iV w), some (iV s), none] [] M7 := by
                      intro fu
                      induction fu with
                      | zero => intro _ _ _ _ _ _ hm; exact absurd hm (Nat.not_lt_zero _)
                      | succ fu ih =>
                        intro s M7 hF126 hs v1 v2 hm
                        have ih_126 := ih
                        have hm_126 := hm
                        refine pw_iload3 C dX11_holds_126 ?_
                        refine pw_sipush C dX11_holds_127 (by decide) ?_
                        refine pw_icmp_ge (tgt := 170) C dX11_holds_130 (by decide) (by omega) (by omega) (fun h130 => ?_) (fun h130 => ?_)
                        · refine pw_iinc2 C (by decide) dX11_holds_170 ?_
                          refine pw_goto (tgt := 116) C dX11_holds_173 (by decide) ?_
                          refine pw_fgt (fgt_k (fgt_k (fgt_k (fgt_no (fgt_no fgt_nil))))) ?_
                          exact ih_116 _ _ (Sm_trans (Sm_trans Sm_refl hF116 (by decide)) hF126 (by decide)) (by omega) (by exact v1) (by
                                obtain ⟨I, i1, i2⟩ := u2
                                exact ⟨I, i1, Dn_s (by omega) i2 (PsI_end (by omega) (by rw [show (256 : Int) = s by omega]; exact v2))⟩) (by omega)
                        · have hd := dv_pos (x := s) (i := w) (by omega)
                          have ht := tb_mod (x := s) (i := w) (by omega)
                          have hv := v1 s (by omega) (by omega)
                          have hp2 := p2_lt (n := w) (by omega)
                          have cut_164 : ∀  (M8 : Mem), Sm [54] M7 M8 → (H01 (M8 54)) → (PsI (M6 54) (M8 54) w (s + 1)) → PW X K LAY 5 (0, 0) (Zv X K LAY (fun M' => (∀ S, 0 ≤ S → S < 256 → (M' 54 S = 1 ↔ Hd (cfM M) r0 S)) ∧ (H01 (M' 54)) ∧ (M' 43 13 = 1) ∧ (KnOK (cfM M) M') ∧ Sm [43, 51, 52, 53, 54] M M' ∧ Fm [13] M M')) 164 [some (rV K 43), some (iV r0), some (iV w), some (iV s), none] [] M8 := by
                            intro M8 hF164 x1 x2
                            refine pw_iinc3 C (by decide) dX11_holds_164 ?_
                            refine pw_goto (tgt := 126) C dX11_holds_167 (by decide) ?_
                            exact ih_126 _ _ (Sm_trans (Sm_trans Sm_refl hF126 (by decide)) hF164 (by decide)) (by omega) (by exact x1) (by exact x2) (by omega)
                          refine pw_iload3 C dX11_holds_133 ?_
                          refine pw_iload2 C dX11_holds_134 ?_
                          refine pw_ishr C (s / 2 ^ w.toNat) (b_shr (by omega) (by omega)) dX11_holds_135 ?_
                          refine pw_iconst C dX11_holds_136 ?_
                          refine pw_iand C (s / 2 ^ w.toNat % 2) (b_and1 hd.1) dX11_holds_137 ?_
                          refine pw_iconst C dX11_holds_138 ?_
                          refine pw_icmp_ne (tgt := 164) C dX11_holds_139 (by decide) (by omega) (by omega) (fun h139 => ?_) (fun h139 => ?_)
                          · have hb : s.toNat.testBit w.toNat = false := by
                              cases e : s.toNat.testBit w.toNat with
                              | false => rfl
                              | true => rw [e, if_pos rfl] at ht; exact absurd ht h139
                            exact cut_164 _ Sm_refl (by exact v1) (by exact PsI_no v2 (fun q => by rw [hb] at q; cases q))
                          · have hb : s.toNat.testBit w.toNat = true := by
                              cases e : s.toNat.testBit w.toNat with
                              | true => rfl
                              | false => rw [e, if_neg (by decide)] at ht; omega
                            have hck := clr_ok (s := s) (w := w) (by omega) (by omega) hb
                            refine pw_aload0 C dX11_holds_142 ?_
                            refine g_43_23 C fl_X11_52 dX11_holds_143 ?_
                            refine pw_iload3 C dX11_holds_146 ?_
                            refine pw_zaload C lay_54 (by omega) (by decide) dX11_holds_147 ?_
                            refine pw_if_eq (tgt := 164) C dX11_holds_148 (by decide) (by omega) (fun h148 => ?_) (fun h148 => ?_)
                            · exact cut_164 _ Sm_refl (by exact v1) (by exact PsI_no v2 (fun _ q => by have := (v2 s (by omega) (by omega)).mpr (Or.inl q); omega))
                            · refine pw_aload0 C dX11_holds_151 ?_
                              refine g_43_23 C fl_X11_52 dX11_holds_152 ?_
                              refine pw_iload3 C dX11_holds_155 ?_
                              refine pw_iconst C dX11_holds_156 ?_
                              refine pw_iload2 C dX11_holds_157 ?_
                              refine pw_ishl C (1 * 2 ^ w.toNat) (b_shl (by omega) (by omega) (by omega)) dX11_holds_158 ?_
                              refine pw_iconst C dX11_holds_159 ?_
                              refine pw_ixor C (-(1 * 2 ^ w.toNat) - 1) (b_not (by omega)) dX11_holds_160 ?_
                              refine pw_iand C (s - 1 * 2 ^ w.toNat) (hck.2.2.2) dX11_holds_161 ?_
                              refine pw_iconst C dX11_holds_162 ?_
                              refine pw_zastore C lay_54 (by omega) (by decide) (by decide) dX11_holds_163 ?_
                              exact cut_164 _ (Sm_up Sm_refl (by decide)) (by exact H01_up v1 (fun S => rd_if)) (by
                                    refine PsI_yes (by omega) (by omega) hb ?_ v2 (fun S => rd_if)
                                    rcases (v2 s (by omega) (by omega)).mp (by omega) with q | q
                                    · exact q
                                    · rw [hb] at q; cases q.1)
                    exact cut_126 _ _ _ Sm_refl (by omega) (by exact u1) (by exact PsI_0) (Nat.lt_succ_self _)
              exact cut_116 _ _ _ (Sm_trans Sm_refl hF28 (by decide)) (by omega) (by exact a1) (by exact ⟨M3 54, by rw [show nK (cfM M) = k by omega]; exact a2, Dn_0⟩) (Nat.lt_succ_self _)
            · have cut_108 : ∀  (M5 : Mem), Sm [54] M3 M5 → (H01 (M5 54)) → (HoA (cfM M) r0 (k + 1) (M5 54)) → PW X K LAY 5 (0, 0) (Zv X K LAY (fun M' => (∀ S, 0 ≤ S → S < 256 → (M' 54 S = 1 ↔ Hd (cfM M) r0 S)) ∧ (H01 (M' 54)) ∧ (M' 43 13 = 1) ∧ (KnOK (cfM M) M') ∧ Sm [43, 51, 52, 53, 54] M M' ∧ Fm [13] M M')) 108 [some (rV K 43), some (iV r0), some (iV k), none, none] [] M5 := by
                intro M5 hF108 b1 b2
                refine pw_iinc2 C (by decide) dX11_holds_108 ?_
                refine pw_goto (tgt := 28) C dX11_holds_111 (by decide) ?_
                exact ih_28 _ _ (Sm_trans (Sm_trans Sm_refl hF28 (by decide)) hF108 (by decide)) (by omega) (by exact b1) (by exact b2) (by omega)
              refine pw_aload0 C dX11_holds_36 ?_
              refine pw_iload2 C dX11_holds_37 ?_
              refine pw_cVi1 C (c_X11_isCandidate _ K _ _ (by rw [eM3]; exact hW) (by rw [eM3]; exact KnOK_c (hF28 52 (by decide)) h1_1) (by rw [eM3]; omega)) cb_X11_isCandidate lay_43 kc_11 rfl ml_X11_148 dX11_holds_38 (by decide) (Nat.le_of_ble_eq_true rfl) (fun r38 M38 hQ => ?_)
              obtain ⟨rfl, hMe⟩ := hQ
              replace hMe := hMe.symm
              subst hMe
              rw [eM3]
              refine pw_if_ne (tgt := 47) C dX11_holds_41 (by decide) (by split <;> omega) (fun h41 => ?_) (fun h41 => ?_)
              · have e41 : cdK (cfM M) k = true := Decidable.byContradiction fun h => by rw [if_neg h] at h41; omega
                refine pw_iconst C dX11_holds_47 ?_
                refine pw_istore3 C (by decide) dX11_holds_48 ?_
                refine pw_iconst C dX11_holds_49 ?_
                refine pw_istore4 C (by decide) dX11_holds_50 ?_
                have cut_52 : ∀ (fu : Nat) (b w : Int), (0 ≤ w ∧ w ≤ M 43 6) → (b = hsK (cfM M) r0 k w) → (M 43 6 - w).toNat < fu → PW X K LAY 5 (0, 0) (Zv X K LAY (fun M' => (∀ S, 0 ≤ S → S < 256 → (M' 54 S = 1 ↔ Hd (cfM M) r0 S)) ∧ (H01 (M' 54)) ∧ (M' 43 13 = 1) ∧ (KnOK (cfM M) M') ∧ Sm [43, 51, 52, 53, 54] M M' ∧ Fm [13] M M')) 52 [some (rV K 43), some (iV r0), some (iV k), some (iV b), some (iV w)] [] M3 := by
                  intro fu
                  induction fu with
                  | zero => intro _ _ _ _ hm; exact absurd hm (Nat.not_lt_zero _)
                  | succ fu ih =>
                    intro b w hw hb hm
                    have ih_52 := ih
                    have hm_52 := hm
                    refine pw_iload4 C dX11_holds_52 ?_
                    refine pw_aload0 C dX11_holds_54 ?_
                    refine g_43_6 C fl_X11_85 dX11_holds_55 ?_
                    refine pw_top C _ (congrFun (hF28 43 (by decide)) _) ?_
                    refine pw_top C _ (hJ1 6 (by decide)) ?_
                    refine pw_icmp_ge (tgt := 101) C dX11_holds_58 (by decide) (by omega) (by omega) (fun h58 => ?_) (fun h58 => ?_)
                    · have hbr : 0 ≤ hsK (cfM M) r0 k w ∧ hsK (cfM M) r0 k w < 256 := bsI_rng (by omega)
                      rw [← hb] at hbr
                      refine pw_aload0 C dX11_holds_101 ?_
                      refine g_43_23 C fl_X11_52 dX11_holds_102 ?_
                      refine pw_iload3 C dX11_holds_105 ?_
                      refine pw_iconst C dX11_holds_106 ?_
                      refine pw_zastore C lay_54 (by omega) (by decide) (by decide) dX11_holds_107 ?_
                      refine pw_fgt (fgt_k (fgt_k (fgt_k (fgt_no (fgt_no fgt_nil))))) ?_
                      exact cut_108 _ (Sm_up Sm_refl (by decide)) (by exact H01_up a1 (fun S => rd_if)) (by
                            refine HoA_yes a2 (by omega) e41 (fun S => ?_)
                            rw [rd_if, hb, show w = kW (cfM M) by show w = M 43 6; omega])
                    · have hbr : 0 ≤ hsK (cfM M) r0 k w ∧ hsK (cfM M) r0 k w < 256 := bsI_rng (by omega)
                      rw [← hb] at hbr
                      have hpw := wm_p hW w (by omega) (by omega)
                      have hp2 := p2_lt (n := w) (by omega)
                      have cut_95 : ∀  (b9 : Int), (b9 = hsK (cfM M) r0 k (w + 1)) → PW X K LAY 5 (0, 0) (Zv X K LAY (fun M' => (∀ S, 0 ≤ S → S < 256 → (M' 54 S = 1 ↔ Hd (cfM M) r0 S)) ∧ (H01 (M' 54)) ∧ (M' 43 13 = 1) ∧ (KnOK (cfM M) M') ∧ Sm [43, 51, 52, 53, 54] M M' ∧ Fm [13] M M')) 95 [some (rV K 43), some (iV r0), some (iV k), some (iV b9), some (iV w)] [] M3 := by
                        intro b9 hb9
                        refine pw_iinc4 C (by decide) dX11_holds_95 ?_
                        refine pw_goto (tgt := 52) C dX11_holds_98 (by decide) ?_
                        exact ih_52 _ _ (by omega) (by exact hb9) (by omega)
                      refine pw_aload0 C dX11_holds_61 ?_
                      refine g_43_9 C fl_X11_27 dX11_holds_62 ?_
                      refine pw_iload4 C dX11_holds_65 ?_
                      refine pw_iaload C lay_46 (by omega) (by decide) dX11_holds_67 ?_
                      refine pw_top C _ (congrFun (hF28 46 (by decide)) _) ?_
                      refine pw_top C _ (congrFun (hF1 46 (by decide)) _) ?_
                      refine pw_iconst C dX11_holds_68 ?_
                      refine pw_icmp_ne (tgt := 95) C dX11_holds_69 (by decide) (by omega) (by omega) (fun h69 => ?_) (fun h69 => ?_)
                      · exact cut_95 _ (by rw [hb]; exact (hs_no (by omega) (fun q => h69 q.1)).symm)
                      · refine pw_aload0 C dX11_holds_72 ?_
                        refine g_43_21 C fl_X11_46 dX11_holds_73 ?_
                        refine pw_bipush C dX11_holds_76 (by decide) ?_
                        refine pw_iload2 C dX11_holds_78 ?_
                        refine pw_imul C dX11_holds_79 ?_
                        refine pw_iload4 C dX11_holds_80 ?_
                        refine pw_iadd C dX11_holds_82 ?_
                        refine pw_baload C lay_52 (by omega) (by decide) dX11_holds_83 ?_
                        refine pw_top C _ (congrFun (hF28 52 (by decide)) _) ?_
                        have hkn := h1_1 k (by omega) (by omega) w (by omega) (by show w < M 43 6; omega)
                        have hkr := KnOK_rng hW h1_1 (k := k) (w := w) (by omega) (by constructor; omega; show w < M 43 6; omega)
                        refine pw_top C (Dw (cfM M) (rwX (cfM M) k) w) hkn ?_
                        rw [hkn] at hkr
                        refine pw_iload1 C dX11_holds_84 ?_
                        refine pw_icmp_gt (tgt := 95) C dX11_holds_85 (by decide) (by omega) (by omega) (fun h85 => ?_) (fun h85 => ?_)
                        · exact cut_95 _ (by rw [hb]; exact (hs_no (by omega) (fun q => by have := q.2; omega)).symm)
                        · refine pw_iload3 C dX11_holds_88 ?_
                          refine pw_iconst C dX11_holds_89 ?_
                          refine pw_iload4 C dX11_holds_90 ?_
                          refine pw_ishl C (1 * 2 ^ w.toNat) (b_shl (by omega) (by omega) (by omega)) dX11_holds_92 ?_
                          refine pw_ior C (((b.toNat ||| (1 * 2 ^ w.toNat : Int).toNat : Nat) : Int)) (b_or (by omega) (by omega)) dX11_holds_93 ?_
                          refine pw_istore3 C (by decide) dX11_holds_94 ?_
                          exact cut_95 _ (by rw [hb]; exact (hs_yes (by omega) ⟨h69, by omega⟩).symm)
                exact cut_52 _ _ _ (by omega) (by rfl) (Nat.lt_succ_self _)
              · have e41 : cdK (cfM M) k = false := Bool.eq_false_iff.mpr (fun h => by rw [if_pos h] at h41; omega)
                refine pw_goto (tgt := 108) C dX11_holds_44 (by decide) ?_
                exact cut_108 _ Sm_refl (by exact a1) (by exact HoA_no a2 e41)
        exact cut_28 _ _ _ (Sm_trans Sm_refl hF6 (by decide)) (by omega) (by intro S q1 q2; exact Or.inl (g S q1 (by omega))) (by exact HoA_0 (fun S q1 q2 => g S q1 (by omega))) (Nat.lt_succ_self _)
      · refine pw_aload0 C dX11_holds_13 ?_
        refine g_43_23 C fl_X11_52 dX11_holds_14 ?_
        refine pw_iload2 C dX11_holds_17 ?_
        refine pw_iconst C dX11_holds_18 ?_
        refine pw_zastore C lay_54 (by omega) (by decide) (by decide) dX11_holds_19 ?_
        refine pw_iinc2 C (by decide) dX11_holds_20 ?_
        refine pw_goto (tgt := 6) C dX11_holds_23 (by decide) ?_
        exact ih_6 _ _ (Sm_up (Sm_trans Sm_refl hF6 (by decide)) (by decide)) (by omega) (by
              intro j q1 q2
              by_cases e : j = i
              · rw [e]; exact rd_eq
              · rw [rd_ne e]; exact g j q1 (by omega)) (by omega)
  exact cut_6 _ _ _ Sm_refl (by omega) (by intro j q1 q2; omega) (Nat.lt_succ_self _)
