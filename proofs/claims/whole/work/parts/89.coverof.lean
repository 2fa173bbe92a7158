theorem mn2_le {a b j : Int} : (if a ≤ b then a else b) ≤ j ↔ a ≤ j ∨ b ≤ j := by
  split <;> omega
theorem Rt_top {c : Cfg} {r s j : Int} {B : Int → Int} (hs : 0 ≤ s) : ¬ RtS c r B s s j := by
  rintro ⟨x, x1, x2, -⟩
  have h5 : x.toNat &&& s.toNat ≤ s.toNat := Nat.and_le_right
  have h6 := (sub2_and (a := x) (b := s) (by omega)).mpr x2
  omega
theorem Rt_no {c : Cfg} {r s a j : Int} {B : Int → Int} (h : ¬ Hd c r a) : RtS c r B s (a - 1) j ↔ RtS c r B s a j := by
  constructor
  · rintro ⟨x, x1, x2, x3, x4⟩
    have : x ≠ a := fun q => h (by rw [← q]; exact x3)
    exact ⟨x, by omega, x2, x3, x4⟩
  · rintro ⟨x, x1, x2⟩
    exact ⟨x, by omega, x2⟩
theorem Rt_yes {c : Cfg} {r s a j : Int} {B : Int → Int} (ha : a < 256) (hs : sub2 a s) (h : Hd c r a) : RtS c r B s (a - 1) j ↔ RtS c r B s a j ∨ B (andn s a) + 1 ≤ j := by
  constructor
  · rintro ⟨x, x1, x2, x3, x4⟩
    by_cases e : x = a
    · rw [e] at x4; exact Or.inr x4
    · exact Or.inl ⟨x, by omega, x2, x3, x4⟩
  · rintro (⟨x, x1, x2⟩ | q)
    · exact ⟨x, by omega, x2⟩
    · exact ⟨a, by omega, hs, h, q⟩
theorem Rt_nx {c : Cfg} {r s a j : Int} {B : Int → Int} (ha : 0 < a) (hs : 0 ≤ s) (h : sub2 a s) : RtS c r B s (nxs a s) j ↔ RtS c r B s (a - 1) j := by
  obtain ⟨n1, n2, n3, n4⟩ := nxs_ok ha hs h
  constructor
  · rintro ⟨x, x1, x2⟩
    refine ⟨x, ?_, x2⟩
    have : ¬ x < a := fun q => by have := n4 x (by omega) q x2.1; omega
    omega
  · rintro ⟨x, x1, x2⟩
    exact ⟨x, by omega, x2⟩
set_option maxHeartbeats 4000000 in
set_option maxRecDepth 100000 in
theorem c_X11_coverOf (l : Launch) (K : KX) (M : Mem) (r0 : Int) (hW : WfK (cfM M)) (hKn : M 43 13 = 0 ∨ (M 43 13 = 1 ∧ KnOK (cfM M) M)) (hr : 0 ≤ r0 ∧ r0 ≤ 63) : MCi l K LAY yX11_coverOf cX11_coverOf 5 (some .int) 5 [rV K 43, iV r0] M (fun r M' => ((0 ≤ r ∧ r ≤ 9) ∧ ∀ j, 0 ≤ j → j ≤ 8 → (r ≤ j ↔ HCj (cfM M) r0 j (nrB (cfM M)))) ∧ (M' 43 13 = 1) ∧ (KnOK (cfM M) M') ∧ Sm [43, 51, 52, 53, 54, 55] M M' ∧ Fm [13] M M') := by
  refine mci_intro RX11 rfl [some (rV K 43), some (iV r0), none, none, none] rfl (by decide +kernel) (cat_r (cat_i cat_nil)) (Nat.le_of_ble_eq_true rfl) (fun X hX C => ?_)
  subst hX
  have w_let := wm_let hW
  have w_sw := wm_sw hW
  have w_dr := wm_dr hW
  have w_gp := wm_gp hW
  have w_w := wm_w hW
  have w_l := wm_l hW
  have w_l1 := wm_l1 hW
  have w_t := wm_t hW
  have hK0 := nK_pos hW
  have hK1 := nK_le hW
  have hnb : 0 ≤ nrB (cfM M) ∧ nrB (cfM M) < 256 := bsI_rng (p := M 46) (v := 1) (n := M 43 6) (by omega)
  refine pw_aload0 C dX11_coverOf_0 ?_
  refine pw_iload1 C dX11_coverOf_1 ?_
  refine pw_cVv1 C (c_X11_holds _ K _ _ (hW) (hKn) (hr)) cb_X11_holds lay_43 kc_11 rfl ml_X11_166 dX11_coverOf_2 (by decide) (Nat.le_of_ble_eq_true rfl) (fun M2 hQ => ?_)
  obtain ⟨h1_2, h4_2, h2_2, h3_2, hF2, hJ2⟩ := hQ
  have ec2 : cfM M2 = cfM M := cfM_e (hJ2 1 (by decide)) (hJ2 3 (by decide)) (hJ2 4 (by decide)) (hJ2 5 (by decide)) (hJ2 6 (by decide)) (hJ2 7 (by decide)) (hJ2 10 (by decide)) (hF2 44 (by decide)) (hF2 45 (by decide)) (hF2 46 (by decide)) (hF2 47 (by decide)) (hF2 48 (by decide))
  refine pw_aload0 C dX11_coverOf_5 ?_
  refine pw_cVi0 C (c_X11_nearBits _ K _ (by rw [ec2]; exact hW)) cb_X11_nearBits lay_43 kc_11 rfl ml_X11_170 dX11_coverOf_6 (by decide) (Nat.le_of_ble_eq_true rfl) (fun r6 M6 hQ => ?_)
  obtain ⟨rfl, hMe⟩ := hQ
  replace hMe := hMe.symm
  subst hMe
  refine pw_top C (nrB (cfM M)) (by rw [← ec2]; rfl) ?_
  refine pw_istore2 C (by decide) dX11_coverOf_9 ?_
  refine pw_aload0 C dX11_coverOf_10 ?_
  refine g_43_24 C fl_X11_56 dX11_coverOf_11 ?_
  refine pw_iconst C dX11_coverOf_14 ?_
  refine pw_iconst C dX11_coverOf_15 ?_
  refine pw_iastore C lay_55 (by omega) (by decide) dX11_coverOf_16 ?_
  refine pw_iconst C dX11_coverOf_17 ?_
  refine pw_istore3 C (by decide) dX11_coverOf_18 ?_
  have cut_19 : ∀ (fu : Nat) (s : Int) (M3 : Mem), Sm [55] M2 M3 → (1 ≤ s ∧ s ≤ 256) → (∀ S, 0 ≤ S → S < s → 0 ≤ M3 55 S ∧ M3 55 S ≤ 9) → (∀ S, 0 ≤ S → S < s → sub2 S (nrB (cfM M)) → ∀ j, 0 ≤ j → j ≤ 8 → (M3 55 S ≤ j ↔ HCj (cfM M) r0 j S)) → (256 - s).toNat < fu → PW X K LAY 5 (0, 0) (Zi X K LAY (fun r M' => ((0 ≤ r ∧ r ≤ 9) ∧ ∀ j, 0 ≤ j → j ≤ 8 → (r ≤ j ↔ HCj (cfM M) r0 j (nrB (cfM M)))) ∧ (M' 43 13 = 1) ∧ (KnOK (cfM M) M') ∧ Sm [43, 51, 52, 53, 54, 55] M M' ∧ Fm [13] M M')) 19 [some (rV K 43), some (iV r0), some (iV (nrB (cfM M))), some (iV s), none] [] M3 := by
    intro fu
    induction fu with
    | zero => intro _ _ _ _ _ _ hm; exact absurd hm (Nat.not_lt_zero _)
    | succ fu ih =>
      intro s M3 hF19 hs g1 g2 hm
      have ih_19 := ih
      have hm_19 := hm
      refine pw_iload3 C dX11_coverOf_19 ?_
      refine pw_sipush C dX11_coverOf_20 (by decide) ?_
      refine pw_icmp_ge (tgt := 108) C dX11_coverOf_23 (by decide) (by omega) (by omega) (fun h23 => ?_) (fun h23 => ?_)
      · refine pw_bipush C dX11_coverOf_108 (by decide) ?_
        refine pw_aload0 C dX11_coverOf_110 ?_
        refine g_43_24 C fl_X11_56 dX11_coverOf_111 ?_
        refine pw_iload2 C dX11_coverOf_114 ?_
        refine pw_iaload C lay_55 (by omega) (by decide) dX11_coverOf_115 ?_
        have hgN := g1 (nrB (cfM M)) hnb.1 (by omega)
        refine pw_mmin C (by omega) (by omega) (Nat.le_of_ble_eq_true rfl) ml_X11_117 dX11_coverOf_116 ?_
        exact pw_iretI C dX11_coverOf_119 (⟨by
              refine ⟨by split <;> omega, fun j j1 j2 => ?_⟩
              rw [mn2_le, ← g2 (nrB (cfM M)) hnb.1 (by omega) (sub2_rf _) j j1 j2]; omega, by rw [hF19 43 (by decide)]; exact h2_2, by exact KnOK_c (hF19 52 (by decide)) h3_2, (Sm_trans (Sm_trans Sm_refl hF2 (by decide)) hF19 (by decide)), (Fm_fr (Fm_tr Fm_refl hJ2 (by decide)) hF19 (by decide))⟩)
      · have han := andn_rng (i := s) (N := (nrB (cfM M))) (by omega)
        have cut_102 : ∀  (M5 : Mem), Sm [55] M3 M5 → (∀ S, 0 ≤ S → S < s + 1 → 0 ≤ M5 55 S ∧ M5 55 S ≤ 9) → (∀ S, 0 ≤ S → S < s + 1 → sub2 S (nrB (cfM M)) → ∀ j, 0 ≤ j → j ≤ 8 → (M5 55 S ≤ j ↔ HCj (cfM M) r0 j S)) → PW X K LAY 5 (0, 0) (Zi X K LAY (fun r M' => ((0 ≤ r ∧ r ≤ 9) ∧ ∀ j, 0 ≤ j → j ≤ 8 → (r ≤ j ↔ HCj (cfM M) r0 j (nrB (cfM M)))) ∧ (M' 43 13 = 1) ∧ (KnOK (cfM M) M') ∧ Sm [43, 51, 52, 53, 54, 55] M M' ∧ Fm [13] M M')) 102 [some (rV K 43), some (iV r0), some (iV (nrB (cfM M))), some (iV s), none] [] M5 := by
          intro M5 hF102 k1 k2
          refine pw_iinc3 C (by decide) dX11_coverOf_102 ?_
          refine pw_goto (tgt := 19) C dX11_coverOf_105 (by decide) ?_
          exact ih_19 _ _ (Sm_trans (Sm_trans Sm_refl hF19 (by decide)) hF102 (by decide)) (by omega) (by exact k1) (by exact k2) (by omega)
        refine pw_aload0 C dX11_coverOf_26 ?_
        refine g_43_24 C fl_X11_56 dX11_coverOf_27 ?_
        refine pw_iload3 C dX11_coverOf_30 ?_
        refine pw_bipush C dX11_coverOf_31 (by decide) ?_
        refine pw_iastore C lay_55 (by omega) (by decide) dX11_coverOf_33 ?_
        refine pw_iload3 C dX11_coverOf_34 ?_
        refine pw_iload2 C dX11_coverOf_35 ?_
        refine pw_iconst C dX11_coverOf_36 ?_
        refine pw_ixor C (-(nrB (cfM M)) - 1) (b_noti hnb) dX11_coverOf_37 ?_
        refine pw_iand C (andn s (nrB (cfM M))) (b_andn (by omega) hnb) dX11_coverOf_38 ?_
        refine pw_if_eq (tgt := 45) C dX11_coverOf_39 (by decide) (by omega) (fun h39 => ?_) (fun h39 => ?_)
        · have hys : sub2 s (nrB (cfM M)) := (andn_0 (by omega)).mp h39
          refine pw_iload3 C dX11_coverOf_45 ?_
          refine pw_istore4 C (by decide) dX11_coverOf_46 ?_
          have cut_48 : ∀ (fu : Nat) (a : Int) (M4 : Mem), Sm [55] M3 M4 → (0 ≤ a ∧ a < 256) → (sub2 a s) → (∀ T, T ≠ s → M4 55 T = M3 55 T) → (∀ j, j ≤ 8 → (M4 55 s ≤ j ↔ RtS (cfM M) r0 (M3 55) s (a) j)) → (0 ≤ M4 55 s ∧ M4 55 s ≤ 9) → (a).toNat < fu → PW X K LAY 5 (0, 0) (Zi X K LAY (fun r M' => ((0 ≤ r ∧ r ≤ 9) ∧ ∀ j, 0 ≤ j → j ≤ 8 → (r ≤ j ↔ HCj (cfM M) r0 j (nrB (cfM M)))) ∧ (M' 43 13 = 1) ∧ (KnOK (cfM M) M') ∧ Sm [43, 51, 52, 53, 54, 55] M M' ∧ Fm [13] M M')) 48 [some (rV K 43), some (iV r0), some (iV (nrB (cfM M))), some (iV s), some (iV a)] [] M4 := by
            intro fu
            induction fu with
            | zero => intro _ _ _ _ _ _ _ _ hm; exact absurd hm (Nat.not_lt_zero _)
            | succ fu ih =>
              intro a M4 hF48 ha hsb d1 d2 d3 hm
              have ih_48 := ih
              have hm_48 := hm
              refine pw_iload4 C dX11_coverOf_48 ?_
              refine pw_if_le (tgt := 102) C dX11_coverOf_50 (by decide) (by omega) (fun h50 => ?_) (fun h50 => ?_)
              · refine pw_fgt (fgt_k (fgt_k (fgt_k (fgt_k (fgt_no fgt_nil))))) ?_
                exact cut_102 _ (Sm_trans Sm_refl hF48 (by decide)) (by
                      intro S q1 q2
                      by_cases e : S = s
                      · rw [e]; exact d3
                      · rw [d1 S e]; exact g1 S q1 (by omega)) (by
                      intro S q1 q2 q3 j j1 j2
                      by_cases e : S = s
                      · rw [e, d2 j j2, show a = 0 by omega]; exact HC_s (by omega) ⟨j1, j2⟩ (fun T t1 t2 => (g1 T t1 t2).1) (fun T t1 t2 t3 i i1 i2 => g2 T t1 t2 (sub2_tr t3 hys) i i1 i2)
                      · rw [d1 S e]; exact g2 S q1 (by omega) q3 j j1 j2)
              · have hx := xr_ok (s := s) (a := a) (by omega) (by omega) hsb
                have hax := andn_xr (s := s) (a := a) (by omega) (by omega) hsb
                have hgx := g1 (andn s a) (by omega) (by omega)
                have hv := h4_2 a (by omega) (by omega)
                have hh := h1_2 a (by omega) (by omega)
                have hnx := nxs_ok (i := a) (s := s) (by omega) (by omega) hsb
                have cut_91 : ∀  (M6 : Mem), Sm [55] M4 M6 → (∀ T, T ≠ s → M6 55 T = M3 55 T) → (∀ j, j ≤ 8 → (M6 55 s ≤ j ↔ RtS (cfM M) r0 (M3 55) s (a - 1) j)) → (0 ≤ M6 55 s ∧ M6 55 s ≤ 9) → PW X K LAY 5 (0, 0) (Zi X K LAY (fun r M' => ((0 ≤ r ∧ r ≤ 9) ∧ ∀ j, 0 ≤ j → j ≤ 8 → (r ≤ j ↔ HCj (cfM M) r0 j (nrB (cfM M)))) ∧ (M' 43 13 = 1) ∧ (KnOK (cfM M) M') ∧ Sm [43, 51, 52, 53, 54, 55] M M' ∧ Fm [13] M M')) 91 [some (rV K 43), some (iV r0), some (iV (nrB (cfM M))), some (iV s), some (iV a)] [] M6 := by
                  intro M6 hF91 e1 e2 e3
                  refine pw_iload4 C dX11_coverOf_91 ?_
                  refine pw_iconst C dX11_coverOf_93 ?_
                  refine pw_isub C dX11_coverOf_94 ?_
                  refine pw_iload3 C dX11_coverOf_95 ?_
                  refine pw_iand C (nxs a s) (by unfold nxs; exact b_and (by omega) (by omega)) dX11_coverOf_96 ?_
                  refine pw_istore4 C (by decide) dX11_coverOf_97 ?_
                  refine pw_goto (tgt := 48) C dX11_coverOf_99 (by decide) ?_
                  exact ih_48 _ _ (Sm_trans (Sm_trans Sm_refl hF48 (by decide)) hF91 (by decide)) (by omega) (by exact hnx.2.2.1) (by exact e1) (by intro j q; rw [e2 j q]; exact (Rt_nx (by omega) (by omega) hsb).symm) (by exact e3) (by omega)
                refine pw_aload0 C dX11_coverOf_53 ?_
                refine g_43_23 C fl_X11_52 dX11_coverOf_54 ?_
                refine pw_iload4 C dX11_coverOf_57 ?_
                refine pw_zaload C lay_54 (by omega) (by decide) dX11_coverOf_59 ?_
                refine pw_top C _ (congrFun (hF48 54 (by decide)) _) ?_
                refine pw_top C _ (congrFun (hF19 54 (by decide)) _) ?_
                refine pw_if_eq (tgt := 91) C dX11_coverOf_60 (by decide) (by omega) (fun h60 => ?_) (fun h60 => ?_)
                · have hno : ¬ Hd (cfM M) r0 a := fun q => by have := hh.mpr q; omega
                  exact cut_91 _ Sm_refl (by exact d1) (by intro j q; rw [d2 j q]; exact (Rt_no hno).symm) (by exact d3)
                · have hye : Hd (cfM M) r0 a := hh.mp (by omega)
                  refine pw_aload0 C dX11_coverOf_63 ?_
                  refine g_43_24 C fl_X11_56 dX11_coverOf_64 ?_
                  refine pw_iload3 C dX11_coverOf_67 ?_
                  refine pw_aload0 C dX11_coverOf_68 ?_
                  refine g_43_24 C fl_X11_56 dX11_coverOf_69 ?_
                  refine pw_iload3 C dX11_coverOf_72 ?_
                  refine pw_iaload C lay_55 (by omega) (by decide) dX11_coverOf_73 ?_
                  refine pw_aload0 C dX11_coverOf_74 ?_
                  refine g_43_24 C fl_X11_56 dX11_coverOf_75 ?_
                  refine pw_iload3 C dX11_coverOf_78 ?_
                  refine pw_iload4 C dX11_coverOf_79 ?_
                  refine pw_iconst C dX11_coverOf_81 ?_
                  refine pw_ixor C (-a - 1) (b_noti (by omega)) dX11_coverOf_82 ?_
                  refine pw_iand C (andn s a) (b_andn (by omega) (by omega)) dX11_coverOf_83 ?_
                  refine pw_iaload C lay_55 (by omega) (by decide) dX11_coverOf_84 ?_
                  refine pw_top C (M3 55 (andn s a)) (d1 _ (by omega)) ?_
                  refine pw_iconst C dX11_coverOf_85 ?_
                  refine pw_iadd C dX11_coverOf_86 ?_
                  refine pw_mmin C (by omega) (by omega) (Nat.le_of_ble_eq_true rfl) ml_X11_117 dX11_coverOf_87 ?_
                  refine pw_iastore C lay_55 (by omega) (by decide) dX11_coverOf_90 ?_
                  exact cut_91 _ (Sm_up Sm_refl (by decide)) (by intro T q; rw [rd_ne q]; exact d1 T q) (by intro j q; rw [rd_eq, mn2_le, d2 j q]; exact (Rt_yes (by omega) hsb hye).symm) (by rw [rd_eq]; split <;> omega)
          exact cut_48 _ _ _ (Sm_up Sm_refl (by decide)) (by omega) (by exact sub2_rf s) (by intro T q; exact rd_ne q) (by intro j q; rw [rd_eq]; exact ⟨fun h => by omega, fun h => absurd h (Rt_top (by omega))⟩) (by rw [rd_eq]; decide) (Nat.lt_succ_self _)
        · have hns : ¬ sub2 s (nrB (cfM M)) := fun q => h39 ((andn_0 (by omega)).mpr q)
          refine pw_goto (tgt := 102) C dX11_coverOf_42 (by decide) ?_
          exact cut_102 _ (Sm_up Sm_refl (by decide)) (by
                intro S q1 q2
                by_cases e : S = s
                · rw [e, rd_eq]; decide
                · rw [rd_ne e]; exact g1 S q1 (by omega)) (by
                intro S q1 q2 q3
                by_cases e : S = s
                · rw [e] at q3; exact absurd q3 hns
                · rw [rd_ne e]; exact g2 S q1 (by omega) q3)
  exact cut_19 _ _ _ (Sm_up Sm_refl (by decide)) (by omega) (by intro S q1 q2; rw [show S = 0 by omega, rd_eq]; decide) (by intro S q1 q2 _ j j1 j2; rw [show S = 0 by omega, rd_eq]; exact ⟨fun _ => Or.inl rfl, fun _ => j1⟩) (Nat.lt_succ_self _)
