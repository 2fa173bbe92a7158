theorem nfK_0 {c : Cfg} : nfK c 0 = rdK c := by
  funext k
  unfold nfK
  rw [if_pos rfl]
def PWo (c : Cfg) (k : Int) (g : Int → Int) (r : Int) : Prop := ((0 ≤ k ∧ k ≤ 7) ∧ PB c (nfK c k) g r) ∨ (¬ (0 ≤ k ∧ k ≤ 7) ∧ r = -1)
theorem PWo_one {c : Cfg} {k : Int} {g : Int → Int} {r s : Int} (h : PWo c k g r) (h2 : PWo c k g s) : r = s := by
  rcases h with ⟨a, b⟩ | ⟨a, b⟩ <;> rcases h2 with ⟨d, e⟩ | ⟨d, e⟩
  · exact PB_one b e
  · exact absurd a d
  · exact absurd d a
  · rw [b, e]
theorem ne_cases {c : Cfg} {f : Int → Int} {M' : Mem} {r : Int} (h : (nrB c = 0 ∧ r = -1) ∨ (nrB c ≠ 0 ∧ KnOK c M' ∧ (((∀ j, 0 ≤ j → j < nK c → cdK c j = false) ∧ r = -1) ∨ (0 ≤ r ∧ FM (cdK c) f (nK c) r)))) : (r = -1 ∧ ∀ g, PB c f g (-1)) ∨ (0 ≤ r ∧ r < nK c ∧ KnOK c M' ∧ ∀ g, PB c f g (g r)) := by
  rcases h with ⟨a, b⟩ | ⟨a, k, ⟨q, b⟩ | ⟨q, b⟩⟩
  · exact Or.inl ⟨b, fun g => Or.inl ⟨a, rfl⟩⟩
  · exact Or.inl ⟨b, fun g => Or.inr (Or.inl ⟨a, q, rfl⟩)⟩
  · exact Or.inr ⟨q, b.2.1, k, fun g => Or.inr (Or.inr ⟨a, r, b, rfl⟩)⟩
set_option maxHeartbeats 4000000 in
set_option maxRecDepth 100000 in
theorem c_X11_centre (l : Launch) (K : KX) (M : Mem) (hW : WfK (cfM M)) (hKn : M 43 13 = 0 ∨ (M 43 13 = 1 ∧ KnOK (cfM M) M)) : MCi l K LAY yX11_centre cX11_centre 2 (some .int) 6 [rV K 43] M (fun r M' => (PB (cfM M) (rdK (cfM M)) (rdK (cfM M)) r) ∧ (M' 43 0 = 0) ∧ (M' 43 13 = 0 ∨ (M' 43 13 = 1 ∧ KnOK (cfM M) M')) ∧ Sm [43, 51, 52, 53] M M' ∧ Fm [0, 13] M M') := by
  refine mci_intro RX11 rfl [some (rV K 43), none] rfl (by decide +kernel) (cat_r cat_nil) (Nat.le_of_ble_eq_true rfl) (fun X hX C => ?_)
  subst hX
  have w_let := wm_let hW
  have w_sw := wm_sw hW
  have w_dr := wm_dr hW
  have w_gp := wm_gp hW
  have w_w := wm_w hW
  have w_l := wm_l hW
  have w_l1 := wm_l1 hW
  have w_t := wm_t hW
  have hK0 := nK_pos hW
  have hK1 := nK_le hW
  have ec0 : cfM (up2 M 43 0 0) = cfM M := cfM_e (rd_ne (by decide)) (rd_ne (by decide)) (rd_ne (by decide)) (rd_ne (by decide)) (rd_ne (by decide)) (rd_ne (by decide)) (rd_ne (by decide)) (up2_ne (by decide)) (up2_ne (by decide)) (up2_ne (by decide)) (up2_ne (by decide)) (up2_ne (by decide))
  refine pw_aload0 C dX11_centre_0 ?_
  refine pw_iconst C dX11_centre_1 ?_
  refine p_43_0 C fl_X11_1 dX11_centre_2 ?_
  refine pw_aload0 C dX11_centre_5 ?_
  refine pw_iconst C dX11_centre_6 ?_
  refine pw_cVi1 C (c_X11_nearest _ K _ _ (by rw [ec0]; exact hW) (by rw [ec0, rd_ne (by decide)]; exact hKn.elim Or.inl (fun h => Or.inr ⟨h.1, KnOK_c (up2_ne (by decide)) h.2⟩)) (by omega)) cb_X11_nearest lay_43 kc_11 rfl ml_X11_157 dX11_centre_7 (by decide) (Nat.le_of_ble_eq_true rfl) (fun r7 M7 hQ => ?_)
  obtain ⟨hK_7, hp_7, hF7, hJ7⟩ := hQ
  rw [ec0] at hp_7 hK_7
  have ec7 : cfM M7 = cfM M := cfM_e ((hJ7 1 (by decide)).trans (rd_ne (by decide))) ((hJ7 3 (by decide)).trans (rd_ne (by decide))) ((hJ7 4 (by decide)).trans (rd_ne (by decide))) ((hJ7 5 (by decide)).trans (rd_ne (by decide))) ((hJ7 6 (by decide)).trans (rd_ne (by decide))) ((hJ7 7 (by decide)).trans (rd_ne (by decide))) ((hJ7 10 (by decide)).trans (rd_ne (by decide))) ((hF7 44 (by decide)).trans (up2_ne (by decide))) ((hF7 45 (by decide)).trans (up2_ne (by decide))) ((hF7 46 (by decide)).trans (up2_ne (by decide))) ((hF7 47 (by decide)).trans (up2_ne (by decide))) ((hF7 48 (by decide)).trans (up2_ne (by decide)))
  have hca := ne_cases hp_7
  have hcr : -1 ≤ r7 ∧ r7 < nK (cfM M) := by rcases hca with q | q; omega; omega
  refine pw_istore1 C (by decide) dX11_centre_10 ?_
  refine pw_iload1 C dX11_centre_11 ?_
  refine pw_iconst C dX11_centre_12 ?_
  refine pw_icmp_ne (tgt := 20) C dX11_centre_13 (by decide) (by omega) (by omega) (fun h13 => ?_) (fun h13 => ?_)
  · have hcb := hca.elim (fun h => absurd h.1 h13) id
    refine pw_aload0 C dX11_centre_20 ?_
    refine pw_iload1 C dX11_centre_21 ?_
    refine pw_cVi1 C (c_X11_radius _ K _ _ (by rw [ec7]; exact hW) (by rw [ec7]; exact hcb.2.2.1) (by rw [ec7]; omega)) cb_X11_radius lay_43 kc_11 rfl ml_X11_151 dX11_centre_22 (by decide) (Nat.le_of_ble_eq_true rfl) (fun r22 M22 hQ => ?_)
    obtain ⟨rfl, hMe⟩ := hQ
    replace hMe := hMe.symm
    subst hMe
    rw [ec7]
    exact pw_iretI C dX11_centre_25 (⟨by
          rw [nfK_0] at hca
          rcases hca with q | q
          · first | exact q.2 _ | exact absurd q.1 h13
          · first | exact absurd h13 (by omega) | exact q.2.2.2 _, by rw [hJ7 0 (by decide)]; exact rd_eq, by exact hK_7, (Sm_trans (Sm_up Sm_refl (by decide)) hF7 (by decide)), (Fm_tr (Fm_up Fm_refl (by decide)) hJ7 (by decide))⟩)
  · refine pw_iconst C dX11_centre_16 ?_
    refine pw_goto (tgt := 25) C dX11_centre_17 (by decide) ?_
    exact pw_iretI C dX11_centre_25 (⟨by
          rw [nfK_0] at hca
          rcases hca with q | q
          · first | exact q.2 _ | exact absurd q.1 h13
          · first | exact absurd h13 (by omega) | exact q.2.2.2 _, by rw [hJ7 0 (by decide)]; exact rd_eq, by exact hK_7, (Sm_trans (Sm_up Sm_refl (by decide)) hF7 (by decide)), (Fm_tr (Fm_up Fm_refl (by decide)) hJ7 (by decide))⟩)
set_option maxHeartbeats 4000000 in
set_option maxRecDepth 100000 in
theorem c_X11_centreAt (l : Launch) (K : KX) (M : Mem) (i : Int) (hW : WfK (cfM M)) (hKn : M 43 13 = 0 ∨ (M 43 13 = 1 ∧ KnOK (cfM M) M)) (hi : -2147483648 ≤ i ∧ i ≤ 2147483647) : MCi l K LAY yX11_centreAt cX11_centreAt 2 (some .int) 6 [rV K 43, iV i] M (fun r M' => (PB (cfM M) (rdK (cfM M)) (fun b => if 0 ≤ i ∧ i < kL (cfM M) then rwX (cfM M) b i else -1) r) ∧ (M' 43 0 = 0) ∧ (M' 43 13 = 0 ∨ (M' 43 13 = 1 ∧ KnOK (cfM M) M')) ∧ Sm [43, 51, 52, 53] M M' ∧ Fm [0, 13] M M') := by
  refine mci_intro RX11 rfl [some (rV K 43), some (iV i)] rfl (by decide +kernel) (cat_r (cat_i cat_nil)) (Nat.le_of_ble_eq_true rfl) (fun X hX C => ?_)
  subst hX
  have w_let := wm_let hW
  have w_sw := wm_sw hW
  have w_dr := wm_dr hW
  have w_gp := wm_gp hW
  have w_w := wm_w hW
  have w_l := wm_l hW
  have w_l1 := wm_l1 hW
  have w_t := wm_t hW
  have hK0 := nK_pos hW
  have hK1 := nK_le hW
  have ec0 : cfM (up2 M 43 0 0) = cfM M := cfM_e (rd_ne (by decide)) (rd_ne (by decide)) (rd_ne (by decide)) (rd_ne (by decide)) (rd_ne (by decide)) (rd_ne (by decide)) (rd_ne (by decide)) (up2_ne (by decide)) (up2_ne (by decide)) (up2_ne (by decide)) (up2_ne (by decide)) (up2_ne (by decide))
  refine pw_aload0 C dX11_centreAt_0 ?_
  refine pw_iconst C dX11_centreAt_1 ?_
  refine p_43_0 C fl_X11_1 dX11_centreAt_2 ?_
  refine pw_aload0 C dX11_centreAt_5 ?_
  refine pw_aload0 C dX11_centreAt_6 ?_
  refine pw_iconst C dX11_centreAt_7 ?_
  refine pw_cVi1 C (c_X11_nearest _ K _ _ (by rw [ec0]; exact hW) (by rw [ec0, rd_ne (by decide)]; exact hKn.elim Or.inl (fun h => Or.inr ⟨h.1, KnOK_c (up2_ne (by decide)) h.2⟩)) (by omega)) cb_X11_nearest lay_43 kc_11 rfl ml_X11_157 dX11_centreAt_8 (by decide) (Nat.le_of_ble_eq_true rfl) (fun r8 M8 hQ => ?_)
  obtain ⟨hK_8, hp_8, hF8, hJ8⟩ := hQ
  rw [ec0] at hp_8 hK_8
  have ec8 : cfM M8 = cfM M := cfM_e ((hJ8 1 (by decide)).trans (rd_ne (by decide))) ((hJ8 3 (by decide)).trans (rd_ne (by decide))) ((hJ8 4 (by decide)).trans (rd_ne (by decide))) ((hJ8 5 (by decide)).trans (rd_ne (by decide))) ((hJ8 6 (by decide)).trans (rd_ne (by decide))) ((hJ8 7 (by decide)).trans (rd_ne (by decide))) ((hJ8 10 (by decide)).trans (rd_ne (by decide))) ((hF8 44 (by decide)).trans (up2_ne (by decide))) ((hF8 45 (by decide)).trans (up2_ne (by decide))) ((hF8 46 (by decide)).trans (up2_ne (by decide))) ((hF8 47 (by decide)).trans (up2_ne (by decide))) ((hF8 48 (by decide)).trans (up2_ne (by decide)))
  have hca := ne_cases hp_8
  have hcr : -1 ≤ r8 ∧ r8 < nK (cfM M) := by rcases hca with q | q; omega; omega
  refine pw_iload1 C dX11_centreAt_11 ?_
  refine pw_cVi2 C (c_X11_letterOf _ K _ _ _ (by rw [ec8]; exact hW) (by rw [ec8]; rcases hca with q | q; exact Or.inl q.1; exact Or.inr ⟨q.1, q.2.1⟩) (by omega)) cb_X11_letterOf lay_43 kc_11 rfl ml_X11_160 dX11_centreAt_12 (by decide) (Nat.le_of_ble_eq_true rfl) (fun r12 M12 hQ => ?_)
  obtain ⟨hp_12, hF12⟩ := hQ
  rw [ec8, hJ8 7 (by decide), rd_ne (by decide)] at hp_12
  exact pw_iretI C dX11_centreAt_15 (⟨by
        rw [nfK_0] at hca
        rw [hp_12]
        rcases hca with q | q
        · rw [if_neg (fun h => h.1 q.1)]; exact q.2 _
        · have hq := q.2.2.2 (fun b => if 0 ≤ i ∧ i < kL (cfM M) then rwX (cfM M) b i else -1)
          have h9 : kL (cfM M) = M 43 7 := rfl
          by_cases e : 0 ≤ i ∧ i < M 43 7
          · rw [if_pos ⟨by omega, e⟩]
            simp only [h9, e, and_self, if_true] at hq ⊢
            exact hq
          · rw [if_neg (fun h => e h.2)]
            simp only [h9, e, if_false] at hq ⊢
            exact hq, by rw [hF12 43 (by decide)]; rw [hJ8 0 (by decide)]; exact rd_eq, by rw [hF12 43 (by decide)]; exact hK_8.elim Or.inl (fun h => Or.inr ⟨h.1, KnOK_c (hF12 52 (by decide)) h.2⟩), (Sm_trans (Sm_trans (Sm_up Sm_refl (by decide)) hF8 (by decide)) hF12 (by decide)), (Fm_fr (Fm_tr (Fm_up Fm_refl (by decide)) hJ8 (by decide)) hF12 (by decide))⟩)
set_option maxHeartbeats 4000000 in
set_option maxRecDepth 100000 in
theorem c_X11_isAsked (l : Launch) (K : KX) (M : Mem) (r0 : Int) (hW : WfK (cfM M)) (hr : -2147483648 ≤ r0 ∧ r0 ≤ 2147483647) : MCi l K LAY yX11_isAsked cX11_isAsked 2 (some .boolean) 2 [rV K 43, iV r0] M (fun r M' => (r = if (0 ≤ r0 ∧ r0 ≤ 63) ∧ nrB (cfM M) ≠ 0 then 1 else 0) ∧ M' = M) := by
  refine mci_intro RX11 rfl [some (rV K 43), some (iV r0)] rfl (by decide +kernel) (cat_r (cat_i cat_nil)) (Nat.le_of_ble_eq_true rfl) (fun X hX C => ?_)
  subst hX
  have w_let := wm_let hW
  have w_sw := wm_sw hW
  have w_dr := wm_dr hW
  have w_gp := wm_gp hW
  have w_w := wm_w hW
  have w_l := wm_l hW
  have w_l1 := wm_l1 hW
  have w_t := wm_t hW
  have hK0 := nK_pos hW
  have hK1 := nK_le hW
  have hmr := mny_rng (p := M 46) (v := 1) (M 43 6) w_w.1
  have hmz : mny (M 46) 1 (M 43 6) = 0 ↔ nrB (cfM M) = 0 := many_nz hW
  have hmd : nrB (cfM M) = 0 ∨ nrB (cfM M) ≠ 0 := Decidable.em _
  refine pw_iload1 C dX11_isAsked_0 ?_
  refine pw_iconst C dX11_isAsked_1 ?_
  refine pw_bipush C dX11_isAsked_2 (by decide) ?_
  refine pw_cSi3 C (c_X11_within _ K _ _ _ _ (by omega) (by omega) (by omega)) cb_X11_within ml_X11_81 dX11_isAsked_4 (by decide) (Nat.le_of_ble_eq_true rfl) (fun r4 M4 hQ => ?_)
  obtain ⟨rfl, hMe⟩ := hQ
  replace hMe := hMe.symm
  subst hMe
  refine pw_if_eq (tgt := 22) C dX11_isAsked_7 (by decide) (by split <;> omega) (fun h7 => ?_) (fun h7 => ?_)
  · have e7 : ¬ (0 ≤ r0 ∧ r0 ≤ 63) := fun h => by rw [if_pos h] at h7; omega
    refine pw_iconst C dX11_isAsked_22 ?_
    exact pw_zretI C dX11_isAsked_23 (by decide) (⟨by first | rw [if_neg (by omega)] | rw [if_pos (by omega)], rfl⟩)
  · have e7 : (0 ≤ r0 ∧ r0 ≤ 63) := Decidable.byContradiction fun h => by rw [if_neg h] at h7; omega
    refine pw_aload0 C dX11_isAsked_10 ?_
    refine pw_iconst C dX11_isAsked_11 ?_
    refine pw_cVi1 C (c_X11_many _ K _ _ (hW) (by omega)) cb_X11_many lay_43 kc_11 rfl ml_X11_141 dX11_isAsked_12 (by decide) (Nat.le_of_ble_eq_true rfl) (fun r12 M12 hQ => ?_)
    obtain ⟨rfl, hMe⟩ := hQ
    replace hMe := hMe.symm
    subst hMe
    refine pw_if_le (tgt := 22) C dX11_isAsked_15 (by decide) (by omega) (fun h15 => ?_) (fun h15 => ?_)
    · have e15 : nrB (cfM M) = 0 := hmz.mp (by omega)
      refine pw_iconst C dX11_isAsked_22 ?_
      exact pw_zretI C dX11_isAsked_23 (by decide) (⟨by first | rw [if_neg (by omega)] | rw [if_pos (by omega)], rfl⟩)
    · have e15 : nrB (cfM M) ≠ 0 := fun h => by have := hmz.mpr h; omega
      refine pw_iconst C dX11_isAsked_18 ?_
      refine pw_goto (tgt := 23) C dX11_isAsked_19 (by decide) ?_
      exact pw_zretI C dX11_isAsked_23 (by decide) (⟨by first | rw [if_neg (by omega)] | rw [if_pos (by omega)], rfl⟩)
set_option maxHeartbeats 4000000 in
set_option maxRecDepth 100000 in
theorem c_X11_within_ (l : Launch) (K : KX) (M : Mem) (r0 : Int) (hW : WfK (cfM M)) (hKn : M 43 13 = 0 ∨ (M 43 13 = 1 ∧ KnOK (cfM M) M)) (hr : -2147483648 ≤ r0 ∧ r0 ≤ 2147483647) : MCi l K LAY yX11_within_ cX11_within_ 4 (some .int) 6 [rV K 43, iV r0] M (fun r M' => (PW1 (cfM M) r0 r) ∧ (M' 43 0 = 0) ∧ (M' 43 13 = 0 ∨ (M' 43 13 = 1 ∧ KnOK (cfM M) M')) ∧ Sm [43, 51, 52, 53] M M' ∧ Fm [0, 13] M M') := by
  refine mci_intro RX11 rfl [some (rV K 43), some (iV r0), none, none] rfl (by decide +kernel) (cat_r (cat_i cat_nil)) (Nat.le_of_ble_eq_true rfl) (fun X hX C => ?_)
  subst hX
  have w_let := wm_let hW
  have w_sw := wm_sw hW
  have w_dr := wm_dr hW
  have w_gp := wm_gp hW
  have w_w := wm_w hW
  have w_l := wm_l hW
  have w_l1 := wm_l1 hW
  have w_t := wm_t hW
  have hK0 := nK_pos hW
  have hK1 := nK_le hW
  have ec0 : cfM (up2 M 43 0 0) = cfM M := cfM_e (rd_ne (by decide)) (rd_ne (by decide)) (rd_ne (by decide)) (rd_ne (by decide)) (rd_ne (by decide)) (rd_ne (by decide)) (rd_ne (by decide)) (up2_ne (by decide)) (up2_ne (by decide)) (up2_ne (by decide)) (up2_ne (by decide)) (up2_ne (by decide))
  refine pw_aload0 C dX11_within__0 ?_
  refine pw_iconst C dX11_within__1 ?_
  refine p_43_0 C fl_X11_1 dX11_within__2 ?_
  refine pw_aload0 C dX11_within__5 ?_
  refine pw_iload1 C dX11_within__6 ?_
  refine pw_cVi1 C (c_X11_isAsked _ K _ _ (by rw [ec0]; exact hW) (hr)) cb_X11_isAsked lay_43 kc_11 rfl ml_X11_163 dX11_within__7 (by decide) (Nat.le_of_ble_eq_true rfl) (fun r7 M7 hQ => ?_)
  obtain ⟨rfl, hMe⟩ := hQ
  replace hMe := hMe.symm
  subst hMe
  rw [ec0]
  refine pw_if_ne (tgt := 15) C dX11_within__10 (by decide) (by split <;> omega) (fun h10 => ?_) (fun h10 => ?_)
  · have e10 : ((0 ≤ r0 ∧ r0 ≤ 63) ∧ nrB (cfM M) ≠ 0) := Decidable.byContradiction fun h => by rw [if_neg h] at h10; omega
    refine pw_aload0 C dX11_within__15 ?_
    refine pw_cVv0 C (c_X11_knows _ K _ (by rw [ec0]; exact hW) (by rw [ec0, rd_ne (by decide)]; exact hKn.elim Or.inl (fun h => Or.inr ⟨h.1, KnOK_c (up2_ne (by decide)) h.2⟩))) cb_X11_knows lay_43 kc_11 rfl ml_X11_145 dX11_within__16 (by decide) (Nat.le_of_ble_eq_true rfl) (fun M16 hQ => ?_)
    obtain ⟨h1_16, h2_16, hF16, hJ16⟩ := hQ
    rw [ec0] at h1_16
    have ec16 : cfM M16 = cfM M := cfM_e ((hJ16 1 (by decide)).trans (rd_ne (by decide))) ((hJ16 3 (by decide)).trans (rd_ne (by decide))) ((hJ16 4 (by decide)).trans (rd_ne (by decide))) ((hJ16 5 (by decide)).trans (rd_ne (by decide))) ((hJ16 6 (by decide)).trans (rd_ne (by decide))) ((hJ16 7 (by decide)).trans (rd_ne (by decide))) ((hJ16 10 (by decide)).trans (rd_ne (by decide))) ((hF16 44 (by decide)).trans (up2_ne (by decide))) ((hF16 45 (by decide)).trans (up2_ne (by decide))) ((hF16 46 (by decide)).trans (up2_ne (by decide))) ((hF16 47 (by decide)).trans (up2_ne (by decide))) ((hF16 48 (by decide)).trans (up2_ne (by decide)))
    refine pw_iconst C dX11_within__19 ?_
    refine pw_istore2 C (by decide) dX11_within__20 ?_
    refine pw_iconst C dX11_within__21 ?_
    refine pw_istore3 C (by decide) dX11_within__22 ?_
    have cut_23 : ∀ (fu : Nat) (n k : Int), (0 ≤ k ∧ k ≤ nK (cfM M)) → (n = cnI (fun j => cdK (cfM M) j && decide (rdK (cfM M) j ≤ r0)) k) → (nK (cfM M) - k).toNat < fu → PW X K LAY 4 (0, 0) (Zi X K LAY (fun r M' => (PW1 (cfM M) r0 r) ∧ (M' 43 0 = 0) ∧ (M' 43 13 = 0 ∨ (M' 43 13 = 1 ∧ KnOK (cfM M) M')) ∧ Sm [43, 51, 52, 53] M M' ∧ Fm [0, 13] M M')) 23 [some (rV K 43), some (iV r0), some (iV n), some (iV k)] [] M16 := by
      intro fu
      induction fu with
      | zero => intro _ _ _ _ hm; exact absurd hm (Nat.not_lt_zero _)
      | succ fu ih =>
        intro n k hk hn hm
        have ih_23 := ih
        have hm_23 := hm
        refine pw_iload3 C dX11_within__23 ?_
        refine pw_aload0 C dX11_within__24 ?_
        refine pw_cVi0 C (c_X11_rows _ K _ (by rw [ec16]; exact hW)) cb_X11_rows lay_43 kc_11 rfl ml_X11_130 dX11_within__25 (by decide) (Nat.le_of_ble_eq_true rfl) (fun r25 M25 hQ => ?_)
        obtain ⟨rfl, hMe⟩ := hQ
        replace hMe := hMe.symm
        subst hMe
        rw [ec16]
        refine pw_icmp_ge (tgt := 57) C dX11_within__28 (by decide) (by omega) (by omega) (fun h28 => ?_) (fun h28 => ?_)
        · refine pw_iload2 C dX11_within__57 ?_
          exact pw_iretI C dX11_within__58 (⟨by exact Or.inl ⟨e10.1, e10.2, by rw [hn, show k = nK (cfM M) by omega]⟩, by rw [hJ16 0 (by decide)]; exact rd_eq, by exact Or.inr ⟨h2_16, h1_16⟩, (Sm_trans (Sm_up Sm_refl (by decide)) hF16 (by decide)), (Fm_tr (Fm_up Fm_refl (by decide)) hJ16 (by decide))⟩)
        · refine pw_aload0 C dX11_within__31 ?_
          refine pw_iload3 C dX11_within__32 ?_
          refine pw_cVi1 C (c_X11_isCandidate _ K _ _ (by rw [ec16]; exact hW) (by rw [ec16]; exact h1_16) (by rw [ec16]; omega)) cb_X11_isCandidate lay_43 kc_11 rfl ml_X11_148 dX11_within__33 (by decide) (Nat.le_of_ble_eq_true rfl) (fun r33 M33 hQ => ?_)
          obtain ⟨rfl, hMe⟩ := hQ
          replace hMe := hMe.symm
          subst hMe
          rw [ec16]
          refine pw_if_eq (tgt := 51) C dX11_within__36 (by decide) (by split <;> omega) (fun h36 => ?_) (fun h36 => ?_)
          · have e36 : cdK (cfM M) k = false := Bool.eq_false_iff.mpr (fun h => by rw [if_pos h] at h36; omega)
            refine pw_iinc3 C (by decide) dX11_within__51 ?_
            refine pw_goto (tgt := 23) C dX11_within__54 (by decide) ?_
            exact ih_23 _ _ (by omega) (by
                  rw [cnI_s (by omega), ← hn]
                  by_cases q : (cdK (cfM M) k && decide (rdK (cfM M) k ≤ r0)) = true
                  · have q9 := q
                    simp only [Bool.and_eq_true, decide_eq_true_eq] at q9
                    rw [if_pos q] <;> first | (rw [e36] at q9; exact absurd q9.1 (by decide)) | (exfalso; omega)
                  · have q9 := q
                    simp only [Bool.and_eq_true, decide_eq_true_eq] at q9
                    rw [if_neg q] <;> first | omega | exact absurd ⟨e36, by omega⟩ q9) (by omega)
          · have e36 : cdK (cfM M) k = true := Decidable.byContradiction fun h => by rw [if_neg h] at h36; omega
            refine pw_aload0 C dX11_within__39 ?_
            refine pw_iload3 C dX11_within__40 ?_
            refine pw_cVi1 C (c_X11_radius _ K _ _ (by rw [ec16]; exact hW) (by rw [ec16]; exact h1_16) (by rw [ec16]; omega)) cb_X11_radius lay_43 kc_11 rfl ml_X11_151 dX11_within__41 (by decide) (Nat.le_of_ble_eq_true rfl) (fun r41 M41 hQ => ?_)
            obtain ⟨rfl, hMe⟩ := hQ
            replace hMe := hMe.symm
            subst hMe
            rw [ec16]
            have hrk := (rdK_rng hW k).1
            refine pw_iload1 C dX11_within__44 ?_
            refine pw_icmp_gt (tgt := 51) C dX11_within__45 (by decide) (by omega) (by omega) (fun h45 => ?_) (fun h45 => ?_)
            · refine pw_iinc3 C (by decide) dX11_within__51 ?_
              refine pw_goto (tgt := 23) C dX11_within__54 (by decide) ?_
              exact ih_23 _ _ (by omega) (by
                    rw [cnI_s (by omega), ← hn]
                    by_cases q : (cdK (cfM M) k && decide (rdK (cfM M) k ≤ r0)) = true
                    · have q9 := q
                      simp only [Bool.and_eq_true, decide_eq_true_eq] at q9
                      rw [if_pos q] <;> first | (rw [e36] at q9; exact absurd q9.1 (by decide)) | (exfalso; omega)
                    · have q9 := q
                      simp only [Bool.and_eq_true, decide_eq_true_eq] at q9
                      rw [if_neg q] <;> first | omega | exact absurd ⟨e36, by omega⟩ q9) (by omega)
            · refine pw_iinc2 C (by decide) dX11_within__48 ?_
              refine pw_iinc3 C (by decide) dX11_within__51 ?_
              refine pw_goto (tgt := 23) C dX11_within__54 (by decide) ?_
              exact ih_23 _ _ (by omega) (by
                    rw [cnI_s (by omega), ← hn]
                    by_cases q : (cdK (cfM M) k && decide (rdK (cfM M) k ≤ r0)) = true
                    · have q9 := q
                      simp only [Bool.and_eq_true, decide_eq_true_eq] at q9
                      rw [if_pos q] <;> first | (rw [e36] at q9; exact absurd q9.1 (by decide)) | (exfalso; omega)
                    · have q9 := q
                      simp only [Bool.and_eq_true, decide_eq_true_eq] at q9
                      rw [if_neg q] <;> first | omega | exact absurd ⟨e36, by omega⟩ q9) (by omega)
    exact cut_23 _ _ _ (by omega) (by exact cnI_0.symm) (Nat.lt_succ_self _)
  · have e10 : ¬ ((0 ≤ r0 ∧ r0 ≤ 63) ∧ nrB (cfM M) ≠ 0) := fun h => by rw [if_pos h] at h10; omega
    refine pw_iconst C dX11_within__13 ?_
    exact pw_iretI C dX11_within__14 (⟨by exact Or.inr ⟨e10, rfl⟩, by exact rd_eq, by rw [rd_ne (by decide)]; exact hKn.elim Or.inl (fun h => Or.inr ⟨h.1, KnOK_c (up2_ne (by decide)) h.2⟩), (Sm_up Sm_refl (by decide)), (Fm_up Fm_refl (by decide))⟩)
