theorem moT_congr {c : Cfg} {x y : Int → Int} {m t : Int} (hm : okM c m) (ht : 0 ≤ t ∧ t < kT c) (hx : ∀ p, 0 ≤ p → p < m → x p = y p) : moT c x m t = moT c y m t := by
  obtain ⟨a, b, d, e⟩ := hm
  have hn : nPc c m t = kXs c t - m + 1 := rfl
  have := e t ht.1 ht.2
  exact miT_congr (nPc c m t) (by omega) (fun i _ _ => pcD_congr (by omega) hx)
set_option maxHeartbeats 4000000 in
set_option maxRecDepth 100000 in
theorem c_X10_motif (l : Launch) (K : KX) (M : Mem) (m : Int) (hW : WfK (cf M)) (hwd : M 37 4 = 120) (hZ : Z0b M) (hC : MoC (cf M) M) (hm9 : -2147483648 ≤ m ∧ m ≤ 2147483647) : MCi l K LAY yX10_motif cX10_motif 2 (some .int) 5 [rV K 0, iV m] M (fun r M' => (PMo (cf M) m r) ∧ (MoC (cf M) M') ∧ (M' 37 4 = 120) ∧ (Z0b M') ∧ Sm [34, 35, 37, 38, 39, 40, 41, 42] M M') := by
  refine mci_intro RX10 rfl [some (rV K 0), some (iV m)] rfl (by decide +kernel) (cat_r (cat_i cat_nil)) (Nat.le_of_ble_eq_true rfl) (fun X hX C => ?_)
  subst hX
  have w_let := wf_let hW
  have w_sw := wf_sw hW
  have w_t := wf_t hW
  refine pw_aload0 C dX10_motif_0 ?_
  refine g_0_3 C fl_X10_33 dX10_motif_1 ?_
  refine pw_iload1 C dX10_motif_4 ?_
  refine pw_cVi1 C (c_X7_allHave _ K _ _ (hW) (hm9)) cb_X7_allHave lay_9 kc_7 rfl ml_X10_236 dX10_motif_5 (by decide) (Nat.le_of_ble_eq_true rfl) (fun r5 M5 hQ => ?_)
  obtain ⟨hp_5, hMe⟩ := hQ
  replace hMe := hMe.symm
  subst hMe
  have h501 : r5 = 0 ∨ r5 = 1 := hp_5.elim (fun h => Or.inr h.2) (fun h => Or.inl h.2)
  refine pw_if_ne (tgt := 13) C dX10_motif_8 (by decide) (by omega) (fun h8 => ?_) (fun h8 => ?_)
  · have hok : okM (cf M) m := hp_5.elim (fun h => h.1) (fun h => absurd h.2 (by omega))
    have hmr9 : 1 ≤ m ∧ m ≤ 6 := ⟨hok.1, hok.2.1⟩
    refine pw_aload0 C dX10_motif_13 ?_
    refine g_0_8 C fl_X10_74 dX10_motif_14 ?_
    refine pw_iload1 C dX10_motif_17 ?_
    refine pw_cVv1 C (c_X2_refresh _ K _ _ (hW) (hwd) (hZ) (hC) (hok)) cb_X2_refresh lay_33 kc_2 rfl ml_X10_239 dX10_motif_18 (by decide) (Nat.le_of_ble_eq_true rfl) (fun M18 hQ => ?_)
    obtain ⟨hS_18, hC_18, hwd_18, hZ_18, hF18⟩ := hQ
    refine pw_aload0 C dX10_motif_21 ?_
    refine g_0_8 C fl_X10_74 dX10_motif_22 ?_
    refine g_33_0 C fl_X10_241 dX10_motif_25 ?_
    refine pw_iload1 C dX10_motif_28 ?_
    refine pw_iaload C lay_34 (by omega) (by decide) dX10_motif_29 ?_
    exact pw_iretI C dX10_motif_30 (⟨by
          obtain ⟨b, hb1, hb2, -⟩ := hS_18
          exact Or.inl ⟨hok, b, hb1, hb2⟩, by exact hC_18, by exact hwd_18, by exact hZ_18, (Sm_trans Sm_refl hF18 (by decide))⟩)
  · have hno : ¬ okM (cf M) m := hp_5.elim (fun h => absurd h.2 (by omega)) (fun h => h.1)
    refine pw_iconst C dX10_motif_11 ?_
    exact pw_iretI C dX10_motif_12 (⟨by exact Or.inr ⟨hno, rfl⟩, by exact hC, by exact hwd, by exact hZ, Sm_refl⟩)
set_option maxHeartbeats 4000000 in
set_option maxRecDepth 100000 in
theorem c_X10_motifAt (l : Launch) (K : KX) (M : Mem) (m i : Int) (hW : WfK (cf M)) (hwd : M 37 4 = 120) (hZ : Z0b M) (hC : MoC (cf M) M) (hm9 : -2147483648 ≤ m ∧ m ≤ 2147483647) (hi9 : -2147483648 ≤ i ∧ i ≤ 2147483647) : MCi l K LAY yX10_motifAt cX10_motifAt 3 (some .int) 5 [rV K 0, iV m, iV i] M (fun r M' => (PMoA (cf M) m i r) ∧ (MoC (cf M) M') ∧ (M' 37 4 = 120) ∧ (Z0b M') ∧ Sm [34, 35, 37, 38, 39, 40, 41, 42] M M') := by
  refine mci_intro RX10 rfl [some (rV K 0), some (iV m), some (iV i)] rfl (by decide +kernel) (cat_r (cat_i (cat_i cat_nil))) (Nat.le_of_ble_eq_true rfl) (fun X hX C => ?_)
  subst hX
  have w_let := wf_let hW
  have w_sw := wf_sw hW
  have w_t := wf_t hW
  refine pw_aload0 C dX10_motifAt_0 ?_
  refine g_0_3 C fl_X10_33 dX10_motifAt_1 ?_
  refine pw_iload1 C dX10_motifAt_4 ?_
  refine pw_cVi1 C (c_X7_allHave _ K _ _ (hW) (hm9)) cb_X7_allHave lay_9 kc_7 rfl ml_X10_236 dX10_motifAt_5 (by decide) (Nat.le_of_ble_eq_true rfl) (fun r5 M5 hQ => ?_)
  obtain ⟨hp_5, hMe⟩ := hQ
  replace hMe := hMe.symm
  subst hMe
  have h501 : r5 = 0 ∨ r5 = 1 := hp_5.elim (fun h => Or.inr h.2) (fun h => Or.inl h.2)
  refine pw_if_eq (tgt := 20) C dX10_motifAt_8 (by decide) (by omega) (fun h8 => ?_) (fun h8 => ?_)
  · have hno : ¬ okM (cf M) m := hp_5.elim (fun h => absurd h.2 (by omega)) (fun h => h.1)
    refine pw_iconst C dX10_motifAt_20 ?_
    exact pw_iretI C dX10_motifAt_21 (⟨by first | exact Or.inr ⟨fun h => hno h.1, rfl⟩ | exact Or.inr ⟨fun h => by have := h.2; omega, rfl⟩, by exact hC, by exact hwd, by exact hZ, Sm_refl⟩)
  · have hok : okM (cf M) m := hp_5.elim (fun h => h.1) (fun h => absurd h.2 (by omega))
    have hmr9 : 1 ≤ m ∧ m ≤ 6 := ⟨hok.1, hok.2.1⟩
    refine pw_iload2 C dX10_motifAt_11 ?_
    refine pw_if_lt (tgt := 20) C dX10_motifAt_12 (by decide) (by omega) (fun h12 => ?_) (fun h12 => ?_)
    · refine pw_iconst C dX10_motifAt_20 ?_
      exact pw_iretI C dX10_motifAt_21 (⟨by first | exact Or.inr ⟨fun h => hno h.1, rfl⟩ | exact Or.inr ⟨fun h => by have := h.2; omega, rfl⟩, by exact hC, by exact hwd, by exact hZ, Sm_refl⟩)
    · refine pw_iload2 C dX10_motifAt_15 ?_
      refine pw_iload1 C dX10_motifAt_16 ?_
      refine pw_icmp_lt (tgt := 22) C dX10_motifAt_17 (by decide) (by omega) (by omega) (fun h17 => ?_) (fun h17 => ?_)
      · refine pw_aload0 C dX10_motifAt_22 ?_
        refine g_0_8 C fl_X10_74 dX10_motifAt_23 ?_
        refine pw_iload1 C dX10_motifAt_26 ?_
        refine pw_cVv1 C (c_X2_refresh _ K _ _ (hW) (hwd) (hZ) (hC) (hok)) cb_X2_refresh lay_33 kc_2 rfl ml_X10_239 dX10_motifAt_27 (by decide) (Nat.le_of_ble_eq_true rfl) (fun M27 hQ => ?_)
        obtain ⟨hS_27, hC_27, hwd_27, hZ_27, hF27⟩ := hQ
        obtain ⟨b, hb1, hb2, hb3⟩ := hS_27
        have hvr := vl4_m hW (m := m) (b := b) (by omega)
        rw [← hb3] at hvr
        refine pw_aload0 C dX10_motifAt_30 ?_
        refine g_0_8 C fl_X10_74 dX10_motifAt_31 ?_
        refine g_33_1 C fl_X10_244 dX10_motifAt_34 ?_
        refine pw_iload1 C dX10_motifAt_37 ?_
        refine pw_iaload C lay_35 (by omega) (by decide) dX10_motifAt_38 ?_
        refine pw_iload1 C dX10_motifAt_39 ?_
        refine pw_iload2 C dX10_motifAt_40 ?_
        refine pw_cSi3 C (c_X8_letterAt _ K _ _ _ _ (by omega) (by omega)) cb_X8_letterAt ml_X10_245 dX10_motifAt_41 (by decide) (Nat.le_of_ble_eq_true rfl) (fun r41 M41 hQ => ?_)
        obtain ⟨rfl, hMe⟩ := hQ
        replace hMe := hMe.symm
        subst hMe
        refine pw_top C (dg (M 1 0) m b i) (by rw [hb3]; exact dg4_m hW (by omega) (by omega)) ?_
        exact pw_iretI C dX10_motifAt_44 (⟨by exact Or.inl ⟨⟨hok, by omega, by omega⟩, b, hb1, rfl⟩, by exact hC_27, by exact hwd_27, by exact hZ_27, (Sm_trans Sm_refl hF27 (by decide))⟩)
      · refine pw_iconst C dX10_motifAt_20 ?_
        exact pw_iretI C dX10_motifAt_21 (⟨by first | exact Or.inr ⟨fun h => hno h.1, rfl⟩ | exact Or.inr ⟨fun h => by have := h.2; omega, rfl⟩, by exact hC, by exact hwd, by exact hZ, Sm_refl⟩)
set_option maxHeartbeats 4000000 in
set_option maxRecDepth 100000 in
theorem c_X11_pieceFar (l : Launch) (K : KX) (M : Mem) (t m : Int) (hW : WfK (cfM M)) (hm0 : okM (cfM M) m) (ht : 0 ≤ t ∧ t < M 43 10) (hx : ∀ i, 0 ≤ i → i < m → 0 ≤ M 53 i ∧ M 53 i ≤ 3) : MCi l K LAY yX11_pieceFar cX11_pieceFar 5 (some .int) 3 [rV K 43, iV t, iV m] M (fun r M' => (r = moT (cfM M) (M 53) m t) ∧ Sm [51] M M') := by
  refine mci_intro RX11 rfl [some (rV K 43), some (iV t), some (iV m), none, none] rfl (by decide +kernel) (cat_r (cat_i (cat_i cat_nil))) (Nat.le_of_ble_eq_true rfl) (fun X hX C => ?_)
  subst hX
  have w_let := wm_let hW
  have w_sw := wm_sw hW
  have w_t := wm_t hW
  have hm6 : 1 ≤ m ∧ m ≤ 6 := ⟨hm0.1, hm0.2.1⟩
  have hot : m ≤ M 48 t := hm0.2.2.2 t ht.1 ht.2
  have hxs := wm_xs hW t ht.1 ht.2
  have hn : nPc (cfM M) m t = M 48 t - m + 1 := rfl
  have hdr : ∀ i, 0 ≤ i → i < nPc (cfM M) m t → 0 ≤ pcD (cfM M) (M 53) t m i ∧ pcD (cfM M) (M 53) t m i ≤ 54 := fun i q1 q2 => by have := pcD_rng hW (x := M 53) (m := m) (t := t) (i := i) ht ⟨q1, q2⟩ hx m (by omega) (Int.le_refl _); omega
  refine pw_bipush C dX11_pieceFar_0 (by decide) ?_
  refine pw_istore3 C (by decide) dX11_pieceFar_2 ?_
  refine pw_iconst C dX11_pieceFar_3 ?_
  refine pw_istore4 C (by decide) dX11_pieceFar_4 ?_
  have cut_6 : ∀ (fu : Nat) (le p : Int) (M1 : Mem), Sm [51] M M1 → (0 ≤ p ∧ p ≤ nPc (cfM M) m t) → ((p = 0 ∧ le = 100) ∨ (0 < p ∧ le = miT (pcD (cfM M) (M 53) t m) p)) → (0 ≤ le ∧ le ≤ 100) → (nPc (cfM M) m t - p).toNat < fu → PW X K LAY 5 (0, 0) (Zi X K LAY (fun r M' => (r = moT (cfM M) (M 53) m t) ∧ Sm [51] M M')) 6 [some (rV K 43), some (iV t), some (iV m), some (iV le), some (iV p)] [] M1 := by
    intro fu
    induction fu with
    | zero => intro _ _ _ _ _ _ _ hm; exact absurd hm (Nat.not_lt_zero _)
    | succ fu ih =>
      intro le p M1 hF6 hp hle hlr hm
      have ih_6 := ih
      have hm_6 := hm
      refine pw_iload4 C dX11_pieceFar_6 ?_
      refine pw_iload2 C dX11_pieceFar_8 ?_
      refine pw_iadd C dX11_pieceFar_9 ?_
      refine pw_aload0 C dX11_pieceFar_10 ?_
      refine g_43_12 C fl_X11_33 dX11_pieceFar_11 ?_
      refine pw_iload1 C dX11_pieceFar_14 ?_
      refine pw_iaload C lay_48 (by omega) (by decide) dX11_pieceFar_15 ?_
      refine pw_top C _ (congrFun (hF6 48 (by decide)) _) ?_
      refine pw_icmp_gt (tgt := 51) C dX11_pieceFar_16 (by decide) (by omega) (by omega) (fun h16 => ?_) (fun h16 => ?_)
      · refine pw_iload3 C dX11_pieceFar_51 ?_
        exact pw_iretI C dX11_pieceFar_52 (⟨by
              rcases hle with q | q
              · omega
              · rw [q.2, show p = nPc (cfM M) m t by omega]; rfl, (Sm_trans Sm_refl hF6 (by decide))⟩)
      · refine pw_iload3 C dX11_pieceFar_19 ?_
        refine pw_aload0 C dX11_pieceFar_20 ?_
        refine pw_aload0 C dX11_pieceFar_21 ?_
        refine g_43_22 C fl_X11_49 dX11_pieceFar_22 ?_
        refine pw_iconst C dX11_pieceFar_25 ?_
        refine pw_aload0 C dX11_pieceFar_26 ?_
        refine g_43_11 C fl_X11_30 dX11_pieceFar_27 ?_
        refine pw_bipush C dX11_pieceFar_30 (by decide) ?_
        refine pw_iload1 C dX11_pieceFar_32 ?_
        refine pw_imul C dX11_pieceFar_33 ?_
        refine pw_iload4 C dX11_pieceFar_34 ?_
        refine pw_iadd C dX11_pieceFar_36 ?_
        refine pw_iload2 C dX11_pieceFar_37 ?_
        have nz38_43 : M1 43 = M 43 := (hF6 43 (by decide))
        have nz38_44 : M1 44 = M 44 := (hF6 44 (by decide))
        refine pw_cVi5 C (c_X11_distance _ K _ 53 47 _ _ _ _ _ (lay_53) (lay_47) (by decide) (by decide) (by decide) (by decide) (by omega) (by omega) (by omega) (by rw [hF6 53 (by decide)]; intro p9 q1 q2; rw [Int.zero_add]; exact hx p9 q1 q2) (by rw [hF6 47 (by decide)]; intro p9 q1 q2; have := wm_x hW t (p + p9) (by omega) (by omega) (by omega) (by omega); rw [← Int.add_assoc, Int.mul_comm t] at this; omega) (by rw [hF6 44 (by decide)]; exact wm_pr hW) (by rw [hF6 43 (by decide)]; exact w_sw)) cb_X11_distance lay_43 kc_11 rfl ml_X11_123 dX11_pieceFar_38 (by decide) (Nat.le_of_ble_eq_true rfl) (fun r38 M38 hQ => ?_)
        obtain ⟨rfl, hF38⟩ := hQ
        refine pw_top C (pcD (cfM M) (M 53) t m p) (by rw [hF6 44 (by decide), hF6 43 (by decide), hF6 53 (by decide), hF6 47 (by decide)]; exact dst_congr (n := m) (fun q _ _ => by rw [Int.zero_add]) (fun q _ _ => by show M 47 (24 * t + p + q) = M 47 (t * 24 + p + q); rw [Int.mul_comm]) (fun _ _ _ => rfl) m (by omega) (Int.le_refl _)) ?_
        have hdp := hdr p (by omega) (by omega)
        refine pw_mmin C (by omega) (by omega) (Nat.le_of_ble_eq_true rfl) ml_X11_117 dX11_pieceFar_41 ?_
        refine pw_istore3 C (by decide) dX11_pieceFar_44 ?_
        refine pw_iinc4 C (by decide) dX11_pieceFar_45 ?_
        refine pw_goto (tgt := 6) C dX11_pieceFar_48 (by decide) ?_
        exact ih_6 _ _ _ (Sm_trans (Sm_trans Sm_refl hF6 (by decide)) hF38 (by decide)) (by omega) (by
              right
              refine ⟨by omega, ?_⟩
              rw [miT_s (by omega)]
              rcases hle with q | q
              · rw [q.1, miT_0]
                rw [q.1] at hdp
                split <;> split <;> omega
              · rw [← q.2]
                split <;> split <;> omega) (by split <;> omega) (by omega)
  exact cut_6 _ _ _ _ Sm_refl (by omega) (by exact Or.inl ⟨rfl, rfl⟩) (by omega) (Nat.lt_succ_self _)
set_option maxHeartbeats 4000000 in
set_option maxRecDepth 100000 in
theorem c_X11_nearestPiece (l : Launch) (K : KX) (M : Mem) (t m : Int) (hW : WfK (cfM M)) (hm0 : okM (cfM M) m) (ht : 0 ≤ t ∧ t < M 43 10) (hx : ∀ i, 0 ≤ i → i < m → 0 ≤ M 53 i ∧ M 53 i ≤ 3) : MCi l K LAY yX11_nearestPiece cX11_nearestPiece 5 (some .int) 2 [rV K 43, iV t, iV m] M (fun r M' => (FM (fun _ => true) (pcD (cfM M) (M 53) t m) (nPc (cfM M) m t) r) ∧ Sm [51] M M') := by
  refine mci_intro RX11 rfl [some (rV K 43), some (iV t), some (iV m), none, none] rfl (by decide +kernel) (cat_r (cat_i (cat_i cat_nil))) (Nat.le_of_ble_eq_true rfl) (fun X hX C => ?_)
  subst hX
  have w_let := wm_let hW
  have w_sw := wm_sw hW
  have w_t := wm_t hW
  have hm6 : 1 ≤ m ∧ m ≤ 6 := ⟨hm0.1, hm0.2.1⟩
  have hot : m ≤ M 48 t := hm0.2.2.2 t ht.1 ht.2
  have hxs := wm_xs hW t ht.1 ht.2
  have hn : nPc (cfM M) m t = M 48 t - m + 1 := rfl
  have hdr : ∀ i, 0 ≤ i → i < nPc (cfM M) m t → 0 ≤ pcD (cfM M) (M 53) t m i ∧ pcD (cfM M) (M 53) t m i ≤ 54 := fun i q1 q2 => by have := pcD_rng hW (x := M 53) (m := m) (t := t) (i := i) ht ⟨q1, q2⟩ hx m (by omega) (Int.le_refl _); omega
  refine pw_iconst C dX11_nearestPiece_0 ?_
  refine pw_istore3 C (by decide) dX11_nearestPiece_1 ?_
  refine pw_iconst C dX11_nearestPiece_2 ?_
  refine pw_istore4 C (by decide) dX11_nearestPiece_3 ?_
  have cut_5 : ∀ (fu : Nat) (be p : Int) (M1 : Mem), Sm [51] M M1 → (1 ≤ p ∧ p ≤ nPc (cfM M) m t) → (FM (fun _ => true) (pcD (cfM M) (M 53) t m) p be) → (nPc (cfM M) m t - p).toNat < fu → PW X K LAY 5 (0, 0) (Zi X K LAY (fun r M' => (FM (fun _ => true) (pcD (cfM M) (M 53) t m) (nPc (cfM M) m t) r) ∧ Sm [51] M M')) 5 [some (rV K 43), some (iV t), some (iV m), some (iV be), some (iV p)] [] M1 := by
    intro fu
    induction fu with
    | zero => intro _ _ _ _ _ _ hm; exact absurd hm (Nat.not_lt_zero _)
    | succ fu ih =>
      intro be p M1 hF5 hp hb hm
      have ih_5 := ih
      have hm_5 := hm
      have hbr : 0 ≤ be ∧ be < p := ⟨hb.1, hb.2.1⟩
      refine pw_iload4 C dX11_nearestPiece_5 ?_
      refine pw_iload2 C dX11_nearestPiece_7 ?_
      refine pw_iadd C dX11_nearestPiece_8 ?_
      refine pw_aload0 C dX11_nearestPiece_9 ?_
      refine g_43_12 C fl_X11_33 dX11_nearestPiece_10 ?_
      refine pw_iload1 C dX11_nearestPiece_13 ?_
      refine pw_iaload C lay_48 (by omega) (by decide) dX11_nearestPiece_14 ?_
      refine pw_top C _ (congrFun (hF5 48 (by decide)) _) ?_
      refine pw_icmp_gt (tgt := 71) C dX11_nearestPiece_15 (by decide) (by omega) (by omega) (fun h15 => ?_) (fun h15 => ?_)
      · refine pw_iload3 C dX11_nearestPiece_71 ?_
        exact pw_iretI C dX11_nearestPiece_72 (⟨by rw [show nPc (cfM M) m t = p by omega]; exact hb, (Sm_trans Sm_refl hF5 (by decide))⟩)
      · refine pw_aload0 C dX11_nearestPiece_18 ?_
        refine pw_aload0 C dX11_nearestPiece_19 ?_
        refine g_43_22 C fl_X11_49 dX11_nearestPiece_20 ?_
        refine pw_iconst C dX11_nearestPiece_23 ?_
        refine pw_aload0 C dX11_nearestPiece_24 ?_
        refine g_43_11 C fl_X11_30 dX11_nearestPiece_25 ?_
        refine pw_bipush C dX11_nearestPiece_28 (by decide) ?_
        refine pw_iload1 C dX11_nearestPiece_30 ?_
        refine pw_imul C dX11_nearestPiece_31 ?_
        refine pw_iload4 C dX11_nearestPiece_32 ?_
        refine pw_iadd C dX11_nearestPiece_34 ?_
        refine pw_iload2 C dX11_nearestPiece_35 ?_
        have nz36_43 : M1 43 = M 43 := (hF5 43 (by decide))
        have nz36_44 : M1 44 = M 44 := (hF5 44 (by decide))
        refine pw_cVi5 C (c_X11_distance _ K _ 53 47 _ _ _ _ _ (lay_53) (lay_47) (by decide) (by decide) (by decide) (by decide) (by omega) (by omega) (by omega) (by rw [hF5 53 (by decide)]; intro p9 q1 q2; rw [Int.zero_add]; exact hx p9 q1 q2) (by rw [hF5 47 (by decide)]; intro p9 q1 q2; have := wm_x hW t (p + p9) (by omega) (by omega) (by omega) (by omega); rw [← Int.add_assoc, Int.mul_comm t] at this; omega) (by rw [hF5 44 (by decide)]; exact wm_pr hW) (by rw [hF5 43 (by decide)]; exact w_sw)) cb_X11_distance lay_43 kc_11 rfl ml_X11_123 dX11_nearestPiece_36 (by decide) (Nat.le_of_ble_eq_true rfl) (fun r36 M36 hQ => ?_)
        obtain ⟨rfl, hF36⟩ := hQ
        refine pw_top C (pcD (cfM M) (M 53) t m p) (by rw [hF5 44 (by decide), hF5 43 (by decide), hF5 53 (by decide), hF5 47 (by decide)]; exact dst_congr (n := m) (fun q _ _ => by rw [Int.zero_add]) (fun q _ _ => by show M 47 (24 * t + p + q) = M 47 (t * 24 + p + q); rw [Int.mul_comm]) (fun _ _ _ => rfl) m (by omega) (Int.le_refl _)) ?_
        have hdp := hdr p (by omega) (by omega)
        obtain ⟨r36, er36⟩ : ∃ z, z = pcD (cfM M) (M 53) t m p := ⟨_, rfl⟩
        rw [← er36]
        refine pw_aload0 C dX11_nearestPiece_39 ?_
        refine pw_aload0 C dX11_nearestPiece_40 ?_
        refine g_43_22 C fl_X11_49 dX11_nearestPiece_41 ?_
        refine pw_iconst C dX11_nearestPiece_44 ?_
        refine pw_aload0 C dX11_nearestPiece_45 ?_
        refine g_43_11 C fl_X11_30 dX11_nearestPiece_46 ?_
        refine pw_bipush C dX11_nearestPiece_49 (by decide) ?_
        refine pw_iload1 C dX11_nearestPiece_51 ?_
        refine pw_imul C dX11_nearestPiece_52 ?_
        refine pw_iload3 C dX11_nearestPiece_53 ?_
        refine pw_iadd C dX11_nearestPiece_54 ?_
        refine pw_iload2 C dX11_nearestPiece_55 ?_
        have nz56_43 : M36 43 = M 43 := ((hF36 43 (by decide)).trans (hF5 43 (by decide)))
        have nz56_44 : M36 44 = M 44 := ((hF36 44 (by decide)).trans (hF5 44 (by decide)))
        refine pw_cVi5 C (c_X11_distance _ K _ 53 47 _ _ _ _ _ (lay_53) (lay_47) (by decide) (by decide) (by decide) (by decide) (by omega) (by omega) (by omega) (by rw [hF36 53 (by decide)]; rw [hF5 53 (by decide)]; intro p9 q1 q2; rw [Int.zero_add]; exact hx p9 q1 q2) (by rw [hF36 47 (by decide)]; rw [hF5 47 (by decide)]; intro p9 q1 q2; have := wm_x hW t (be + p9) (by omega) (by omega) (by omega) (by omega); rw [← Int.add_assoc, Int.mul_comm t] at this; omega) (by rw [hF36 44 (by decide)]; rw [hF5 44 (by decide)]; exact wm_pr hW) (by rw [hF36 43 (by decide)]; rw [hF5 43 (by decide)]; exact w_sw)) cb_X11_distance lay_43 kc_11 rfl ml_X11_123 dX11_nearestPiece_56 (by decide) (Nat.le_of_ble_eq_true rfl) (fun r56 M56 hQ => ?_)
        obtain ⟨rfl, hF56⟩ := hQ
        refine pw_top C (pcD (cfM M) (M 53) t m be) (by rw [hF36 44 (by decide), hF5 44 (by decide), hF36 43 (by decide), hF5 43 (by decide), hF36 53 (by decide), hF5 53 (by decide), hF36 47 (by decide), hF5 47 (by decide)]; exact dst_congr (n := m) (fun q _ _ => by rw [Int.zero_add]) (fun q _ _ => by show M 47 (24 * t + be + q) = M 47 (t * 24 + be + q); rw [Int.mul_comm]) (fun _ _ _ => rfl) m (by omega) (Int.le_refl _)) ?_
        have hdb := hdr be (by omega) (by omega)
        refine pw_icmp_ge (tgt := 65) C dX11_nearestPiece_59 (by decide) (by omega) (by omega) (fun h59 => ?_) (fun h59 => ?_)
        · refine pw_iinc4 C (by decide) dX11_nearestPiece_65 ?_
          refine pw_goto (tgt := 5) C dX11_nearestPiece_68 (by decide) ?_
          exact ih_5 _ _ _ (Sm_trans (Sm_trans (Sm_trans Sm_refl hF5 (by decide)) hF36 (by decide)) hF56 (by decide)) (by omega) (by first | exact FM_keep hb (Or.inr (by omega)) | exact FM_new hb rfl (by omega) (by omega)) (by omega)
        · refine pw_iload4 C dX11_nearestPiece_62 ?_
          refine pw_istore3 C (by decide) dX11_nearestPiece_64 ?_
          refine pw_iinc4 C (by decide) dX11_nearestPiece_65 ?_
          refine pw_goto (tgt := 5) C dX11_nearestPiece_68 (by decide) ?_
          exact ih_5 _ _ _ (Sm_trans (Sm_trans (Sm_trans Sm_refl hF5 (by decide)) hF36 (by decide)) hF56 (by decide)) (by omega) (by first | exact FM_keep hb (Or.inr (by omega)) | exact FM_new hb rfl (by omega) (by omega)) (by omega)
  exact cut_5 _ _ _ _ Sm_refl (by omega) (by
        have h := FM_first (p := fun _ => true) (f := pcD (cfM M) (M 53) t m) (n := 0) (fun j q1 q2 => by omega) rfl (by omega)
        rw [Int.zero_add] at h
        exact h) (Nat.lt_succ_self _)
set_option maxHeartbeats 4000000 in
set_option maxRecDepth 100000 in
theorem c_X11_hasMotif (l : Launch) (K : KX) (M : Mem) (m : Int) (hW : WfK (cfM M)) (hm9 : -2147483648 ≤ m ∧ m ≤ 2147483647) (hKo : M 43 15 = 0 ∨ ((1 ≤ M 43 15 ∧ M 43 15 ≤ 6) ∧ FM (fun _ => true) (moK (cfM M) (M 43 15)) (M 43 1 ^ ((M 43 15)).toNat) (M 43 32) ∧ M 43 33 = moK (cfM M) (M 43 15) (M 43 32))) : MCi l K LAY yX11_hasMotif cX11_hasMotif 5 (some .boolean) 4 [rV K 43, iV m] M (fun r M' => (M' 43 15 = 0 ∨ ((1 ≤ M' 43 15 ∧ M' 43 15 ≤ 6) ∧ FM (fun _ => true) (moK (cfM M) (M' 43 15)) (M 43 1 ^ ((M' 43 15)).toNat) (M' 43 32) ∧ M' 43 33 = moK (cfM M) (M' 43 15) (M' 43 32))) ∧ ((okM (cfM M) m ∧ r = 1 ∧ FM (fun _ => true) (moK (cfM M) m) (M 43 1 ^ m.toNat) (M' 43 32) ∧ M' 43 33 = moK (cfM M) m (M' 43 32)) ∨ (¬ okM (cfM M) m ∧ r = 0)) ∧ Sm [43, 51, 53] M M' ∧ Fm [15, 32, 33] M M') := by
  refine mci_intro RX11 rfl [some (rV K 43), some (iV m), none, none, none] rfl (by decide +kernel) (cat_r (cat_i cat_nil)) (Nat.le_of_ble_eq_true rfl) (fun X hX C => ?_)
  subst hX
  have w_let := wm_let hW
  have w_sw := wm_sw hW
  have w_t := wm_t hW
  have hkr : 0 ≤ M 43 15 ∧ M 43 15 ≤ 6 := by rcases hKo with q | q; omega; omega
  refine pw_iload1 C dX11_hasMotif_0 ?_
  refine pw_iconst C dX11_hasMotif_1 ?_
  refine pw_bipush C dX11_hasMotif_2 (by decide) ?_
  refine pw_cSi3 C (c_X11_within _ K _ _ _ _ (by omega) (by omega) (by omega)) cb_X11_within ml_X11_81 dX11_hasMotif_4 (by decide) (Nat.le_of_ble_eq_true rfl) (fun r4 M4 hQ => ?_)
  obtain ⟨rfl, hMe⟩ := hQ
  replace hMe := hMe.symm
  subst hMe
  refine pw_if_eq (tgt := 17) C dX11_hasMotif_7 (by decide) (by split <;> omega) (fun h7 => ?_) (fun h7 => ?_)
  · have hm1 : ¬ (1 ≤ m ∧ m ≤ 6) := fun h => by rw [if_pos h] at h7; omega
    refine pw_iconst C dX11_hasMotif_17 ?_
    exact pw_zretI C dX11_hasMotif_18 (by decide) (⟨by exact hKo, by
          refine Or.inr ⟨fun h => ?_, rfl⟩
          have h1 := h.1
          have h2 := h.2.1
          have h3 : 0 < M 43 10 := h.2.2.1
          omega, Sm_refl, Fm_refl⟩)
  · have hm1 : (1 ≤ m ∧ m ≤ 6) := Decidable.byContradiction fun h => by rw [if_neg h] at h7; omega
    refine pw_aload0 C dX11_hasMotif_10 ?_
    refine g_43_10 C fl_X11_88 dX11_hasMotif_11 ?_
    refine pw_if_ne (tgt := 19) C dX11_hasMotif_14 (by decide) (by omega) (fun h14 => ?_) (fun h14 => ?_)
    · refine pw_iconst C dX11_hasMotif_19 ?_
      refine pw_istore2 C (by decide) dX11_hasMotif_20 ?_
      have cut_21 : ∀ (fu : Nat) (t : Int), (0 ≤ t ∧ t ≤ M 43 10) → (∀ u, 0 ≤ u → u < t → m ≤ M 48 u) → (M 43 10 - t).toNat < fu → PW X K LAY 5 (0, 0) (Zi X K LAY (fun r M' => (M' 43 15 = 0 ∨ ((1 ≤ M' 43 15 ∧ M' 43 15 ≤ 6) ∧ FM (fun _ => true) (moK (cfM M) (M' 43 15)) (M 43 1 ^ ((M' 43 15)).toNat) (M' 43 32) ∧ M' 43 33 = moK (cfM M) (M' 43 15) (M' 43 32))) ∧ ((okM (cfM M) m ∧ r = 1 ∧ FM (fun _ => true) (moK (cfM M) m) (M 43 1 ^ m.toNat) (M' 43 32) ∧ M' 43 33 = moK (cfM M) m (M' 43 32)) ∨ (¬ okM (cfM M) m ∧ r = 0)) ∧ Sm [43, 51, 53] M M' ∧ Fm [15, 32, 33] M M')) 21 [some (rV K 43), some (iV m), some (iV t), none, none] [] M := by
        intro fu
        induction fu with
        | zero => intro _ _ _ hm; exact absurd hm (Nat.not_lt_zero _)
        | succ fu ih =>
          intro t ht g hm
          have ih_21 := ih
          have hm_21 := hm
          refine pw_iload2 C dX11_hasMotif_21 ?_
          refine pw_aload0 C dX11_hasMotif_22 ?_
          refine g_43_10 C fl_X11_88 dX11_hasMotif_23 ?_
          refine pw_icmp_ge (tgt := 47) C dX11_hasMotif_26 (by decide) (by omega) (by omega) (fun h26 => ?_) (fun h26 => ?_)
          · have hok : okM (cfM M) m := ⟨hm1.1, hm1.2, by show 0 < M 43 10; omega, fun u q1 q2 => g u q1 (by have h9 : kT (cfM M) = M 43 10 := rfl; omega)⟩
            have hpn := pw_n (n := m) w_let (by omega)
            refine pw_aload0 C dX11_hasMotif_47 ?_
            refine g_43_15 C fl_X11_78 dX11_hasMotif_48 ?_
            refine pw_iload1 C dX11_hasMotif_51 ?_
            refine pw_icmp_ne (tgt := 57) C dX11_hasMotif_52 (by decide) (by omega) (by omega) (fun h52 => ?_) (fun h52 => ?_)
            · refine pw_aload0 C dX11_hasMotif_57 ?_
              refine pw_iconst C dX11_hasMotif_58 ?_
              refine p_43_32 C fl_X11_211 dX11_hasMotif_59 ?_
              refine pw_iconst C dX11_hasMotif_62 ?_
              refine pw_istore2 C (by decide) dX11_hasMotif_63 ?_
              have cut_64 : ∀ (fu : Nat) (k : Int) (M1 : Mem), Sm [43, 51, 53] M M1 → Fm [32, 33] M M1 → (0 ≤ k ∧ k ≤ M 43 1 ^ m.toNat) → ((k = 0 ∧ M1 43 32 = -1) ∨ (0 < k ∧ FM (fun _ => true) (moK (cfM M) m) (k) (M1 43 32) ∧ M1 43 33 = moK (cfM M) m (M1 43 32))) → (M 43 1 ^ m.toNat - k).toNat < fu → PW X K LAY 5 (0, 0) (Zi X K LAY (fun r M' => (M' 43 15 = 0 ∨ ((1 ≤ M' 43 15 ∧ M' 43 15 ≤ 6) ∧ FM (fun _ => true) (moK (cfM M) (M' 43 15)) (M 43 1 ^ ((M' 43 15)).toNat) (M' 43 32) ∧ M' 43 33 = moK (cfM M) (M' 43 15) (M' 43 32))) ∧ ((okM (cfM M) m ∧ r = 1 ∧ FM (fun _ => true) (moK (cfM M) m) (M 43 1 ^ m.toNat) (M' 43 32) ∧ M' 43 33 = moK (cfM M) m (M' 43 32)) ∨ (¬ okM (cfM M) m ∧ r = 0)) ∧ Sm [43, 51, 53] M M' ∧ Fm [15, 32, 33] M M')) 64 [some (rV K 43), some (iV m), some (iV k), none, none] [] M1 := by
                intro fu
                induction fu with
                | zero => intro _ _ _ _ _ _ hm; exact absurd hm (Nat.not_lt_zero _)
                | succ fu ih =>
                  intro k M1 hF64 hJ64 hk hb hm
                  have ih_64 := ih
                  have hm_64 := hm
                  have ec1 : cfM M1 = cfM M := cfM_e (hJ64 1 (by decide)) (hJ64 3 (by decide)) (hJ64 4 (by decide)) (hJ64 5 (by decide)) (hJ64 6 (by decide)) (hJ64 7 (by decide)) (hJ64 10 (by decide)) (hF64 44 (by decide)) (hF64 45 (by decide)) (hF64 46 (by decide)) (hF64 47 (by decide)) (hF64 48 (by decide))
                  have hbr : (-1 ≤ M1 43 32 ∧ M1 43 32 < M 43 1 ^ m.toNat) ∧ (0 < k → 0 ≤ M1 43 33 ∧ M1 43 33 ≤ 54) := by
                    rcases hb with q | ⟨q, q2, q3⟩
                    · omega
                    · have h1 := q2.1
                      have h2 := q2.2.1
                      have h3 := moK_rng hW (k := M1 43 32) hok
                      omega
                  refine pw_iload2 C dX11_hasMotif_64 ?_
                  refine pw_aload0 C dX11_hasMotif_65 ?_
                  refine g_43_1 C fl_X11_13 dX11_hasMotif_66 ?_
                  refine pw_top C _ (hJ64 1 (by decide)) ?_
                  refine pw_iload1 C dX11_hasMotif_69 ?_
                  refine pw_cSi2 C (c_X11_power _ K _ _ _ (by omega) (by omega)) cb_X11_power ml_X11_127 dX11_hasMotif_70 (by decide) (Nat.le_of_ble_eq_true rfl) (fun r70 M70 hQ => ?_)
                  obtain ⟨rfl, hMe⟩ := hQ
                  replace hMe := hMe.symm
                  subst hMe
                  refine pw_icmp_ge (tgt := 149) C dX11_hasMotif_73 (by decide) (by omega) (by omega) (fun h73 => ?_) (fun h73 => ?_)
                  · refine pw_aload0 C dX11_hasMotif_149 ?_
                    refine pw_iload1 C dX11_hasMotif_150 ?_
                    refine p_43_15 C fl_X11_78 dX11_hasMotif_151 ?_
                    refine pw_iconst C dX11_hasMotif_154 ?_
                    exact pw_zretI C dX11_hasMotif_155 (by decide) (⟨by
                          right
                          rw [rd_eq, rd_ne (by decide), rd_ne (by decide)]
                          refine ⟨hm1, ?_⟩
                          rcases hb with q | ⟨q, q2⟩
                          · omega
                          · rw [show k = M 43 1 ^ m.toNat by omega] at q2; exact q2, by
                          refine Or.inl ⟨hok, rfl, ?_⟩
                          rw [rd_ne (by decide), rd_ne (by decide)]
                          rcases hb with q | ⟨q, q2⟩
                          · omega
                          · rw [show k = M 43 1 ^ m.toNat by omega] at q2; exact q2, (Sm_up (Sm_trans Sm_refl hF64 (by decide)) (by decide)), (Fm_up (Fm_tr Fm_refl hJ64 (by decide)) (by decide))⟩)
                  · refine pw_aload0 C dX11_hasMotif_76 ?_
                    refine pw_iload2 C dX11_hasMotif_77 ?_
                    refine pw_iload1 C dX11_hasMotif_78 ?_
                    refine pw_cVv2 C (c_X11_lays _ K _ _ _ (by rw [hJ64 1 (by decide)]; omega) (by omega) (by omega)) cb_X11_lays lay_43 kc_11 rfl ml_X11_134 dX11_hasMotif_79 (by decide) (Nat.le_of_ble_eq_true rfl) (fun M79 hQ => ?_)
                    obtain ⟨h1_79, hF79⟩ := hQ
                    refine pw_iconst C dX11_hasMotif_82 ?_
                    refine pw_istore3 C (by decide) dX11_hasMotif_83 ?_
                    refine pw_iconst C dX11_hasMotif_84 ?_
                    refine pw_istore4 C (by decide) dX11_hasMotif_85 ?_
                    have cut_87 : ∀ (fu : Nat) (g9 t : Int) (M2 : Mem), Sm [51, 53] M1 M2 → (0 ≤ t ∧ t ≤ M 43 10) → (∀ i, 0 ≤ i → i < m → M2 53 i = dg (M 43 1) m k i) → (g9 = mxT (moT (cfM M) (dg (M 43 1) m k) m) t) → (M 43 10 - t).toNat < fu → PW X K LAY 5 (0, 0) (Zi X K LAY (fun r M' => (M' 43 15 = 0 ∨ ((1 ≤ M' 43 15 ∧ M' 43 15 ≤ 6) ∧ FM (fun _ => true) (moK (cfM M) (M' 43 15)) (M 43 1 ^ ((M' 43 15)).toNat) (M' 43 32) ∧ M' 43 33 = moK (cfM M) (M' 43 15) (M' 43 32))) ∧ ((okM (cfM M) m ∧ r = 1 ∧ FM (fun _ => true) (moK (cfM M) m) (M 43 1 ^ m.toNat) (M' 43 32) ∧ M' 43 33 = moK (cfM M) m (M' 43 32)) ∨ (¬ okM (cfM M) m ∧ r = 0)) ∧ Sm [43, 51, 53] M M' ∧ Fm [15, 32, 33] M M')) 87 [some (rV K 43), some (iV m), some (iV k), some (iV g9), some (iV t)] [] M2 := by
                      intro fu
                      induction fu with
                      | zero => intro _ _ _ _ _ _ _ hm; exact absurd hm (Nat.not_lt_zero _)
                      | succ fu ih =>
                        intro g9 t M2 hF87 ht hrow hg hm
                        have ih_87 := ih
                        have hm_87 := hm
                        have ec2 : cfM M2 = cfM M := by rw [← ec1]; exact cfM_e (congrFun (hF87 43 (by decide)) 1) (congrFun (hF87 43 (by decide)) 3) (congrFun (hF87 43 (by decide)) 4) (congrFun (hF87 43 (by decide)) 5) (congrFun (hF87 43 (by decide)) 6) (congrFun (hF87 43 (by decide)) 7) (congrFun (hF87 43 (by decide)) 10) (hF87 44 (by decide)) (hF87 45 (by decide)) (hF87 46 (by decide)) (hF87 47 (by decide)) (hF87 48 (by decide))
                        have hgr := (fold_rng (f := (moT (cfM M) (dg (M 43 1) m k) m)) (B := 54) (n := M 43 10) (by decide) (fun u q1 q2 => moT_rng hW (by omega) ⟨q1, q2⟩ (hok.2.2.2 u q1 q2) (fun _ _ _ => dgc_rng hW)) t (by omega) (by omega)).1
                        rw [← hg] at hgr
                        refine pw_iload4 C dX11_hasMotif_87 ?_
                        refine pw_aload0 C dX11_hasMotif_89 ?_
                        refine g_43_10 C fl_X11_88 dX11_hasMotif_90 ?_
                        refine pw_top C _ (congrFun (hF87 43 (by decide)) _) ?_
                        refine pw_top C _ (hJ64 10 (by decide)) ?_
                        refine pw_icmp_ge (tgt := 114) C dX11_hasMotif_93 (by decide) (by omega) (by omega) (fun h93 => ?_) (fun h93 => ?_)
                        · have hgk : g9 = moK (cfM M) m k := by rw [hg, show t = M 43 10 by omega]; rfl
                          have e43 : M2 43 = M1 43 := hF87 43 (by decide)
                          have cut_143 : ∀  (M4 : Mem), Sm [43, 51, 53] M M4 → Fm [32, 33] M M4 → (FM (fun _ => true) (moK (cfM M) m) (k + 1) (M4 43 32) ∧ M4 43 33 = moK (cfM M) m (M4 43 32)) → PW X K LAY 5 (0, 0) (Zi X K LAY (fun r M' => (M' 43 15 = 0 ∨ ((1 ≤ M' 43 15 ∧ M' 43 15 ≤ 6) ∧ FM (fun _ => true) (moK (cfM M) (M' 43 15)) (M 43 1 ^ ((M' 43 15)).toNat) (M' 43 32) ∧ M' 43 33 = moK (cfM M) (M' 43 15) (M' 43 32))) ∧ ((okM (cfM M) m ∧ r = 1 ∧ FM (fun _ => true) (moK (cfM M) m) (M 43 1 ^ m.toNat) (M' 43 32) ∧ M' 43 33 = moK (cfM M) m (M' 43 32)) ∨ (¬ okM (cfM M) m ∧ r = 0)) ∧ Sm [43, 51, 53] M M' ∧ Fm [15, 32, 33] M M')) 143 [some (rV K 43), some (iV m), some (iV k), some (iV g9), some (iV t)] [] M4 := by
                            intro M4 hF143 hJ143 hb4
                            refine pw_iinc2 C (by decide) dX11_hasMotif_143 ?_
                            refine pw_goto (tgt := 64) C dX11_hasMotif_146 (by decide) ?_
                            refine pw_fgt (fgt_k (fgt_k (fgt_k (fgt_no (fgt_no fgt_nil))))) ?_
                            exact ih_64 _ _ (Sm_trans Sm_refl hF143 (by decide)) (Fm_tr Fm_refl hJ143 (by decide)) (by omega) (by exact Or.inr ⟨by omega, hb4⟩) (by omega)
                          refine pw_aload0 C dX11_hasMotif_114 ?_
                          refine g_43_32 C fl_X11_211 dX11_hasMotif_115 ?_
                          refine pw_top C _ (congrFun (hF87 43 (by decide)) _) ?_
                          refine pw_iconst C dX11_hasMotif_118 ?_
                          refine pw_icmp_eq (tgt := 133) C dX11_hasMotif_119 (by decide) (by omega) (by omega) (fun h119 => ?_) (fun h119 => ?_)
                          · refine pw_aload0 C dX11_hasMotif_133 ?_
                            refine pw_iload2 C dX11_hasMotif_134 ?_
                            refine p_43_32 C fl_X11_211 dX11_hasMotif_135 ?_
                            refine pw_aload0 C dX11_hasMotif_138 ?_
                            refine pw_iload3 C dX11_hasMotif_139 ?_
                            refine p_43_33 C fl_X11_217 dX11_hasMotif_140 ?_
                            exact cut_143 _ (Sm_up (Sm_up (Sm_trans (Sm_trans Sm_refl hF64 (by decide)) hF87 (by decide)) (by decide)) (by decide)) (Fm_up (Fm_up (Fm_fr (Fm_tr Fm_refl hJ64 (by decide)) hF87 (by decide)) (by decide)) (by decide)) (by
                                  rw [rd_ne (by decide), rd_eq, rd_eq]
                                  refine ⟨?_, hgk⟩
                                  rcases hb with q | ⟨q, q2, q3⟩
                                  · rw [q.1]; exact FM_first (fun j q1 q2 => by omega) rfl (by omega)
                                  · first
                                      | exact FM_new q2 rfl (by rw [← q3, ← hgk]; omega) (by omega)
                                      | (exfalso; have h1 := q2.1; omega))
                          · refine pw_iload3 C dX11_hasMotif_122 ?_
                            refine pw_aload0 C dX11_hasMotif_123 ?_
                            refine g_43_33 C fl_X11_217 dX11_hasMotif_124 ?_
                            refine pw_top C _ (congrFun (hF87 43 (by decide)) _) ?_
                            refine pw_icmp_lt (tgt := 133) C dX11_hasMotif_127 (by decide) (by omega) (by omega) (fun h127 => ?_) (fun h127 => ?_)
                            · refine pw_aload0 C dX11_hasMotif_133 ?_
                              refine pw_iload2 C dX11_hasMotif_134 ?_
                              refine p_43_32 C fl_X11_211 dX11_hasMotif_135 ?_
                              refine pw_aload0 C dX11_hasMotif_138 ?_
                              refine pw_iload3 C dX11_hasMotif_139 ?_
                              refine p_43_33 C fl_X11_217 dX11_hasMotif_140 ?_
                              exact cut_143 _ (Sm_up (Sm_up (Sm_trans (Sm_trans Sm_refl hF64 (by decide)) hF87 (by decide)) (by decide)) (by decide)) (Fm_up (Fm_up (Fm_fr (Fm_tr Fm_refl hJ64 (by decide)) hF87 (by decide)) (by decide)) (by decide)) (by
                                    rw [rd_ne (by decide), rd_eq, rd_eq]
                                    refine ⟨?_, hgk⟩
                                    rcases hb with q | ⟨q, q2, q3⟩
                                    · rw [q.1]; exact FM_first (fun j q1 q2 => by omega) rfl (by omega)
                                    · first
                                        | exact FM_new q2 rfl (by rw [← q3, ← hgk]; omega) (by omega)
                                        | (exfalso; have h1 := q2.1; omega))
                            · refine pw_goto (tgt := 143) C dX11_hasMotif_130 (by decide) ?_
                              exact cut_143 _ (Sm_trans (Sm_trans Sm_refl hF64 (by decide)) hF87 (by decide)) (Fm_fr (Fm_tr Fm_refl hJ64 (by decide)) hF87 (by decide)) (by
                                    rw [e43]
                                    rcases hb with q | ⟨q, q2, q3⟩
                                    · exact absurd q.2 (by omega)
                                    · exact ⟨FM_keep q2 (Or.inr (by rw [← q3, ← hgk]; omega)), q3⟩)
                        · have hxs := wm_xs hW t (by omega) (by omega)
                          refine pw_iload3 C dX11_hasMotif_96 ?_
                          refine pw_aload0 C dX11_hasMotif_97 ?_
                          refine pw_iload4 C dX11_hasMotif_98 ?_
                          refine pw_iload1 C dX11_hasMotif_100 ?_
                          have nz101_43 : M2 43 = M1 43 := (hF87 43 (by decide))
                          refine pw_cVi2 C (c_X11_pieceFar _ K _ _ _ (by rw [ec2]; exact hW) (by rw [ec2]; exact hok) (by rw [hF87 43 (by decide), hJ64 10 (by decide)]; omega) (by intro i q1 q2; rw [hrow i q1 q2]; exact dgc_rng hW)) cb_X11_pieceFar lay_43 kc_11 rfl ml_X11_214 dX11_hasMotif_101 (by decide) (Nat.le_of_ble_eq_true rfl) (fun r101 M101 hQ => ?_)
                          obtain ⟨h1_101, hF101⟩ := hQ
                          rw [ec2, moT_congr (y := dg (M 43 1) m k) hok ⟨by omega, by show t < M 43 10; omega⟩ hrow] at h1_101
                          have hmt := moT_rng hW (x := dg (M 43 1) m k) (m := m) (t := t) (by omega) ⟨by omega, by show t < M 43 10; omega⟩ (hok.2.2.2 t (by omega) (by show t < M 43 10; omega)) (fun _ _ _ => dgc_rng hW)
                          rw [← h1_101] at hmt
                          refine pw_mmax C (by omega) (by omega) (Nat.le_of_ble_eq_true rfl) ml_X11_138 dX11_hasMotif_104 ?_
                          refine pw_istore3 C (by decide) dX11_hasMotif_107 ?_
                          refine pw_iinc4 C (by decide) dX11_hasMotif_108 ?_
                          refine pw_goto (tgt := 87) C dX11_hasMotif_111 (by decide) ?_
                          exact ih_87 _ _ _ (Sm_trans (Sm_trans Sm_refl hF87 (by decide)) hF101 (by decide)) (by omega) (by rw [hF101 53 (by decide)]; exact hrow) (by rw [mxT_s (by omega), ← hg, ← h1_101]) (by omega)
                    exact cut_87 _ _ _ _ (Sm_trans Sm_refl hF79 (by decide)) (by omega) (by rw [hJ64 1 (by decide)] at h1_79; exact h1_79) (by rfl) (Nat.lt_succ_self _)
              exact cut_64 _ _ _ (Sm_up Sm_refl (by decide)) (Fm_up Fm_refl (by decide)) (by omega) (by exact Or.inl ⟨rfl, rd_eq⟩) (Nat.lt_succ_self _)
            · refine pw_iconst C dX11_hasMotif_55 ?_
              exact pw_zretI C dX11_hasMotif_56 (by decide) (⟨by exact hKo, by
                    refine Or.inl ⟨hok, rfl, ?_⟩
                    have h := hKo.elim (fun h => absurd h (by omega)) (fun h => h.2)
                    rw [show M 43 15 = m by omega] at h
                    exact h, Sm_refl, Fm_refl⟩)
          · have hxs := wm_xs hW t (by omega) (by omega)
            refine pw_aload0 C dX11_hasMotif_29 ?_
            refine g_43_12 C fl_X11_33 dX11_hasMotif_30 ?_
            refine pw_iload2 C dX11_hasMotif_33 ?_
            refine pw_iaload C lay_48 (by omega) (by decide) dX11_hasMotif_34 ?_
            refine pw_iload1 C dX11_hasMotif_35 ?_
            refine pw_icmp_ge (tgt := 41) C dX11_hasMotif_36 (by decide) (by omega) (by omega) (fun h36 => ?_) (fun h36 => ?_)
            · refine pw_iinc2 C (by decide) dX11_hasMotif_41 ?_
              refine pw_goto (tgt := 21) C dX11_hasMotif_44 (by decide) ?_
              exact ih_21 _ (by omega) (by intro u q1 q2; rcases Int.lt_or_eq_of_le (show u ≤ t by omega) with z | z; exact g u q1 z; rw [z]; omega) (by omega)
            · refine pw_iconst C dX11_hasMotif_39 ?_
              exact pw_zretI C dX11_hasMotif_40 (by decide) (⟨by exact hKo, by exact Or.inr ⟨fun h => by have := h.2.2.2 t (by omega) (by show t < M 43 10; omega); have h9 : kXs (cfM M) t = M 48 t := rfl; omega, rfl⟩, Sm_refl, Fm_refl⟩)
      exact cut_21 _ _ (by omega) (by intro u q1 q2; omega) (Nat.lt_succ_self _)
    · refine pw_iconst C dX11_hasMotif_17 ?_
      exact pw_zretI C dX11_hasMotif_18 (by decide) (⟨by exact hKo, by
            refine Or.inr ⟨fun h => ?_, rfl⟩
            have h1 := h.1
            have h2 := h.2.1
            have h3 : 0 < M 43 10 := h.2.2.1
            omega, Sm_refl, Fm_refl⟩)
