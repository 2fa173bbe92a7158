theorem lsT_rng {c : Cfg} (hW : WfK c) {x : Int → Int} {m p t : Int} (hm : okM c m) (hp : 0 ≤ p ∧ p < m) (ht : 0 ≤ t ∧ t < kT c) (hx : ∀ q, 0 ≤ q → q < m → 0 ≤ x q ∧ x q ≤ 3) : 0 ≤ miT (lsP c x m p t) (nPc c m t) ∧ miT (lsP c x m p t) (nPc c m t) ≤ 54 := by
  obtain ⟨a, b, d, e⟩ := id hm
  have hn : nPc c m t = kXs c t - m + 1 := rfl
  have h0 := e t ht.1 ht.2
  have hs := hW.2.1
  have h1 : miT (lsP c x m p t) (nPc c m t) ≤ moT c x m t := miT_mono (nPc c m t) (by omega) (fun i z1 z2 => ls_le hW hp ht ⟨z1, z2⟩ hx (fun _ _ _ => rfl))
  have h2 := moT_rng hW (by omega) ht h0 hx
  have h3 := miT_r2 (f := lsP c x m p t) (nPc c m t) (by omega) (fun i z1 z2 => by
    have q1 := (pcD_rng hW ht ⟨z1, z2⟩ hx p hp.1 (by omega)).1
    have q2 := (pcD_rng hW ht ⟨z1, z2⟩ hx (p + 1) (by omega) (by omega)).1
    unfold lsP
    split <;> omega)
  omega
set_option maxHeartbeats 4000000 in
set_option maxRecDepth 100000 in
theorem c_X2_leastSum (l : Launch) (K : KX) (M : Mem) (p f b : Int) (hwd : M 37 4 = 120) (hln : 1 ≤ M 37 0 ∧ M 37 0 ≤ 6) (hp : 0 ≤ p ∧ p < M 37 0) (hf : 0 ≤ f ∧ f ≤ b ∧ b ≤ 120) (hsw : 0 ≤ M 1 1 ∧ M 1 1 ≤ 9) (hv : ∀ t, f ≤ t → t < b → (0 ≤ M 39 (p * 120 + t) ∧ M 39 (p * 120 + t) ≤ 1000) ∧ (0 ≤ M 39 (p * 120 + 120 + t) ∧ M 39 (p * 120 + 120 + t) ≤ 1000)) : MCi l K LAY yX2_leastSum cX2_leastSum 9 (some .int) 1 [rV K 33, iV p, iV f, iV b] M (fun r M' => (r = miT (fun u => lsF M p (f + u)) (b - f)) ∧ M' = M) := by
  refine mci_intro RX2 rfl [some (rV K 33), some (iV p), some (iV f), some (iV b), none, none, none, none, none] rfl (by decide +kernel) (cat_r (cat_i (cat_i (cat_i cat_nil)))) (Nat.le_of_ble_eq_true rfl) (fun X hX C => ?_)
  subst hX
  have hls : ∀ t, f ≤ t → t < b → 0 ≤ lsF M p t := fun t q1 q2 => by have := hv t q1 q2; unfold lsF; split <;> omega
  refine pw_iload1 C dX2_leastSum_0 ?_
  refine pw_aload0 C dX2_leastSum_1 ?_
  refine g_33_4 C fl_X2_34 dX2_leastSum_2 ?_
  refine g_37_4 C fl_X2_97 dX2_leastSum_5 ?_
  refine pw_top C (120) hwd ?_
  refine pw_imul C dX2_leastSum_8 ?_
  refine pw_istore4 C (by decide) dX2_leastSum_9 ?_
  have cut_39 : ∀  (ms : Int), (((0 < M 1 1 ∧ p < M 37 0 - 1) ∧ ms = 1) ∨ (¬ (0 < M 1 1 ∧ p < M 37 0 - 1) ∧ ms = 0)) → PW X K LAY 9 (0, 0) (Zi X K LAY (fun r M' => (r = miT (fun u => lsF M p (f + u)) (b - f)) ∧ M' = M)) 39 [some (rV K 33), some (iV p), some (iV f), some (iV b), some (iV (p * 120)), none, none, none, none] [iV ms] M := by
    intro ms hms
    have hm01 : ms = 0 ∨ ms = 1 := hms.elim (fun h => Or.inr h.2) (fun h => Or.inl h.2)
    refine pw_istore5 C (by decide) dX2_leastSum_39 ?_
    refine pw_ldc C (z := 2147483647) (by decide) ct_X2_41 dX2_leastSum_41 ?_
    refine pw_istore6 C (by decide) dX2_leastSum_43 ?_
    refine pw_iload2 C dX2_leastSum_45 ?_
    refine pw_istore7 C (by decide) dX2_leastSum_46 ?_
    have cut_48 : ∀ (fu : Nat) (le t : Int), (f ≤ t ∧ t ≤ b) → (le = miT (fun u => lsF M p (f + u)) (t - f)) → (b - t).toNat < fu → PW X K LAY 9 (0, 0) (Zi X K LAY (fun r M' => (r = miT (fun u => lsF M p (f + u)) (b - f)) ∧ M' = M)) 48 [some (rV K 33), some (iV p), some (iV f), some (iV b), some (iV (p * 120)), some (iV ms), some (iV le), some (iV t), none] [] M := by
      intro fu
      induction fu with
      | zero => intro _ _ _ _ hm; exact absurd hm (Nat.not_lt_zero _)
      | succ fu ih =>
        intro le t ht hle hm
        have ih_48 := ih
        have hm_48 := hm
        have hlr : 0 ≤ le ∧ le ≤ 2147483647 := by rw [hle]; exact miT_r2 (t - f) (by omega) (fun u q1 q2 => hls (f + u) (by omega) (by omega))
        refine pw_iload7 C dX2_leastSum_48 ?_
        refine pw_iload3 C dX2_leastSum_50 ?_
        refine pw_icmp_ge (tgt := 148) C dX2_leastSum_51 (by decide) (by omega) (by omega) (fun h51 => ?_) (fun h51 => ?_)
        · refine pw_iload6 C dX2_leastSum_148 ?_
          exact pw_iretI C dX2_leastSum_150 (⟨by rw [hle, show t = b by omega], rfl⟩)
        · have hvt := hv t (by omega) (by omega)
          refine pw_aload0 C dX2_leastSum_54 ?_
          refine g_33_4 C fl_X2_34 dX2_leastSum_55 ?_
          refine g_37_3 C fl_X2_106 dX2_leastSum_58 ?_
          refine pw_iload4 C dX2_leastSum_61 ?_
          refine pw_aload0 C dX2_leastSum_63 ?_
          refine g_33_4 C fl_X2_34 dX2_leastSum_64 ?_
          refine g_37_4 C fl_X2_97 dX2_leastSum_67 ?_
          refine pw_top C (120) hwd ?_
          refine pw_iadd C dX2_leastSum_70 ?_
          refine pw_iload7 C dX2_leastSum_71 ?_
          refine pw_iadd C dX2_leastSum_73 ?_
          refine pw_iaload C lay_39 (by omega) (by decide) dX2_leastSum_74 ?_
          refine pw_istore8 C (by decide) dX2_leastSum_75 ?_
          have cut_131 : ∀  (s8 : Int), (s8 = lsF M p t) → PW X K LAY 9 (0, 0) (Zi X K LAY (fun r M' => (r = miT (fun u => lsF M p (f + u)) (b - f)) ∧ M' = M)) 131 [some (rV K 33), some (iV p), some (iV f), some (iV b), some (iV (p * 120)), some (iV ms), some (iV le), some (iV t), some (iV s8)] [] M := by
            intro s8 hs8
            have hs8r : 0 ≤ s8 ∧ s8 ≤ 1009 := by rw [hs8]; unfold lsF; split <;> omega
            refine pw_iload8 C dX2_leastSum_131 ?_
            refine pw_iload6 C dX2_leastSum_133 ?_
            refine pw_icmp_ge (tgt := 142) C dX2_leastSum_135 (by decide) (by omega) (by omega) (fun h135 => ?_) (fun h135 => ?_)
            · refine pw_iinc7 C (by decide) dX2_leastSum_142 ?_
              refine pw_goto (tgt := 48) C dX2_leastSum_145 (by decide) ?_
              refine pw_fgt (fgt_k (fgt_k (fgt_k (fgt_k (fgt_k (fgt_k (fgt_k (fgt_k (fgt_no fgt_nil))))))))) ?_
              exact ih_48 _ _ (by omega) (by
                    rw [show t + 1 - f = (t - f) + 1 by omega, miT_s (by omega), ← hle]
                    show _ = if lsF M p (f + (t - f)) < le then lsF M p (f + (t - f)) else le
                    rw [show f + (t - f) = t by omega, ← hs8]
                    first | rw [if_pos (by omega)] | rw [if_neg (by omega)]) (by omega)
            · refine pw_iload8 C dX2_leastSum_138 ?_
              refine pw_istore6 C (by decide) dX2_leastSum_140 ?_
              refine pw_iinc7 C (by decide) dX2_leastSum_142 ?_
              refine pw_goto (tgt := 48) C dX2_leastSum_145 (by decide) ?_
              refine pw_fgt (fgt_k (fgt_k (fgt_k (fgt_k (fgt_k (fgt_k (fgt_k (fgt_k (fgt_no fgt_nil))))))))) ?_
              exact ih_48 _ _ (by omega) (by
                    rw [show t + 1 - f = (t - f) + 1 by omega, miT_s (by omega), ← hle]
                    show _ = if lsF M p (f + (t - f)) < le then lsF M p (f + (t - f)) else le
                    rw [show f + (t - f) = t by omega, ← hs8]
                    first | rw [if_pos (by omega)] | rw [if_neg (by omega)]) (by omega)
          refine pw_iload5 C dX2_leastSum_77 ?_
          refine pw_if_eq (tgt := 131) C dX2_leastSum_79 (by decide) (by omega) (fun h79 => ?_) (fun h79 => ?_)
          · exact cut_131 _ (by
                  unfold lsF
                  rw [if_neg (fun h => (hms.elim (fun q => absurd q.2 (by omega)) (fun q => q.1) : ¬ (0 < M 1 1 ∧ p < M 37 0 - 1)) ⟨h.1, h.2.1⟩)])
          · refine pw_aload0 C dX2_leastSum_82 ?_
            refine g_33_4 C fl_X2_34 dX2_leastSum_83 ?_
            refine g_37_3 C fl_X2_106 dX2_leastSum_86 ?_
            refine pw_iload4 C dX2_leastSum_89 ?_
            refine pw_iload7 C dX2_leastSum_91 ?_
            refine pw_iadd C dX2_leastSum_93 ?_
            refine pw_iaload C lay_39 (by omega) (by decide) dX2_leastSum_94 ?_
            refine pw_aload0 C dX2_leastSum_95 ?_
            refine g_33_2 C fl_X2_21 dX2_leastSum_96 ?_
            refine g_1_1 C fl_X2_100 dX2_leastSum_99 ?_
            refine pw_iadd C dX2_leastSum_102 ?_
            refine pw_iload8 C dX2_leastSum_103 ?_
            refine pw_icmp_ge (tgt := 131) C dX2_leastSum_105 (by decide) (by omega) (by omega) (fun h105 => ?_) (fun h105 => ?_)
            · exact cut_131 _ (by
                    unfold lsF
                    rw [if_neg (fun h => by have := h.2.2; omega)])
            · refine pw_aload0 C dX2_leastSum_108 ?_
              refine g_33_4 C fl_X2_34 dX2_leastSum_109 ?_
              refine g_37_3 C fl_X2_106 dX2_leastSum_112 ?_
              refine pw_iload4 C dX2_leastSum_115 ?_
              refine pw_iload7 C dX2_leastSum_117 ?_
              refine pw_iadd C dX2_leastSum_119 ?_
              refine pw_iaload C lay_39 (by omega) (by decide) dX2_leastSum_120 ?_
              refine pw_aload0 C dX2_leastSum_121 ?_
              refine g_33_2 C fl_X2_21 dX2_leastSum_122 ?_
              refine g_1_1 C fl_X2_100 dX2_leastSum_125 ?_
              refine pw_iadd C dX2_leastSum_128 ?_
              refine pw_istore8 C (by decide) dX2_leastSum_129 ?_
              exact cut_131 _ (by
                    have hm1 : 0 < M 1 1 ∧ p < M 37 0 - 1 := hms.elim (fun q => q.1) (fun q => absurd q.2 (by omega))
                    unfold lsF
                    rw [if_pos ⟨hm1.1, hm1.2, by omega⟩])
    exact cut_48 _ _ _ (by omega) (by rw [show f - f = (0 : Int) by omega]; rfl) (Nat.lt_succ_self _)
  refine pw_aload0 C dX2_leastSum_11 ?_
  refine g_33_2 C fl_X2_21 dX2_leastSum_12 ?_
  refine g_1_1 C fl_X2_100 dX2_leastSum_15 ?_
  refine pw_if_le (tgt := 38) C dX2_leastSum_18 (by decide) (by omega) (fun h18 => ?_) (fun h18 => ?_)
  · refine pw_iconst C dX2_leastSum_38 ?_
    exact cut_39 _ (by exact Or.inr ⟨by omega, rfl⟩)
  · refine pw_iload1 C dX2_leastSum_21 ?_
    refine pw_aload0 C dX2_leastSum_22 ?_
    refine g_33_4 C fl_X2_34 dX2_leastSum_23 ?_
    refine g_37_0 C fl_X2_103 dX2_leastSum_26 ?_
    refine pw_iconst C dX2_leastSum_29 ?_
    refine pw_isub C dX2_leastSum_30 ?_
    refine pw_icmp_ge (tgt := 38) C dX2_leastSum_31 (by decide) (by omega) (by omega) (fun h31 => ?_) (fun h31 => ?_)
    · refine pw_iconst C dX2_leastSum_38 ?_
      exact cut_39 _ (by exact Or.inr ⟨by omega, rfl⟩)
    · refine pw_iconst C dX2_leastSum_34 ?_
      refine pw_goto (tgt := 39) C dX2_leastSum_35 (by decide) ?_
      exact cut_39 _ (by exact Or.inl ⟨by omega, rfl⟩)
set_option maxHeartbeats 4000000 in
set_option maxRecDepth 100000 in
theorem c_X2_leastReach (l : Launch) (K : KX) (M : Mem) (p m : Int) (hW : WfK (cf M)) (hm0 : okM (cf M) m) (hA : MoA (cf M) M m) (hp : 0 ≤ p ∧ p < m) (hS : WSb M (p + 1)) (hx : ∀ i, 0 ≤ i → i < m → 0 ≤ M 38 i ∧ M 38 i ≤ 3) : MCi l K LAY yX2_leastReach cX2_leastReach 7 (some .int) 2 [rV K 33, iV p, iV m] M (fun r M' => (r = lrP (cf M) (M 38) m p) ∧ M' = M) := by
  refine mci_intro RX2 rfl [some (rV K 33), some (iV p), some (iV m), none, none, none, none] rfl (by decide +kernel) (cat_r (cat_i (cat_i cat_nil))) (Nat.le_of_ble_eq_true rfl) (fun X hX C => ?_)
  subst hX
  have w_let := wf_let hW
  have w_sw := wf_sw hW
  have w_t := wf_t hW
  have hR := MoA_WR hW hm0 hA hx
  have hm6 : 1 ≤ m ∧ m ≤ 6 := ⟨hm0.1, hm0.2.1⟩
  have hpr : ∀ t, 0 ≤ t → t ≤ M 9 0 → 0 ≤ pfx (cf M) m t ∧ pfx (cf M) m t ≤ 24 * t := pfx_rng hW hm0
  have hok : ∀ t, 0 ≤ t → t < M 9 0 → m ≤ M 11 t := hm0.2.2.2
  have e370 : M 37 0 = m := hA.2.1
  have e371 : M 37 1 = pfx (cf M) m (M 9 0) := hA.2.2.1
  refine pw_iconst C dX2_leastReach_0 ?_
  refine pw_istore3 C (by decide) dX2_leastReach_1 ?_
  refine pw_iconst C dX2_leastReach_2 ?_
  refine pw_istore4 C (by decide) dX2_leastReach_3 ?_
  refine pw_iconst C dX2_leastReach_5 ?_
  refine pw_istore5 C (by decide) dX2_leastReach_6 ?_
  have cut_8 : ∀ (fu : Nat) (g f t : Int), (0 ≤ t ∧ t ≤ M 9 0) → (f = pfx (cf M) m t) → (g = mxT (fun t => miT (lsP (cf M) (M 38) m p t) (nPc (cf M) m t)) t) → (M 9 0 - t).toNat < fu → PW X K LAY 7 (0, 0) (Zi X K LAY (fun r M' => (r = lrP (cf M) (M 38) m p) ∧ M' = M)) 8 [some (rV K 33), some (iV p), some (iV m), some (iV g), some (iV f), some (iV t), none] [] M := by
    intro fu
    induction fu with
    | zero => intro _ _ _ _ _ _ hm; exact absurd hm (Nat.not_lt_zero _)
    | succ fu ih =>
      intro g f t ht hf hg hm
      have ih_8 := ih
      have hm_8 := hm
      have hgr := (fold_rng (f := (fun t => miT (lsP (cf M) (M 38) m p t) (nPc (cf M) m t))) (B := 54) (n := M 9 0) (by decide) (fun u q1 q2 => lsT_rng hW hm0 hp ⟨q1, q2⟩ hx) t (by omega) (by omega)).1
      rw [← hg] at hgr
      have hft := hpr t (by omega) (by omega)
      rw [← hf] at hft
      refine pw_iload5 C dX2_leastReach_8 ?_
      refine pw_aload0 C dX2_leastReach_10 ?_
      refine g_33_3 C fl_X2_25 dX2_leastReach_11 ?_
      refine g_9_0 C fl_X2_46 dX2_leastReach_14 ?_
      refine pw_icmp_ge (tgt := 59) C dX2_leastReach_17 (by decide) (by omega) (by omega) (fun h17 => ?_) (fun h17 => ?_)
      · refine pw_iload3 C dX2_leastReach_59 ?_
        exact pw_iretI C dX2_leastReach_60 (⟨by rw [hg, show t = M 9 0 by omega]; rfl, rfl⟩)
      · have hxs := wf_xs hW t (by omega) (by omega)
        have hot := hok t (by omega) (by omega)
        have hn : nPc (cf M) m t = M 11 t - m + 1 := rfl
        have hin := pfx_s (c := cf M) (m := m) (t := t) (by omega)
        have hmo := hpr (t + 1) (by omega) (by omega)
        have hle9 : pfx (cf M) m (t + 1) ≤ pfx (cf M) m (M 9 0) := by
          have h := pfx_mono hm0 (t := t + 1) (by omega) (M 9 0 - (t + 1)) (by omega) (by show t + 1 + (M 9 0 - (t + 1)) ≤ M 9 0; omega)
          rw [show t + 1 + (M 9 0 - (t + 1)) = M 9 0 by omega] at h
          exact h
        have hmx := hpr (M 9 0) (by omega) (Int.le_refl _)
        have hlt := lsT_rng hW (x := M 38) hm0 hp (t := t) ⟨by omega, by show t < M 9 0; omega⟩ hx
        refine pw_iload4 C dX2_leastReach_20 ?_
        refine pw_aload0 C dX2_leastReach_22 ?_
        refine g_33_3 C fl_X2_25 dX2_leastReach_23 ?_
        refine pw_iload5 C dX2_leastReach_26 ?_
        refine pw_iload2 C dX2_leastReach_28 ?_
        refine pw_cVi2 C (c_X7_piecesOf _ K _ _ _ (by omega)) cb_X7_piecesOf lay_9 kc_7 rfl ml_X2_52 dX2_leastReach_29 (by decide) (Nat.le_of_ble_eq_true rfl) (fun r29 M29 hQ => ?_)
        obtain ⟨rfl, hMe⟩ := hQ
        replace hMe := hMe.symm
        subst hMe
        refine pw_iadd C dX2_leastReach_32 ?_
        refine pw_istore6 C (by decide) dX2_leastReach_33 ?_
        refine pw_iload3 C dX2_leastReach_35 ?_
        refine pw_aload0 C dX2_leastReach_36 ?_
        refine pw_iload1 C dX2_leastReach_37 ?_
        refine pw_iload4 C dX2_leastReach_38 ?_
        refine pw_iload6 C dX2_leastReach_40 ?_
        refine pw_cVi3 C (c_X2_leastSum _ K _ _ _ _ (hA.1) (by omega) (by omega) (by omega) (w_sw) (by
              intro u q1 q2
              have a1 := wDb_rng hR (t := u) (by omega) p (by omega) (by omega)
              have a2 := wDb_rng hR (t := u) (by omega) (p + 1) (by omega) (by omega)
              rw [hS.1 p (by omega) (by omega) u (by omega) (by omega), show p * 120 + 120 = (p + 1) * 120 by omega, hS.1 (p + 1) (by omega) (Int.le_refl _) u (by omega) (by omega)]
              omega)) cb_X2_leastSum lay_33 kc_2 rfl ml_X2_88 dX2_leastReach_42 (by decide) (Nat.le_of_ble_eq_true rfl) (fun r42 M42 hQ => ?_)
        obtain ⟨rfl, hMe⟩ := hQ
        replace hMe := hMe.symm
        subst hMe
        refine pw_top C (miT (lsP (cf M) (M 38) m p t) (nPc (cf M) m t)) (by rw [show f + (M 11 t - m + 1) - f = nPc (cf M) m t by omega, hf]; exact miT_congr (nPc (cf M) m t) (by omega) (fun u q1 q2 => lsF_is hW hm0 hA hS hp ⟨by omega, by show t < M 9 0; omega⟩ ⟨q1, q2⟩)) ?_
        refine pw_mmax C (by omega) (by omega) (Nat.le_of_ble_eq_true rfl) ml_X2_92 dX2_leastReach_45 ?_
        refine pw_istore3 C (by decide) dX2_leastReach_48 ?_
        refine pw_iload6 C dX2_leastReach_49 ?_
        refine pw_istore4 C (by decide) dX2_leastReach_51 ?_
        refine pw_iinc5 C (by decide) dX2_leastReach_53 ?_
        refine pw_goto (tgt := 8) C dX2_leastReach_56 (by decide) ?_
        refine pw_fgt (fgt_k (fgt_k (fgt_k (fgt_k (fgt_k (fgt_k (fgt_no fgt_nil))))))) ?_
        exact ih_8 _ _ _ (by omega) (by rw [hin, ← hf, hn]) (by rw [mxT_s (by omega), ← hg]) (by omega)
  exact cut_8 _ _ _ _ (by omega) (by rfl) (by rfl) (Nat.lt_succ_self _)
set_option maxHeartbeats 4000000 in
set_option maxRecDepth 100000 in
theorem c_X2_descend (l : Launch) (K : KX) (M : Mem) (pl m : Int) (k : Int) (hW : WfK (cf M)) (hm0 : okM (cf M) m) (hA : MoA (cf M) M m) (hpl : 0 ≤ pl ∧ pl < m) (hk : 0 ≤ k ∧ k < M 1 0 ^ m.toNat) (hx : ∀ i, 0 ≤ i → i < m → M 38 i = dg (M 1 0) m k i) (hS : WSb M pl) (hI : MoI (cf M) m (M 34 m) (M 35 m) k) (hZ : Z0b M) : MCi l K LAY yX2_descend cX2_descend 5 (some .int) 3 [rV K 33, iV pl, iV m] M (fun r M' => (0 ≤ r ∧ r < m) ∧ (WSb M' r) ∧ (MoI (cf M) m (M' 34 m) (M' 35 m) (nxk (M 1 0) (M 38) m r)) ∧ (∀ j, j ≠ m → M' 34 j = M 34 j ∧ M' 35 j = M 35 j) ∧ (Z0b M') ∧ Sm [34, 35, 39, 41, 42] M M') := by
  refine mci_intro RX2 rfl [some (rV K 33), some (iV pl), some (iV m), none, none] rfl (by decide +kernel) (cat_r (cat_i (cat_i cat_nil))) (Nat.le_of_ble_eq_true rfl) (fun X hX C => ?_)
  subst hX
  have w_let := wf_let hW
  have w_sw := wf_sw hW
  have w_t := wf_t hW
  have hm6 : 1 ≤ m ∧ m ≤ 6 := ⟨hm0.1, hm0.2.1⟩
  have hxr : ∀ i, 0 ≤ i → i < m → 0 ≤ M 38 i ∧ M 38 i < M 1 0 := fun i q1 q2 => by rw [hx i q1 q2]; exact dg_rng (by omega)
  have hx3 : ∀ i, 0 ≤ i → i < m → 0 ≤ M 38 i ∧ M 38 i ≤ 3 := fun i q1 q2 => by have := hxr i q1 q2; omega
  have hvl : vl (M 1 0) (M 38) m = k := by rw [vl_congr (n := m) hx m (by omega) (Int.le_refl _)]; exact dg_vl (by omega) m (by omega) k hk.1 hk.2
  have e370 : M 37 0 = m := hA.2.1
  have hsr := MoI_rng hW hm0 hI
  have hR := MoA_WR hW hm0 hA hx3
  refine pw_iload1 C dX2_descend_0 ?_
  refine pw_istore3 C (by decide) dX2_descend_1 ?_
  have cut_2 : ∀ (fu : Nat) (p : Int) (M1 : Mem), Sm [34, 35, 39, 41, 42] M M1 → (pl ≤ p ∧ p ≤ m) → (WSb M1 p) → (Z0b M1) → ((p < m ∧ M1 34 = M 34 ∧ M1 35 = M 35) ∨ (p = m ∧ MoI (cf M) m (M1 34 m) (M1 35 m) (k + 1) ∧ ∀ j, j ≠ m → M1 34 j = M 34 j ∧ M1 35 j = M 35 j)) → (m - p).toNat < fu → PW X K LAY 5 (0, 0) (Zi X K LAY (fun r M' => (0 ≤ r ∧ r < m) ∧ (WSb M' r) ∧ (MoI (cf M) m (M' 34 m) (M' 35 m) (nxk (M 1 0) (M 38) m r)) ∧ (∀ j, j ≠ m → M' 34 j = M 34 j ∧ M' 35 j = M 35 j) ∧ (Z0b M') ∧ Sm [34, 35, 39, 41, 42] M M')) 2 [some (rV K 33), some (iV pl), some (iV m), some (iV p), none] [] M1 := by
    intro fu
    induction fu with
    | zero => intro _ _ _ _ _ _ _ hm; exact absurd hm (Nat.not_lt_zero _)
    | succ fu ih =>
      intro p M1 hF2 hp g gz hst hm
      have ih_2 := ih
      have hm_2 := hm
      have ecM1 : cf M1 = cf M := by unfold cf; rw [hF2 1 (by decide), hF2 2 (by decide), hF2 6 (by decide), hF2 7 (by decide), hF2 8 (by decide), hF2 9 (by decide), hF2 10 (by decide), hF2 11 (by decide)]
      refine pw_iload3 C dX2_descend_2 ?_
      refine pw_iload2 C dX2_descend_3 ?_
      refine pw_icmp_ge (tgt := 70) C dX2_descend_4 (by decide) (by omega) (by omega) (fun h4 => ?_) (fun h4 => ?_)
      · refine pw_iload2 C dX2_descend_70 ?_
        refine pw_iconst C dX2_descend_71 ?_
        refine pw_isub C dX2_descend_72 ?_
        exact pw_iretI C dX2_descend_73 (⟨by omega, by exact WSb_d g (by omega), by
              rw [nxk_last hvl]
              exact hst.elim (fun h => absurd h.1 (by omega)) (fun h => h.2.1), by exact hst.elim (fun h => absurd h.1 (by omega)) (fun h => h.2.2), by exact gz, (Sm_trans Sm_refl hF2 (by decide))⟩)
      · have hs1 : M1 34 = M 34 ∧ M1 35 = M 35 := hst.elim (fun h => h.2) (fun h => absurd h.1 (by omega))
        have hR1 : WRb M1 := WRb_c (hF2 _ (by decide)) (hF2 _ (by decide)) (hF2 _ (by decide)) (hF2 _ (by decide)) (hF2 _ (by decide)) hR
        have ho1 := hF2 37 (by decide)
        have hb1 := WSb_pk hR1 g (i := p) (by omega) (by rw [ho1]; omega)
        refine pw_aload0 C dX2_descend_7 ?_
        refine g_33_4 C fl_X2_34 dX2_descend_8 ?_
        refine pw_iload3 C dX2_descend_11 ?_
        have nz12_37 : M1 37 = M 37 := (hF2 37 (by decide))
        refine pw_cVv1 C (c_X8_put_B _ K _ _ (hR1) (by rw [ho1]; omega) (fun t q1 q2 => g.1 p (by omega) (by omega) t q1 q2) (fun h t q1 q2 => g.1 (p - 1) (by omega) (by omega) t q1 q2) (hb1.1) (hb1.2)) cb_X8_put lay_37 kc_8 rfl ml_X2_78 dX2_descend_12 (by decide) (Nat.le_of_ble_eq_true rfl) (fun M12 hQ => ?_)
        obtain ⟨h1_12, h2_12, h3_12, h4_12, hF12⟩ := hQ
        have ec12 : cf M12 = cf M := by rw [← ecM1]; unfold cf; rw [hF12 1 (by decide), hF12 2 (by decide), hF12 6 (by decide), hF12 7 (by decide), hF12 8 (by decide), hF12 9 (by decide), hF12 10 (by decide), hF12 11 (by decide)]
        have e37 : M12 37 = M 37 := (hF12 37 (by decide)).trans (hF2 37 (by decide))
        have e38 : M12 38 = M 38 := (hF12 38 (by decide)).trans (hF2 38 (by decide))
        have e40 : M12 40 = M 40 := (hF12 40 (by decide)).trans (hF2 40 (by decide))
        have hA12 : MoA (cf M) M12 m := MoA_c e37 e40 hA
        have g12 : WSb M12 (p + 1) := WSb_put hR1 (by rw [ho1]; omega) g hF12 h1_12 h2_12 h3_12 h4_12
        have z12 : Z0b M12 := ⟨fun t q1 q2 => by rw [h2_12 t (by omega)]; exact gz.1 t q1 q2, by rw [h3_12, if_neg (by omega)]; exact gz.2.1, by rw [h4_12, if_neg (by omega)]; exact gz.2.2⟩
        refine pw_aload0 C dX2_descend_15 ?_
        refine pw_iload3 C dX2_descend_16 ?_
        refine pw_iload2 C dX2_descend_17 ?_
        have nz18_38 : M12 38 = M 38 := ((hF12 38 (by decide)).trans (hF2 38 (by decide)))
        refine pw_cVi2 C (c_X2_leastReach _ K _ _ _ (by rw [ec12]; exact hW) (by rw [ec12]; exact hm0) (by rw [ec12]; exact hA12) (by omega) (g12) (by rw [e38]; exact hx3)) cb_X2_leastReach lay_33 kc_2 rfl ml_X2_81 dX2_descend_18 (by decide) (Nat.le_of_ble_eq_true rfl) (fun r18 M18 hQ => ?_)
        obtain ⟨rfl, hMe⟩ := hQ
        replace hMe := hMe.symm
        subst hMe
        obtain ⟨r18, hr18⟩ : ∃ z, z = lrP (cf M) (M 38) m p := ⟨_, rfl⟩
        refine pw_top C r18 (by rw [hr18, ec12, e38]) ?_
        have hlr := lr_rng hW (x := M 38) hm0 (p := p) (by omega) hx3
        refine pw_istore4 C (by decide) dX2_descend_21 ?_
        refine pw_iload4 C dX2_descend_23 ?_
        refine pw_aload0 C dX2_descend_25 ?_
        refine g_33_0 C fl_X2_9 dX2_descend_26 ?_
        refine pw_iload2 C dX2_descend_29 ?_
        refine pw_iaload C lay_34 (by omega) (by decide) dX2_descend_30 ?_
        refine pw_top C _ (congrFun (hF12 34 (by decide)) _) ?_
        refine pw_top C (M 34 m) (by rw [hs1.1]) ?_
        refine pw_icmp_lt (tgt := 36) C dX2_descend_31 (by decide) (by omega) (by omega) (fun h31 => ?_) (fun h31 => ?_)
        · refine pw_iload3 C dX2_descend_36 ?_
          refine pw_iload2 C dX2_descend_37 ?_
          refine pw_iconst C dX2_descend_38 ?_
          refine pw_isub C dX2_descend_39 ?_
          refine pw_icmp_ne (tgt := 64) C dX2_descend_40 (by decide) (by omega) (by omega) (fun h40 => ?_) (fun h40 => ?_)
          · refine pw_iinc3 C (by decide) dX2_descend_64 ?_
            refine pw_goto (tgt := 2) C dX2_descend_67 (by decide) ?_
            refine pw_fgt (fgt_k (fgt_k (fgt_k (fgt_k (fgt_no fgt_nil))))) ?_
            exact ih_2 _ _ (Sm_trans (Sm_trans Sm_refl hF2 (by decide)) hF12 (by decide)) (by omega) (by first | exact g12 | exact WSb_c ((up2_ne (by decide)).trans (up2_ne (by decide))) ((up2_ne (by decide)).trans (up2_ne (by decide))) ((up2_ne (by decide)).trans (up2_ne (by decide))) ((up2_ne (by decide)).trans (up2_ne (by decide))) ((up2_ne (by decide)).trans (up2_ne (by decide))) ((up2_ne (by decide)).trans (up2_ne (by decide))) ((up2_ne (by decide)).trans (up2_ne (by decide))) ((up2_ne (by decide)).trans (up2_ne (by decide))) g12) (by first | exact z12 | exact Z0b_c ((up2_ne (by decide)).trans (up2_ne (by decide))) ((up2_ne (by decide)).trans (up2_ne (by decide))) ((up2_ne (by decide)).trans (up2_ne (by decide))) z12) (by
                  first
                    | exact Or.inl ⟨by omega, (hF12 34 (by decide)).trans hs1.1, (hF12 35 (by decide)).trans hs1.2⟩
                    | (refine Or.inr ⟨by omega, ?_, fun j q => ?_⟩
                       · rw [rd_nc (by decide), rd_eq, rd_eq]
                         have e8 : r18 = moK (cf M) m k := by
                           rw [hr18, show p = m - 1 by omega, lr_whole hm0]
                           exact moR_congr hm0 hx
                         rw [e8]
                         refine MoI_new hI hk.1 (by omega) rfl
                       · rw [rd_nc (by decide), rd_ne q, rd_ne q, rd_nc (by decide), hF12 34 (by decide), hF12 35 (by decide), hs1.1, hs1.2]
                         exact ⟨rfl, rfl⟩)) (by omega)
          · refine pw_aload0 C dX2_descend_43 ?_
            refine g_33_0 C fl_X2_9 dX2_descend_44 ?_
            refine pw_iload2 C dX2_descend_47 ?_
            refine pw_iload4 C dX2_descend_48 ?_
            refine pw_iastore C lay_34 (by omega) (by decide) dX2_descend_50 ?_
            refine pw_aload0 C dX2_descend_51 ?_
            refine g_33_1 C fl_X2_15 dX2_descend_52 ?_
            refine pw_iload2 C dX2_descend_55 ?_
            refine pw_aload0 C dX2_descend_56 ?_
            refine g_33_4 C fl_X2_34 dX2_descend_57 ?_
            have nz60_37 : (up2 M12 34 m r18) 37 = M 37 := ((up2_ne (by decide)).trans ((hF12 37 (by decide)).trans (hF2 37 (by decide))))
            refine pw_cVi0 C (c_X8_packedRow_B _ K _ (by rw [up2_ne (by decide), e37]; omega)) cb_X8_packedRow lay_37 kc_8 rfl ml_X2_84 dX2_descend_60 (by decide) (Nat.le_of_ble_eq_true rfl) (fun r60 M60 hQ => ?_)
            obtain ⟨rfl, hMe⟩ := hQ
            replace hMe := hMe.symm
            subst hMe
            refine pw_top C (vl 4 (dg (M 1 0) m k) m) (by rw [up2_ne (show (41 : Nat) ≠ 34 by decide), up2_ne (show (37 : Nat) ≠ 34 by decide), e37, e370, (g12.2 m (by omega) (by omega)).1, e38]; exact vl_congr (n := m) hx m (by omega) (Int.le_refl _)) ?_
            refine pw_iastore C lay_35 (by omega) (by decide) dX2_descend_63 ?_
            refine pw_iinc3 C (by decide) dX2_descend_64 ?_
            refine pw_goto (tgt := 2) C dX2_descend_67 (by decide) ?_
            refine pw_fgt (fgt_k (fgt_k (fgt_k (fgt_k (fgt_no fgt_nil))))) ?_
            exact ih_2 _ _ (Sm_up (Sm_up (Sm_trans (Sm_trans Sm_refl hF2 (by decide)) hF12 (by decide)) (by decide)) (by decide)) (by omega) (by first | exact g12 | exact WSb_c ((up2_ne (by decide)).trans (up2_ne (by decide))) ((up2_ne (by decide)).trans (up2_ne (by decide))) ((up2_ne (by decide)).trans (up2_ne (by decide))) ((up2_ne (by decide)).trans (up2_ne (by decide))) ((up2_ne (by decide)).trans (up2_ne (by decide))) ((up2_ne (by decide)).trans (up2_ne (by decide))) ((up2_ne (by decide)).trans (up2_ne (by decide))) ((up2_ne (by decide)).trans (up2_ne (by decide))) g12) (by first | exact z12 | exact Z0b_c ((up2_ne (by decide)).trans (up2_ne (by decide))) ((up2_ne (by decide)).trans (up2_ne (by decide))) ((up2_ne (by decide)).trans (up2_ne (by decide))) z12) (by
                  first
                    | exact Or.inl ⟨by omega, (hF12 34 (by decide)).trans hs1.1, (hF12 35 (by decide)).trans hs1.2⟩
                    | (refine Or.inr ⟨by omega, ?_, fun j q => ?_⟩
                       · rw [rd_nc (by decide), rd_eq, rd_eq]
                         have e8 : r18 = moK (cf M) m k := by
                           rw [hr18, show p = m - 1 by omega, lr_whole hm0]
                           exact moR_congr hm0 hx
                         rw [e8]
                         refine MoI_new hI hk.1 (by omega) rfl
                       · rw [rd_nc (by decide), rd_ne q, rd_ne q, rd_nc (by decide), hF12 34 (by decide), hF12 35 (by decide), hs1.1, hs1.2]
                         exact ⟨rfl, rfl⟩)) (by omega)
        · refine pw_iload3 C dX2_descend_34 ?_
          exact pw_iretI C dX2_descend_35 (⟨by omega, by exact WSb_d g12 (by omega), by
                rw [hF12 34 (by decide), hF12 35 (by decide), hs1.1, hs1.2]
                have hgt := nxk_gt (N := M 1 0) (n := m) (k := k) (la := p) (x := M 38) (by omega) (by omega) hxr hvl
                refine MoI_skip hI (by omega) (by omega) (fun j q1 q2 => ?_)
                have hbl := dg_block (N := M 1 0) (n := m) (k := j) (la := p) (x := M 38) (by omega) (by omega) hxr (by omega) q2
                have hls := lr_le hW (x := M 38) (y := dg (M 1 0) m j) (p := p) hm0 (by omega) (fun t _ _ => dgc_rng hW) (fun t z1 z2 => (hbl t z1 (by omega)).symm)
                have e9 : moK (cf M) m j = moR (cf M) (dg (M 1 0) m j) m := rfl
                omega, by intro j q; rw [hF12 34 (by decide), hF12 35 (by decide), hs1.1, hs1.2]; exact ⟨rfl, rfl⟩, by exact z12, (Sm_trans (Sm_trans Sm_refl hF2 (by decide)) hF12 (by decide))⟩)
  exact cut_2 _ _ _ Sm_refl (by omega) (by exact hS) (by exact hZ) (by exact Or.inl ⟨hpl.2, rfl, rfl⟩) (Nat.lt_succ_self _)
