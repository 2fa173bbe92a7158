set_option maxHeartbeats 4000000 in
set_option maxRecDepth 100000 in
theorem c_X5_lookAtOne (l : Launch) (K : KX) (M : Mem) (hwd : M 15 4 = 8) (hlen : 0 ≤ M 15 0 ∧ M 15 0 ≤ 7) (hn : 0 ≤ M 12 2 ∧ M 12 2 ≤ 8) (hs : ∀ t, 0 ≤ t → t < M 12 2 → 0 ≤ M 17 (M 15 0 * 8 + t) ∧ M 17 (M 15 0 * 8 + t) ≤ 63) (hc : -1 ≤ M 21 1 ∧ M 21 1 ≤ 63) (hm : -1 ≤ M 21 3 ∧ M 21 3 ≤ 504) (hse : ∀ r, 0 ≤ r → r ≤ 63 → 0 ≤ M 23 r ∧ M 23 r < 268435456) (hsp : 0 ≤ M 20 (M 15 0) ∧ M 20 (M 15 0) < 268435456) : MCv l K LAY yX5_lookAtOne cX5_lookAtOne 7 none 2 [rV K 21, rV K 15] M (fun M' => (M' 21 0 = M 21 0) ∧ (∀ f, f = mxT (fun t => M 17 (M 15 0 * 8 + t)) (M 12 2) → (∀ j, M' 22 j = if j = f then M 22 f + 1 else M 22 j) ∧ (∀ j, M' 23 j = if j = f then (((M 23 f).toNat ||| (M 20 (M 15 0)).toNat : Nat) : Int) else M 23 j) ∧ (M' 21 1 = if M 21 1 = -1 ∨ f < M 21 1 then f else M 21 1) ∧ (M' 21 2 = if M 21 1 = -1 ∨ f < M 21 1 then M 19 (M 15 0) else M 21 2)) ∧ (∀ u, u = smT (fun t => M 17 (M 15 0 * 8 + t)) (M 12 2) → (M' 21 3 = if M 21 3 = -1 ∨ u < M 21 3 then u else M 21 3) ∧ (M' 21 4 = if M 21 3 = -1 ∨ u < M 21 3 then M 19 (M 15 0) else M 21 4) ∧ (M' 21 5 = if M 21 3 = -1 ∨ u < M 21 3 then 1 else if u = M 21 3 then M 21 5 + 1 else M 21 5)) ∧ Sm [21, 22, 23] M M') := by
  refine mcv_intro RX5 rfl [some (rV K 21), some (rV K 15), none, none, none, none, none] rfl (by decide +kernel) (cat_r (cat_r cat_nil)) (Nat.le_of_ble_eq_true rfl) (fun X hX C => ?_)
  subst hX
  have hfr := fold_rng (f := (fun t => M 17 (M 15 0 * 8 + t))) (B := 63) (n := M 12 2) (by decide) hs
  refine pw_aload1 C dX5_lookAtOne_0 ?_
  refine pw_cVi0 C (c_X8_whole _ K _ ) cb_X8_whole lay_15 kc_8 rfl ml_X5_91 dX5_lookAtOne_1 (by decide) (Nat.le_of_ble_eq_true rfl) (fun r1 M1 hQ => ?_)
  obtain ⟨rfl, hMe⟩ := hQ
  replace hMe := hMe.symm
  subst hMe
  refine pw_top C (M 15 0 * 8) (by rw [hwd]) ?_
  refine pw_istore2 C (by decide) dX5_lookAtOne_4 ?_
  refine pw_iconst C dX5_lookAtOne_5 ?_
  refine pw_istore3 C (by decide) dX5_lookAtOne_6 ?_
  refine pw_iconst C dX5_lookAtOne_7 ?_
  refine pw_istore4 C (by decide) dX5_lookAtOne_8 ?_
  refine pw_iconst C dX5_lookAtOne_10 ?_
  refine pw_istore5 C (by decide) dX5_lookAtOne_11 ?_
  have cut_13 : ∀ (fu : Nat) (a s t : Int), (0 ≤ t ∧ t ≤ M 12 2) → (a = mxT (fun t => M 17 (M 15 0 * 8 + t)) t) → (s = smT (fun t => M 17 (M 15 0 * 8 + t)) t) → (M 12 2 - t).toNat < fu → PW X K LAY 7 (0, 0) (Zv X K LAY (fun M' => (M' 21 0 = M 21 0) ∧ (∀ f, f = mxT (fun t => M 17 (M 15 0 * 8 + t)) (M 12 2) → (∀ j, M' 22 j = if j = f then M 22 f + 1 else M 22 j) ∧ (∀ j, M' 23 j = if j = f then (((M 23 f).toNat ||| (M 20 (M 15 0)).toNat : Nat) : Int) else M 23 j) ∧ (M' 21 1 = if M 21 1 = -1 ∨ f < M 21 1 then f else M 21 1) ∧ (M' 21 2 = if M 21 1 = -1 ∨ f < M 21 1 then M 19 (M 15 0) else M 21 2)) ∧ (∀ u, u = smT (fun t => M 17 (M 15 0 * 8 + t)) (M 12 2) → (M' 21 3 = if M 21 3 = -1 ∨ u < M 21 3 then u else M 21 3) ∧ (M' 21 4 = if M 21 3 = -1 ∨ u < M 21 3 then M 19 (M 15 0) else M 21 4) ∧ (M' 21 5 = if M 21 3 = -1 ∨ u < M 21 3 then 1 else if u = M 21 3 then M 21 5 + 1 else M 21 5)) ∧ Sm [21, 22, 23] M M')) 13 [some (rV K 21), some (rV K 15), some (iV (M 15 0 * 8)), some (iV a), some (iV s), some (iV t), none] [] M := by
    intro fu
    induction fu with
    | zero => intro _ _ _ _ _ _ hm; exact absurd hm (Nat.not_lt_zero _)
    | succ fu ih =>
      intro a s t ht ha hsm hm
      have ih_13 := ih
      have hm_13 := hm
      refine pw_iload5 C dX5_lookAtOne_13 ?_
      refine pw_aload0 C dX5_lookAtOne_15 ?_
      refine g_21_8 C fl_X5_38 dX5_lookAtOne_16 ?_
      refine g_12_2 C fl_X5_94 dX5_lookAtOne_19 ?_
      refine pw_icmp_ge (tgt := 58) C dX5_lookAtOne_22 (by decide) (by omega) (by omega) (fun h22 => ?_) (fun h22 => ?_)
      · have htn : t = M 12 2 := by omega
        rw [htn] at ha hsm
        have hfr0 := hfr (M 12 2) hn.1 (Int.le_refl _)
        have hsf := hse a (by omega) (by omega)
        refine pw_iload3 C dX5_lookAtOne_58 ?_
        refine pw_bipush C dX5_lookAtOne_59 (by decide) ?_
        refine pw_icmp_le (tgt := 65) C dX5_lookAtOne_61 (by decide) (by omega) (by omega) (fun h61 => ?_) (fun h61 => ?_)
        · refine pw_aload0 C dX5_lookAtOne_65 ?_
          refine g_21_6 C fl_X5_31 dX5_lookAtOne_66 ?_
          refine pw_iload3 C dX5_lookAtOne_69 ?_
          refine pw_dup2 C rfl rfl dX5_lookAtOne_70 ?_
          refine pw_iaload C lay_22 (by omega) (by decide) dX5_lookAtOne_71 ?_
          refine pw_iconst C dX5_lookAtOne_72 ?_
          refine pw_iadd C dX5_lookAtOne_73 ?_
          refine pw_iastore C lay_22 (by omega) (by decide) dX5_lookAtOne_74 ?_
          refine pw_aload0 C dX5_lookAtOne_75 ?_
          refine g_21_7 C fl_X5_35 dX5_lookAtOne_76 ?_
          refine pw_iload3 C dX5_lookAtOne_79 ?_
          refine pw_dup2 C rfl rfl dX5_lookAtOne_80 ?_
          refine pw_iaload C lay_23 (by omega) (by decide) dX5_lookAtOne_81 ?_
          refine pw_top C _ (rd_nc (by decide)) ?_
          refine pw_aload1 C dX5_lookAtOne_82 ?_
          have nz83_15 : (up2 M 22 a ((M 22 a) + 1)) 15 = M 15 := (up2_ne (by decide))
          refine pw_cVi0 C (c_X8_spotsOfRow _ K _ (by first | omega | (simp only [nz83_15]; omega))) cb_X8_spotsOfRow lay_15 kc_8 rfl ml_X5_100 dX5_lookAtOne_83 (by decide) (Nat.le_of_ble_eq_true rfl) (fun r83 M83 hQ => ?_)
          obtain ⟨rfl, hMe⟩ := hQ
          replace hMe := hMe.symm
          subst hMe
          refine pw_top C (M 20 (M 15 0)) (by rw [rd_nc (by decide), rd_nc (by decide)]) ?_
          refine pw_ior C ((((M 23 a).toNat ||| (M 20 (M 15 0)).toNat : Nat) : Int)) (b_or (by omega) (by omega)) dX5_lookAtOne_86 ?_
          refine pw_iastore C lay_23 (by omega) (by decide) dX5_lookAtOne_87 ?_
          have cut_117 : ∀  (M2 : Mem), Sm [21, 22, 23] M M2 → (M2 21 0 = M 21 0) → (M2 21 1 = if M 21 1 = -1 ∨ a < M 21 1 then a else M 21 1) → (M2 21 2 = if M 21 1 = -1 ∨ a < M 21 1 then M 19 (M 15 0) else M 21 2) → (M2 21 3 = M 21 3) → (M2 21 4 = M 21 4) → (M2 21 5 = M 21 5) → (∀ j, M2 22 j = if j = a then M 22 a + 1 else M 22 j) → (∀ j, M2 23 j = if j = a then (((M 23 a).toNat ||| (M 20 (M 15 0)).toNat : Nat) : Int) else M 23 j) → PW X K LAY 7 (0, 0) (Zv X K LAY (fun M' => (M' 21 0 = M 21 0) ∧ (∀ f, f = mxT (fun t => M 17 (M 15 0 * 8 + t)) (M 12 2) → (∀ j, M' 22 j = if j = f then M 22 f + 1 else M 22 j) ∧ (∀ j, M' 23 j = if j = f then (((M 23 f).toNat ||| (M 20 (M 15 0)).toNat : Nat) : Int) else M 23 j) ∧ (M' 21 1 = if M 21 1 = -1 ∨ f < M 21 1 then f else M 21 1) ∧ (M' 21 2 = if M 21 1 = -1 ∨ f < M 21 1 then M 19 (M 15 0) else M 21 2)) ∧ (∀ u, u = smT (fun t => M 17 (M 15 0 * 8 + t)) (M 12 2) → (M' 21 3 = if M 21 3 = -1 ∨ u < M 21 3 then u else M 21 3) ∧ (M' 21 4 = if M 21 3 = -1 ∨ u < M 21 3 then M 19 (M 15 0) else M 21 4) ∧ (M' 21 5 = if M 21 3 = -1 ∨ u < M 21 3 then 1 else if u = M 21 3 then M 21 5 + 1 else M 21 5)) ∧ Sm [21, 22, 23] M M')) 117 [some (rV K 21), some (rV K 15), some (iV (M 15 0 * 8)), some (iV a), some (iV s), some (iV t), none] [] M2 := by
            intro M2 hF117 k0 k1 k2 k3 k4 k5 k6 k7
            rw [← ha, ← hsm] at hfr0
            have cut_153 : ∀  (M3 : Mem), Sm [21, 22, 23] M M3 → (M3 21 0 = M 21 0) → (M3 21 1 = if M 21 1 = -1 ∨ a < M 21 1 then a else M 21 1) → (M3 21 2 = if M 21 1 = -1 ∨ a < M 21 1 then M 19 (M 15 0) else M 21 2) → (M3 21 3 = if M 21 3 = -1 ∨ s < M 21 3 then s else M 21 3) → (M3 21 4 = if M 21 3 = -1 ∨ s < M 21 3 then M 19 (M 15 0) else M 21 4) → (M3 21 5 = if M 21 3 = -1 ∨ s < M 21 3 then 0 else M 21 5) → (∀ j, M3 22 j = if j = a then M 22 a + 1 else M 22 j) → (∀ j, M3 23 j = if j = a then (((M 23 a).toNat ||| (M 20 (M 15 0)).toNat : Nat) : Int) else M 23 j) → PW X K LAY 7 (0, 0) (Zv X K LAY (fun M' => (M' 21 0 = M 21 0) ∧ (∀ f, f = mxT (fun t => M 17 (M 15 0 * 8 + t)) (M 12 2) → (∀ j, M' 22 j = if j = f then M 22 f + 1 else M 22 j) ∧ (∀ j, M' 23 j = if j = f then (((M 23 f).toNat ||| (M 20 (M 15 0)).toNat : Nat) : Int) else M 23 j) ∧ (M' 21 1 = if M 21 1 = -1 ∨ f < M 21 1 then f else M 21 1) ∧ (M' 21 2 = if M 21 1 = -1 ∨ f < M 21 1 then M 19 (M 15 0) else M 21 2)) ∧ (∀ u, u = smT (fun t => M 17 (M 15 0 * 8 + t)) (M 12 2) → (M' 21 3 = if M 21 3 = -1 ∨ u < M 21 3 then u else M 21 3) ∧ (M' 21 4 = if M 21 3 = -1 ∨ u < M 21 3 then M 19 (M 15 0) else M 21 4) ∧ (M' 21 5 = if M 21 3 = -1 ∨ u < M 21 3 then 1 else if u = M 21 3 then M 21 5 + 1 else M 21 5)) ∧ Sm [21, 22, 23] M M')) 153 [some (rV K 21), some (rV K 15), some (iV (M 15 0 * 8)), some (iV a), some (iV s), some (iV t), none] [] M3 := by
              intro M3 hF153 j0 j1 j2 j3 j4 j5 j6 j7
              have hMd : (M 21 3 = -1 ∨ s < M 21 3) ∨ ¬ (M 21 3 = -1 ∨ s < M 21 3) := Decidable.em _
              refine pw_iload4 C dX5_lookAtOne_153 ?_
              refine pw_aload0 C dX5_lookAtOne_155 ?_
              refine g_21_3 C fl_X5_22 dX5_lookAtOne_156 ?_
              refine pw_icmp_ne (tgt := 172) C dX5_lookAtOne_159 (by decide) (by first | omega | (rw [j3]; split <;> omega)) (by first | omega | (rw [j3]; split <;> omega)) (fun h159 => ?_) (fun h159 => ?_)
              · exact pw_vretV C dX5_lookAtOne_172 (⟨by first | (rw [rd_ne (by decide)]; exact j0) | exact j0, by
                      intro f hf
                      rw [← ha] at hf
                      subst hf
                      first
                        | exact ⟨j6, j7, j1, j2⟩
                        | exact ⟨fun j => by rw [rd_nc (by decide)]; exact j6 j, fun j => by rw [rd_nc (by decide)]; exact j7 j, by rw [rd_ne (by decide)]; exact j1, by rw [rd_ne (by decide)]; exact j2⟩, by
                      intro u hu
                      rw [← hsm] at hu
                      subst hu
                      first
                        | (refine ⟨j3, j4, ?_⟩
                           rw [j5]
                           rw [j3] at h159
                           rcases hMd with q | q
                           · rw [if_pos q] at h159; exact absurd rfl h159
                           · rw [if_neg q] at h159; rw [if_neg q, if_neg q, if_neg h159])
                        | (refine ⟨by rw [rd_ne (by decide)]; exact j3, by rw [rd_ne (by decide)]; exact j4, ?_⟩
                           rw [rd_eq, j5]
                           rw [j3] at h159
                           rcases hMd with q | q
                           · rw [if_pos q, if_pos q]; rfl
                           · rw [if_neg q] at h159; rw [if_neg q, if_neg q, if_pos h159]), (Sm_trans Sm_refl hF153 (by decide))⟩)
              · refine pw_aload0 C dX5_lookAtOne_162 ?_
                refine pw_dup C rfl dX5_lookAtOne_163 ?_
                refine g_21_5 C fl_X5_28 dX5_lookAtOne_164 ?_
                refine pw_iconst C dX5_lookAtOne_167 ?_
                refine pw_iadd C dX5_lookAtOne_168 ?_
                refine p_21_5 C fl_X5_28 dX5_lookAtOne_169 ?_
                exact pw_vretV C dX5_lookAtOne_172 (⟨by first | (rw [rd_ne (by decide)]; exact j0) | exact j0, by
                      intro f hf
                      rw [← ha] at hf
                      subst hf
                      first
                        | exact ⟨j6, j7, j1, j2⟩
                        | exact ⟨fun j => by rw [rd_nc (by decide)]; exact j6 j, fun j => by rw [rd_nc (by decide)]; exact j7 j, by rw [rd_ne (by decide)]; exact j1, by rw [rd_ne (by decide)]; exact j2⟩, by
                      intro u hu
                      rw [← hsm] at hu
                      subst hu
                      first
                        | (refine ⟨j3, j4, ?_⟩
                           rw [j5]
                           rw [j3] at h159
                           rcases hMd with q | q
                           · rw [if_pos q] at h159; exact absurd rfl h159
                           · rw [if_neg q] at h159; rw [if_neg q, if_neg q, if_neg h159])
                        | (refine ⟨by rw [rd_ne (by decide)]; exact j3, by rw [rd_ne (by decide)]; exact j4, ?_⟩
                           rw [rd_eq, j5]
                           rw [j3] at h159
                           rcases hMd with q | q
                           · rw [if_pos q, if_pos q]; rfl
                           · rw [if_neg q] at h159; rw [if_neg q, if_neg q, if_pos h159]), (Sm_up (Sm_trans Sm_refl hF153 (by decide)) (by decide))⟩)
            refine pw_aload0 C dX5_lookAtOne_117 ?_
            refine g_21_3 C fl_X5_22 dX5_lookAtOne_118 ?_
            refine pw_iconst C dX5_lookAtOne_121 ?_
            refine pw_icmp_eq (tgt := 134) C dX5_lookAtOne_122 (by decide) (by first | omega | (rw [k3]; omega)) (by first | omega | (rw [k3]; omega)) (fun h122 => ?_) (fun h122 => ?_)
            · refine pw_aload0 C dX5_lookAtOne_134 ?_
              refine pw_iload4 C dX5_lookAtOne_135 ?_
              refine p_21_3 C fl_X5_22 dX5_lookAtOne_137 ?_
              refine pw_aload0 C dX5_lookAtOne_140 ?_
              refine pw_aload1 C dX5_lookAtOne_141 ?_
              have nz142_15 : (up2 M2 21 3 s) 15 = M 15 := ((up2_ne (by decide)).trans (hF117 15 (by decide)))
              refine pw_cVi0 C (c_X8_packedRow _ K _ (by first | omega | (simp only [nz142_15]; omega))) cb_X8_packedRow lay_15 kc_8 rfl ml_X5_103 dX5_lookAtOne_142 (by decide) (Nat.le_of_ble_eq_true rfl) (fun r142 M142 hQ => ?_)
              obtain ⟨rfl, hMe⟩ := hQ
              replace hMe := hMe.symm
              subst hMe
              refine pw_top C (M 19 (M 15 0)) (by rw [rd_nc (by decide), rd_nc (by decide), hF117 19 (by decide), hF117 15 (by decide)]) ?_
              refine p_21_4 C fl_X5_25 dX5_lookAtOne_145 ?_
              refine pw_aload0 C dX5_lookAtOne_148 ?_
              refine pw_iconst C dX5_lookAtOne_149 ?_
              refine p_21_5 C fl_X5_28 dX5_lookAtOne_150 ?_
              exact cut_153 _ (Sm_up (Sm_up (Sm_up (Sm_trans Sm_refl hF117 (by decide)) (by decide)) (by decide)) (by decide)) (by rw [rd_ne (by decide), rd_ne (by decide), rd_ne (by decide)]; exact k0) (by rw [rd_ne (by decide), rd_ne (by decide), rd_ne (by decide)]; exact k1) (by rw [rd_ne (by decide), rd_ne (by decide), rd_ne (by decide)]; exact k2) (by rw [rd_ne (by decide), rd_ne (by decide), rd_eq, if_pos (by omega)]) (by rw [rd_ne (by decide), rd_eq, if_pos (by omega)]) (by rw [rd_eq, if_pos (by omega)]) (by intro j; rw [rd_nc (by decide), rd_nc (by decide), rd_nc (by decide)]; exact k6 j) (by intro j; rw [rd_nc (by decide), rd_nc (by decide), rd_nc (by decide)]; exact k7 j)
            · refine pw_iload4 C dX5_lookAtOne_125 ?_
              refine pw_aload0 C dX5_lookAtOne_127 ?_
              refine g_21_3 C fl_X5_22 dX5_lookAtOne_128 ?_
              refine pw_icmp_ge (tgt := 153) C dX5_lookAtOne_131 (by decide) (by first | omega | (rw [k3]; omega)) (by first | omega | (rw [k3]; omega)) (fun h131 => ?_) (fun h131 => ?_)
              · exact cut_153 _ (Sm_trans Sm_refl hF117 (by decide)) (by exact k0) (by exact k1) (by exact k2) (by rw [k3, if_neg (by omega)]) (by rw [k4, if_neg (by omega)]) (by rw [k5, if_neg (by omega)]) (by exact k6) (by exact k7)
              · refine pw_aload0 C dX5_lookAtOne_134 ?_
                refine pw_iload4 C dX5_lookAtOne_135 ?_
                refine p_21_3 C fl_X5_22 dX5_lookAtOne_137 ?_
                refine pw_aload0 C dX5_lookAtOne_140 ?_
                refine pw_aload1 C dX5_lookAtOne_141 ?_
                have nz142_15 : (up2 M2 21 3 s) 15 = M 15 := ((up2_ne (by decide)).trans (hF117 15 (by decide)))
                refine pw_cVi0 C (c_X8_packedRow _ K _ (by first | omega | (simp only [nz142_15]; omega))) cb_X8_packedRow lay_15 kc_8 rfl ml_X5_103 dX5_lookAtOne_142 (by decide) (Nat.le_of_ble_eq_true rfl) (fun r142 M142 hQ => ?_)
                obtain ⟨rfl, hMe⟩ := hQ
                replace hMe := hMe.symm
                subst hMe
                refine pw_top C (M 19 (M 15 0)) (by rw [rd_nc (by decide), rd_nc (by decide), hF117 19 (by decide), hF117 15 (by decide)]) ?_
                refine p_21_4 C fl_X5_25 dX5_lookAtOne_145 ?_
                refine pw_aload0 C dX5_lookAtOne_148 ?_
                refine pw_iconst C dX5_lookAtOne_149 ?_
                refine p_21_5 C fl_X5_28 dX5_lookAtOne_150 ?_
                exact cut_153 _ (Sm_up (Sm_up (Sm_up (Sm_trans Sm_refl hF117 (by decide)) (by decide)) (by decide)) (by decide)) (by rw [rd_ne (by decide), rd_ne (by decide), rd_ne (by decide)]; exact k0) (by rw [rd_ne (by decide), rd_ne (by decide), rd_ne (by decide)]; exact k1) (by rw [rd_ne (by decide), rd_ne (by decide), rd_ne (by decide)]; exact k2) (by rw [rd_ne (by decide), rd_ne (by decide), rd_eq, if_pos (by omega)]) (by rw [rd_ne (by decide), rd_eq, if_pos (by omega)]) (by rw [rd_eq, if_pos (by omega)]) (by intro j; rw [rd_nc (by decide), rd_nc (by decide), rd_nc (by decide)]; exact k6 j) (by intro j; rw [rd_nc (by decide), rd_nc (by decide), rd_nc (by decide)]; exact k7 j)
          refine pw_aload0 C dX5_lookAtOne_88 ?_
          refine g_21_1 C fl_X5_15 dX5_lookAtOne_89 ?_
          refine pw_top C _ (rd_nc (by decide)) ?_
          refine pw_top C _ (rd_nc (by decide)) ?_
          refine pw_iconst C dX5_lookAtOne_92 ?_
          refine pw_icmp_eq (tgt := 104) C dX5_lookAtOne_93 (by decide) (by omega) (by omega) (fun h93 => ?_) (fun h93 => ?_)
          · refine pw_aload0 C dX5_lookAtOne_104 ?_
            refine pw_iload3 C dX5_lookAtOne_105 ?_
            refine p_21_1 C fl_X5_15 dX5_lookAtOne_106 ?_
            refine pw_aload0 C dX5_lookAtOne_109 ?_
            refine pw_aload1 C dX5_lookAtOne_110 ?_
            have nz111_15 : (up2 (up2 (up2 M 22 a ((M 22 a) + 1)) 23 a ((((M 23 a).toNat ||| (M 20 (M 15 0)).toNat : Nat) : Int))) 21 1 a) 15 = M 15 := ((up2_ne (by decide)).trans ((up2_ne (by decide)).trans (up2_ne (by decide))))
            refine pw_cVi0 C (c_X8_packedRow _ K _ (by first | omega | (simp only [nz111_15]; omega))) cb_X8_packedRow lay_15 kc_8 rfl ml_X5_103 dX5_lookAtOne_111 (by decide) (Nat.le_of_ble_eq_true rfl) (fun r111 M111 hQ => ?_)
            obtain ⟨rfl, hMe⟩ := hQ
            replace hMe := hMe.symm
            subst hMe
            refine pw_top C (M 19 (M 15 0)) (by rw [rd_nc (by decide), rd_nc (by decide), rd_nc (by decide), rd_nc (by decide), rd_nc (by decide), rd_nc (by decide)]) ?_
            refine p_21_2 C fl_X5_19 dX5_lookAtOne_114 ?_
            exact cut_117 _ (Sm_up (Sm_up (Sm_up (Sm_up Sm_refl (by decide)) (by decide)) (by decide)) (by decide)) (by rw [rd_ne (by decide), rd_ne (by decide), rd_nc (by decide), rd_nc (by decide)]) (by rw [rd_ne (by decide), rd_eq, if_pos (by omega)]) (by rw [rd_eq, if_pos (by omega)]) (by rw [rd_ne (by decide), rd_ne (by decide), rd_nc (by decide), rd_nc (by decide)]) (by rw [rd_ne (by decide), rd_ne (by decide), rd_nc (by decide), rd_nc (by decide)]) (by rw [rd_ne (by decide), rd_ne (by decide), rd_nc (by decide), rd_nc (by decide)]) (by intro j; rw [rd_nc (by decide), rd_nc (by decide), rd_nc (by decide), rd_if]) (by intro j; rw [rd_nc (by decide), rd_nc (by decide), rd_if, rd_nc (by decide)])
          · refine pw_iload3 C dX5_lookAtOne_96 ?_
            refine pw_aload0 C dX5_lookAtOne_97 ?_
            refine g_21_1 C fl_X5_15 dX5_lookAtOne_98 ?_
            refine pw_top C _ (rd_nc (by decide)) ?_
            refine pw_top C _ (rd_nc (by decide)) ?_
            refine pw_icmp_ge (tgt := 117) C dX5_lookAtOne_101 (by decide) (by omega) (by omega) (fun h101 => ?_) (fun h101 => ?_)
            · exact cut_117 _ (Sm_up (Sm_up Sm_refl (by decide)) (by decide)) (by rw [rd_nc (by decide), rd_nc (by decide)]) (by rw [rd_nc (by decide), rd_nc (by decide), if_neg (by omega)]) (by rw [rd_nc (by decide), rd_nc (by decide), if_neg (by omega)]) (by rw [rd_nc (by decide), rd_nc (by decide)]) (by rw [rd_nc (by decide), rd_nc (by decide)]) (by rw [rd_nc (by decide), rd_nc (by decide)]) (by intro j; rw [rd_nc (by decide), rd_if]) (by intro j; rw [rd_if, rd_nc (by decide)])
            · refine pw_aload0 C dX5_lookAtOne_104 ?_
              refine pw_iload3 C dX5_lookAtOne_105 ?_
              refine p_21_1 C fl_X5_15 dX5_lookAtOne_106 ?_
              refine pw_aload0 C dX5_lookAtOne_109 ?_
              refine pw_aload1 C dX5_lookAtOne_110 ?_
              have nz111_15 : (up2 (up2 (up2 M 22 a ((M 22 a) + 1)) 23 a ((((M 23 a).toNat ||| (M 20 (M 15 0)).toNat : Nat) : Int))) 21 1 a) 15 = M 15 := ((up2_ne (by decide)).trans ((up2_ne (by decide)).trans (up2_ne (by decide))))
              refine pw_cVi0 C (c_X8_packedRow _ K _ (by first | omega | (simp only [nz111_15]; omega))) cb_X8_packedRow lay_15 kc_8 rfl ml_X5_103 dX5_lookAtOne_111 (by decide) (Nat.le_of_ble_eq_true rfl) (fun r111 M111 hQ => ?_)
              obtain ⟨rfl, hMe⟩ := hQ
              replace hMe := hMe.symm
              subst hMe
              refine pw_top C (M 19 (M 15 0)) (by rw [rd_nc (by decide), rd_nc (by decide), rd_nc (by decide), rd_nc (by decide), rd_nc (by decide), rd_nc (by decide)]) ?_
              refine p_21_2 C fl_X5_19 dX5_lookAtOne_114 ?_
              exact cut_117 _ (Sm_up (Sm_up (Sm_up (Sm_up Sm_refl (by decide)) (by decide)) (by decide)) (by decide)) (by rw [rd_ne (by decide), rd_ne (by decide), rd_nc (by decide), rd_nc (by decide)]) (by rw [rd_ne (by decide), rd_eq, if_pos (by omega)]) (by rw [rd_eq, if_pos (by omega)]) (by rw [rd_ne (by decide), rd_ne (by decide), rd_nc (by decide), rd_nc (by decide)]) (by rw [rd_ne (by decide), rd_ne (by decide), rd_nc (by decide), rd_nc (by decide)]) (by rw [rd_ne (by decide), rd_ne (by decide), rd_nc (by decide), rd_nc (by decide)]) (by intro j; rw [rd_nc (by decide), rd_nc (by decide), rd_nc (by decide), rd_if]) (by intro j; rw [rd_nc (by decide), rd_nc (by decide), rd_if, rd_nc (by decide)])
        · exfalso; omega
      · have hst := hs t (by omega) (by omega)
        have hft := hfr t (by omega) (by omega)
        refine pw_aload1 C dX5_lookAtOne_25 ?_
        refine g_15_3 C fl_X5_97 dX5_lookAtOne_26 ?_
        refine pw_iload2 C dX5_lookAtOne_29 ?_
        refine pw_iload5 C dX5_lookAtOne_30 ?_
        refine pw_iadd C dX5_lookAtOne_32 ?_
        refine pw_iaload C lay_17 (by omega) (by decide) dX5_lookAtOne_33 ?_
        refine pw_istore6 C (by decide) dX5_lookAtOne_34 ?_
        refine pw_iload4 C dX5_lookAtOne_36 ?_
        refine pw_iload6 C dX5_lookAtOne_38 ?_
        refine pw_iadd C dX5_lookAtOne_40 ?_
        refine pw_istore4 C (by decide) dX5_lookAtOne_41 ?_
        refine pw_iload6 C dX5_lookAtOne_43 ?_
        refine pw_iload3 C dX5_lookAtOne_45 ?_
        refine pw_icmp_le (tgt := 52) C dX5_lookAtOne_46 (by decide) (by omega) (by omega) (fun h46 => ?_) (fun h46 => ?_)
        · refine pw_iinc5 C (by decide) dX5_lookAtOne_52 ?_
          refine pw_goto (tgt := 13) C dX5_lookAtOne_55 (by decide) ?_
          refine pw_fgt (fgt_k (fgt_k (fgt_k (fgt_k (fgt_k (fgt_k (fgt_no fgt_nil))))))) ?_
          exact ih_13 _ _ _ (by omega) (by rw [mxT_s (by omega), ← ha]; first | rw [if_pos (by omega)] | (by_cases q : a = M 17 (M 15 0 * 8 + t); rw [if_pos (by omega)]; exact q; rw [if_neg (by omega)])) (by rw [smT_s (by omega), ← hsm]) (by omega)
        · refine pw_iload6 C dX5_lookAtOne_49 ?_
          refine pw_istore3 C (by decide) dX5_lookAtOne_51 ?_
          refine pw_iinc5 C (by decide) dX5_lookAtOne_52 ?_
          refine pw_goto (tgt := 13) C dX5_lookAtOne_55 (by decide) ?_
          refine pw_fgt (fgt_k (fgt_k (fgt_k (fgt_k (fgt_k (fgt_k (fgt_no fgt_nil))))))) ?_
          exact ih_13 _ _ _ (by omega) (by rw [mxT_s (by omega), ← ha]; first | rw [if_pos (by omega)] | (by_cases q : a = M 17 (M 15 0 * 8 + t); rw [if_pos (by omega)]; exact q; rw [if_neg (by omega)])) (by rw [smT_s (by omega), ← hsm]) (by omega)
  exact cut_13 _ _ _ _ (by omega) (by exact mxT_0.symm) (by exact smT_0.symm) (Nat.lt_succ_self _)
