set_option maxHeartbeats 4000000 in
set_option maxRecDepth 100000 in
theorem c_X1_firstLine (l : Launch) (K : KX) (M : Mem) (w : Int) (hW : WfK (cf M)) (hw : 0 ≤ w ∧ w < M 6 0) : MCv l K LAY yX1_firstLine cX1_firstLine 3 none 1 [rV K 29, iV w] M (fun M' => (∀ t, M' 32 t = if w * 8 ≤ t ∧ t ≤ w * 8 + M 6 1 then (t - w * 8) * M 1 2 else M 32 t) ∧ Sm [32] M M') := by
  refine mcv_intro RX1 rfl [some (rV K 29), some (iV w), none] rfl (by decide +kernel) (cat_r (cat_i cat_nil)) (Nat.le_of_ble_eq_true rfl) (fun X hX C => ?_)
  subst hX
  have w_let := wf_let hW
  have w_sw := wf_sw hW
  have w_dr := wf_dr hW
  have w_w := wf_w hW
  have w_l := wf_l hW
  have w_l1 := wf_l1 hW
  refine pw_iconst C dX1_firstLine_0 ?_
  refine pw_istore2 C (by decide) dX1_firstLine_1 ?_
  have cut_2 : ∀ (fu : Nat) (j : Int) (M1 : Mem), Sm [32] M M1 → (0 ≤ j ∧ j ≤ M 6 1 + 1) → (∀ t, M1 32 t = if w * 8 ≤ t ∧ t < w * 8 + j then (t - w * 8) * M 1 2 else M 32 t) → (M 6 1 + 1 - j).toNat < fu → PW X K LAY 3 (0, 0) (Zv X K LAY (fun M' => (∀ t, M' 32 t = if w * 8 ≤ t ∧ t ≤ w * 8 + M 6 1 then (t - w * 8) * M 1 2 else M 32 t) ∧ Sm [32] M M')) 2 [some (rV K 29), some (iV w), some (iV j)] [] M1 := by
    intro fu
    induction fu with
    | zero => intro _ _ _ _ _ hm; exact absurd hm (Nat.not_lt_zero _)
    | succ fu ih =>
      intro j M1 hF2 hj g hm
      have ih_2 := ih
      have hm_2 := hm
      refine pw_iload2 C dX1_firstLine_2 ?_
      refine pw_aload0 C dX1_firstLine_3 ?_
      refine g_29_5 C fl_X1_36 dX1_firstLine_4 ?_
      refine g_6_1 C fl_X1_48 dX1_firstLine_7 ?_
      refine pw_top C _ (congrFun (hF2 6 (by decide)) _) ?_
      refine pw_icmp_gt (tgt := 39) C dX1_firstLine_10 (by decide) (by omega) (by omega) (fun h10 => ?_) (fun h10 => ?_)
      · exact pw_vretV C dX1_firstLine_39 (⟨by
              intro t
              rw [g t]
              by_cases e : w * 8 ≤ t ∧ t ≤ w * 8 + M 6 1
              · rw [if_pos e, if_pos (by omega)]
              · rw [if_neg e, if_neg (by omega)], (Sm_trans Sm_refl hF2 (by decide))⟩)
      · refine pw_aload0 C dX1_firstLine_13 ?_
        refine g_29_7 C fl_X1_29 dX1_firstLine_14 ?_
        refine pw_iload1 C dX1_firstLine_17 ?_
        refine pw_bipush C dX1_firstLine_18 (by decide) ?_
        refine pw_imul C dX1_firstLine_20 ?_
        refine pw_iload2 C dX1_firstLine_21 ?_
        refine pw_iadd C dX1_firstLine_22 ?_
        refine pw_iload2 C dX1_firstLine_23 ?_
        refine pw_aload0 C dX1_firstLine_24 ?_
        refine g_29_4 C fl_X1_32 dX1_firstLine_25 ?_
        refine g_1_2 C fl_X1_51 dX1_firstLine_28 ?_
        refine pw_top C _ (congrFun (hF2 1 (by decide)) _) ?_
        refine pw_imul C dX1_firstLine_31 ?_
        refine pw_iastore C lay_32 (by omega) (by decide) dX1_firstLine_32 ?_
        refine pw_iinc2 C (by decide) dX1_firstLine_33 ?_
        refine pw_goto (tgt := 2) C dX1_firstLine_36 (by decide) ?_
        exact ih_2 _ _ (Sm_up (Sm_trans Sm_refl hF2 (by decide)) (by decide)) (by omega) (by
              intro t
              rw [rd_if, g t]
              by_cases e : t = w * 8 + j
              · rw [if_pos e, if_pos (by omega), show t - w * 8 = j by omega]
              · rw [if_neg e]
                by_cases e2 : w * 8 ≤ t ∧ t < w * 8 + j
                · rw [if_pos e2, if_pos (by omega)]
                · rw [if_neg e2, if_neg (by omega)]) (by omega)
  exact cut_2 _ _ _ Sm_refl (by omega) (by intro t; rw [if_neg (by omega)]) (Nat.lt_succ_self _)
set_option maxHeartbeats 4000000 in
set_option maxRecDepth 100000 in
theorem c_X1_nextLine (l : Launch) (K : KX) (M : Mem) (p a w : Int) (hW : WfK (cf M)) (hp : 0 ≤ p ∧ p ≤ 7) (ha : 0 ≤ a ∧ a ≤ 3) (hw : 0 ≤ w ∧ w < M 6 0) (hv : ∀ j, 0 ≤ j → j ≤ M 6 1 → 0 ≤ M 32 (p * 64 + w * 8 + j) ∧ M 32 (p * 64 + w * 8 + j) ≤ 1000) : MCv l K LAY yX1_nextLine cX1_nextLine 15 none 2 [rV K 29, iV p, iV a, iV w] M (fun M' => (∀ t, M' 32 t = if p * 64 + w * 8 + 64 ≤ t ∧ t ≤ p * 64 + w * 8 + 64 + M 6 1 then edL (fun j => M 32 (p * 64 + w * 8 + j)) (M 1 2) (fun j => M 2 (a * 4 + M 7 (w * 7 + j))) (t - (p * 64 + w * 8 + 64)).toNat else M 32 t) ∧ Sm [32] M M') := by
  refine mcv_intro RX1 rfl [some (rV K 29), some (iV p), some (iV a), some (iV w), none, none, none, none, none, none, none, none, none, none, none] rfl (by decide +kernel) (cat_r (cat_i (cat_i (cat_i cat_nil)))) (Nat.le_of_ble_eq_true rfl) (fun X hX C => ?_)
  subst hX
  have w_let := wf_let hW
  have w_sw := wf_sw hW
  have w_dr := wf_dr hW
  have w_w := wf_w hW
  have w_l := wf_l hW
  have w_l1 := wf_l1 hW
  have hel := edL_rng (pv := (fun j => M 32 (p * 64 + w * 8 + j))) (pr := (fun j => M 2 (a * 4 + M 7 (w * 7 + j)))) (dr := M 1 2) (m := M 6 1) (B := 1000) (by omega) hv (fun j q1 q2 => by have h1 := wf_wl hW w j hw.1 hw.2 q1 q2; exact (wf_pr hW (a * 4 + M 7 (w * 7 + j)) (by omega) (by omega)).1)
  refine pw_iload1 C dX1_nextLine_0 ?_
  refine pw_bipush C dX1_nextLine_1 (by decide) ?_
  refine pw_imul C dX1_nextLine_3 ?_
  refine pw_iload3 C dX1_nextLine_4 ?_
  refine pw_bipush C dX1_nextLine_5 (by decide) ?_
  refine pw_imul C dX1_nextLine_7 ?_
  refine pw_iadd C dX1_nextLine_8 ?_
  refine pw_istore4 C (by decide) dX1_nextLine_9 ?_
  refine pw_iload4 C dX1_nextLine_11 ?_
  refine pw_bipush C dX1_nextLine_13 (by decide) ?_
  refine pw_iadd C dX1_nextLine_15 ?_
  refine pw_istore5 C (by decide) dX1_nextLine_16 ?_
  refine pw_aload0 C dX1_nextLine_18 ?_
  refine g_29_5 C fl_X1_36 dX1_nextLine_19 ?_
  refine pw_iload3 C dX1_nextLine_22 ?_
  refine pw_cVi1 C (c_X9_start _ K _ _) cb_X9_start lay_6 kc_9 rfl ml_X1_56 dX1_nextLine_23 (by decide) (Nat.le_of_ble_eq_true rfl) (fun r23 M23 hQ => ?_)
  obtain ⟨rfl, hMe⟩ := hQ
  replace hMe := hMe.symm
  subst hMe
  refine pw_istore6 C (by decide) dX1_nextLine_26 ?_
  refine pw_iload2 C dX1_nextLine_28 ?_
  refine pw_iconst C dX1_nextLine_29 ?_
  refine pw_imul C dX1_nextLine_30 ?_
  refine pw_istore7 C (by decide) dX1_nextLine_31 ?_
  refine pw_aload0 C dX1_nextLine_33 ?_
  refine g_29_4 C fl_X1_32 dX1_nextLine_34 ?_
  refine g_1_4 C fl_X1_60 dX1_nextLine_37 ?_
  refine pw_astore8 C (by decide) dX1_nextLine_40 ?_
  refine pw_aload0 C dX1_nextLine_42 ?_
  refine g_29_5 C fl_X1_36 dX1_nextLine_43 ?_
  refine g_6_2 C fl_X1_63 dX1_nextLine_46 ?_
  refine pw_astore9 C (by decide) dX1_nextLine_49 ?_
  refine pw_aload0 C dX1_nextLine_51 ?_
  refine g_29_4 C fl_X1_32 dX1_nextLine_52 ?_
  refine g_1_2 C fl_X1_51 dX1_nextLine_55 ?_
  refine pw_istore10 C (by decide) dX1_nextLine_58 ?_
  refine pw_aload0 C dX1_nextLine_60 ?_
  refine g_29_7 C fl_X1_29 dX1_nextLine_61 ?_
  refine pw_iload4 C dX1_nextLine_64 ?_
  refine pw_iaload C lay_32 (by omega) (by decide) dX1_nextLine_66 ?_
  refine pw_istore11 C (by decide) dX1_nextLine_67 ?_
  refine pw_iload11 C dX1_nextLine_69 ?_
  refine pw_iload10 C dX1_nextLine_71 ?_
  refine pw_iadd C dX1_nextLine_73 ?_
  refine pw_istore12 C (by decide) dX1_nextLine_74 ?_
  refine pw_aload0 C dX1_nextLine_76 ?_
  refine g_29_7 C fl_X1_29 dX1_nextLine_77 ?_
  refine pw_iload5 C dX1_nextLine_80 ?_
  refine pw_iload12 C dX1_nextLine_82 ?_
  refine pw_iastore C lay_32 (by omega) (by decide) dX1_nextLine_84 ?_
  refine pw_iconst C dX1_nextLine_85 ?_
  refine pw_istore13 C (by decide) dX1_nextLine_86 ?_
  have cut_88 : ∀ (fu : Nat) (sl lf j : Int) (M1 : Mem), Sm [32] M M1 → (0 ≤ j ∧ j ≤ M 6 1) → (sl = M 32 (p * 64 + w * 8 + j)) → (lf = edL (fun j => M 32 (p * 64 + w * 8 + j)) (M 1 2) (fun j => M 2 (a * 4 + M 7 (w * 7 + j))) j.toNat) → (∀ t, M1 32 t = if p * 64 + w * 8 + 64 ≤ t ∧ t ≤ p * 64 + w * 8 + 64 + j then edL (fun j => M 32 (p * 64 + w * 8 + j)) (M 1 2) (fun j => M 2 (a * 4 + M 7 (w * 7 + j))) (t - (p * 64 + w * 8 + 64)).toNat else M 32 t) → (M 6 1 - j).toNat < fu → PW X K LAY 15 (0, 0) (Zv X K LAY (fun M' => (∀ t, M' 32 t = if p * 64 + w * 8 + 64 ≤ t ∧ t ≤ p * 64 + w * 8 + 64 + M 6 1 then edL (fun j => M 32 (p * 64 + w * 8 + j)) (M 1 2) (fun j => M 2 (a * 4 + M 7 (w * 7 + j))) (t - (p * 64 + w * 8 + 64)).toNat else M 32 t) ∧ Sm [32] M M')) 88 [some (rV K 29), some (iV p), some (iV a), some (iV w), some (iV ((p * 64) + (w * 8))), some (iV (((p * 64) + (w * 8)) + 64)), some (iV (w * 7)), some (iV (a * 4)), some (rV K 2), some (rV K 7), some (iV (M 1 2)), some (iV sl), some (iV lf), some (iV j), none] [] M1 := by
    intro fu
    induction fu with
    | zero => intro _ _ _ _ _ _ _ _ _ hm; exact absurd hm (Nat.not_lt_zero _)
    | succ fu ih =>
      intro sl lf j M1 hF88 hj hsl hlf g hm
      have ih_88 := ih
      have hm_88 := hm
      have hvj := hv j (by omega) (by omega)
      rw [← hsl] at hvj
      have hlr := hel j (by omega) (by omega)
      rw [← hlf] at hlr
      refine pw_iload13 C dX1_nextLine_88 ?_
      refine pw_aload0 C dX1_nextLine_90 ?_
      refine g_29_5 C fl_X1_36 dX1_nextLine_91 ?_
      refine g_6_1 C fl_X1_48 dX1_nextLine_94 ?_
      refine pw_top C _ (congrFun (hF88 6 (by decide)) _) ?_
      refine pw_icmp_ge (tgt := 183) C dX1_nextLine_97 (by decide) (by omega) (by omega) (fun h97 => ?_) (fun h97 => ?_)
      · exact pw_vretV C dX1_nextLine_183 (⟨by
              intro t
              rw [g t, show j = M 6 1 by omega], (Sm_trans Sm_refl hF88 (by decide))⟩)
      · have hxr := wf_wl hW w j (by omega) (by omega) (by omega) (by omega)
        have hpc := wf_pr hW (a * 4 + M 7 (w * 7 + j)) (by omega) (by omega)
        have hvn := hv (j + 1) (by omega) (by omega)
        refine pw_iload11 C dX1_nextLine_100 ?_
        refine pw_aload8 C dX1_nextLine_102 ?_
        refine pw_iload7 C dX1_nextLine_104 ?_
        refine pw_aload9 C dX1_nextLine_106 ?_
        refine pw_iload6 C dX1_nextLine_108 ?_
        refine pw_iload13 C dX1_nextLine_110 ?_
        refine pw_iadd C dX1_nextLine_112 ?_
        refine pw_iaload C lay_7 (by omega) (by decide) dX1_nextLine_113 ?_
        refine pw_top C _ (congrFun (hF88 7 (by decide)) _) ?_
        refine pw_iadd C dX1_nextLine_114 ?_
        refine pw_iaload C lay_2 (by omega) (by decide) dX1_nextLine_115 ?_
        refine pw_top C _ (congrFun (hF88 2 (by decide)) _) ?_
        refine pw_iadd C dX1_nextLine_116 ?_
        refine pw_istore14 C (by decide) dX1_nextLine_117 ?_
        refine pw_aload0 C dX1_nextLine_119 ?_
        refine g_29_7 C fl_X1_29 dX1_nextLine_120 ?_
        refine pw_iload4 C dX1_nextLine_123 ?_
        refine pw_iload13 C dX1_nextLine_125 ?_
        refine pw_iadd C dX1_nextLine_127 ?_
        refine pw_iconst C dX1_nextLine_128 ?_
        refine pw_iadd C dX1_nextLine_129 ?_
        refine pw_iaload C lay_32 (by omega) (by decide) dX1_nextLine_130 ?_
        refine pw_top C (M 32 (p * 64 + w * 8 + (j + 1))) (by rw [g, if_neg (by omega), show p * 64 + w * 8 + j + 1 = p * 64 + w * 8 + (j + 1) by omega]) ?_
        refine pw_istore11 C (by decide) dX1_nextLine_131 ?_
        refine pw_iload11 C dX1_nextLine_133 ?_
        refine pw_iload12 C dX1_nextLine_135 ?_
        refine pw_icmp_ge (tgt := 145) C dX1_nextLine_137 (by decide) (by omega) (by omega) (fun h137 => ?_) (fun h137 => ?_)
        · refine pw_iload12 C dX1_nextLine_145 ?_
          refine pw_iload10 C dX1_nextLine_147 ?_
          refine pw_iadd C dX1_nextLine_149 ?_
          refine pw_istore12 C (by decide) dX1_nextLine_150 ?_
          refine pw_iload14 C dX1_nextLine_152 ?_
          refine pw_iload12 C dX1_nextLine_154 ?_
          refine pw_icmp_ge (tgt := 163) C dX1_nextLine_156 (by decide) (by omega) (by omega) (fun h156 => ?_) (fun h156 => ?_)
          · refine pw_aload0 C dX1_nextLine_163 ?_
            refine g_29_7 C fl_X1_29 dX1_nextLine_164 ?_
            refine pw_iload5 C dX1_nextLine_167 ?_
            refine pw_iload13 C dX1_nextLine_169 ?_
            refine pw_iadd C dX1_nextLine_171 ?_
            refine pw_iconst C dX1_nextLine_172 ?_
            refine pw_iadd C dX1_nextLine_173 ?_
            refine pw_iload12 C dX1_nextLine_174 ?_
            refine pw_iastore C lay_32 (by omega) (by decide) dX1_nextLine_176 ?_
            refine pw_iinc13 C (by decide) dX1_nextLine_177 ?_
            refine pw_goto (tgt := 88) C dX1_nextLine_180 (by decide) ?_
            refine pw_fgt (fgt_k (fgt_k (fgt_k (fgt_k (fgt_k (fgt_k (fgt_k (fgt_k (fgt_k (fgt_k (fgt_k (fgt_k (fgt_k (fgt_k (fgt_no fgt_nil))))))))))))))) ?_
            exact ih_88 _ _ _ _ (Sm_up (Sm_trans Sm_refl hF88 (by decide)) (by decide)) (by omega) (by rfl) (by
                  (rw [edL_s (by omega), ← hlf]
                   show _ = mn (M 32 (p * 64 + w * 8 + j) + M 2 (a * 4 + M 7 (w * 7 + j))) (mn (M 32 (p * 64 + w * 8 + (j + 1))) lf + M 1 2)
                   rw [← hsl]
                   unfold mn
                   split <;> split <;> omega)) (by
                  intro t
                  rw [rd_if, g t]
                  by_cases e : t = p * 64 + w * 8 + 64 + j + 1
                  · rw [if_pos e, if_pos (by omega), show t - (p * 64 + w * 8 + 64) = j + 1 by omega]
                    (rw [edL_s (by omega), ← hlf]
                     show _ = mn (M 32 (p * 64 + w * 8 + j) + M 2 (a * 4 + M 7 (w * 7 + j))) (mn (M 32 (p * 64 + w * 8 + (j + 1))) lf + M 1 2)
                     rw [← hsl]
                     unfold mn
                     split <;> split <;> omega)
                  · rw [if_neg e]
                    by_cases e2 : p * 64 + w * 8 + 64 ≤ t ∧ t ≤ p * 64 + w * 8 + 64 + j
                    · rw [if_pos e2, if_pos (by omega)]
                    · rw [if_neg e2, if_neg (by omega)]) (by omega)
          · refine pw_iload14 C dX1_nextLine_159 ?_
            refine pw_istore12 C (by decide) dX1_nextLine_161 ?_
            refine pw_aload0 C dX1_nextLine_163 ?_
            refine g_29_7 C fl_X1_29 dX1_nextLine_164 ?_
            refine pw_iload5 C dX1_nextLine_167 ?_
            refine pw_iload13 C dX1_nextLine_169 ?_
            refine pw_iadd C dX1_nextLine_171 ?_
            refine pw_iconst C dX1_nextLine_172 ?_
            refine pw_iadd C dX1_nextLine_173 ?_
            refine pw_iload12 C dX1_nextLine_174 ?_
            refine pw_iastore C lay_32 (by omega) (by decide) dX1_nextLine_176 ?_
            refine pw_iinc13 C (by decide) dX1_nextLine_177 ?_
            refine pw_goto (tgt := 88) C dX1_nextLine_180 (by decide) ?_
            refine pw_fgt (fgt_k (fgt_k (fgt_k (fgt_k (fgt_k (fgt_k (fgt_k (fgt_k (fgt_k (fgt_k (fgt_k (fgt_k (fgt_k (fgt_k (fgt_no fgt_nil))))))))))))))) ?_
            exact ih_88 _ _ _ _ (Sm_up (Sm_trans Sm_refl hF88 (by decide)) (by decide)) (by omega) (by rfl) (by
                  (rw [edL_s (by omega), ← hlf]
                   show _ = mn (M 32 (p * 64 + w * 8 + j) + M 2 (a * 4 + M 7 (w * 7 + j))) (mn (M 32 (p * 64 + w * 8 + (j + 1))) lf + M 1 2)
                   rw [← hsl]
                   unfold mn
                   split <;> split <;> omega)) (by
                  intro t
                  rw [rd_if, g t]
                  by_cases e : t = p * 64 + w * 8 + 64 + j + 1
                  · rw [if_pos e, if_pos (by omega), show t - (p * 64 + w * 8 + 64) = j + 1 by omega]
                    (rw [edL_s (by omega), ← hlf]
                     show _ = mn (M 32 (p * 64 + w * 8 + j) + M 2 (a * 4 + M 7 (w * 7 + j))) (mn (M 32 (p * 64 + w * 8 + (j + 1))) lf + M 1 2)
                     rw [← hsl]
                     unfold mn
                     split <;> split <;> omega)
                  · rw [if_neg e]
                    by_cases e2 : p * 64 + w * 8 + 64 ≤ t ∧ t ≤ p * 64 + w * 8 + 64 + j
                    · rw [if_pos e2, if_pos (by omega)]
                    · rw [if_neg e2, if_neg (by omega)]) (by omega)
        · refine pw_iload11 C dX1_nextLine_140 ?_
          refine pw_goto (tgt := 147) C dX1_nextLine_142 (by decide) ?_
          refine pw_iload10 C dX1_nextLine_147 ?_
          refine pw_iadd C dX1_nextLine_149 ?_
          refine pw_istore12 C (by decide) dX1_nextLine_150 ?_
          refine pw_iload14 C dX1_nextLine_152 ?_
          refine pw_iload12 C dX1_nextLine_154 ?_
          refine pw_icmp_ge (tgt := 163) C dX1_nextLine_156 (by decide) (by omega) (by omega) (fun h156 => ?_) (fun h156 => ?_)
          · refine pw_aload0 C dX1_nextLine_163 ?_
            refine g_29_7 C fl_X1_29 dX1_nextLine_164 ?_
            refine pw_iload5 C dX1_nextLine_167 ?_
            refine pw_iload13 C dX1_nextLine_169 ?_
            refine pw_iadd C dX1_nextLine_171 ?_
            refine pw_iconst C dX1_nextLine_172 ?_
            refine pw_iadd C dX1_nextLine_173 ?_
            refine pw_iload12 C dX1_nextLine_174 ?_
            refine pw_iastore C lay_32 (by omega) (by decide) dX1_nextLine_176 ?_
            refine pw_iinc13 C (by decide) dX1_nextLine_177 ?_
            refine pw_goto (tgt := 88) C dX1_nextLine_180 (by decide) ?_
            refine pw_fgt (fgt_k (fgt_k (fgt_k (fgt_k (fgt_k (fgt_k (fgt_k (fgt_k (fgt_k (fgt_k (fgt_k (fgt_k (fgt_k (fgt_k (fgt_no fgt_nil))))))))))))))) ?_
            exact ih_88 _ _ _ _ (Sm_up (Sm_trans Sm_refl hF88 (by decide)) (by decide)) (by omega) (by rfl) (by
                  (rw [edL_s (by omega), ← hlf]
                   show _ = mn (M 32 (p * 64 + w * 8 + j) + M 2 (a * 4 + M 7 (w * 7 + j))) (mn (M 32 (p * 64 + w * 8 + (j + 1))) lf + M 1 2)
                   rw [← hsl]
                   unfold mn
                   split <;> split <;> omega)) (by
                  intro t
                  rw [rd_if, g t]
                  by_cases e : t = p * 64 + w * 8 + 64 + j + 1
                  · rw [if_pos e, if_pos (by omega), show t - (p * 64 + w * 8 + 64) = j + 1 by omega]
                    (rw [edL_s (by omega), ← hlf]
                     show _ = mn (M 32 (p * 64 + w * 8 + j) + M 2 (a * 4 + M 7 (w * 7 + j))) (mn (M 32 (p * 64 + w * 8 + (j + 1))) lf + M 1 2)
                     rw [← hsl]
                     unfold mn
                     split <;> split <;> omega)
                  · rw [if_neg e]
                    by_cases e2 : p * 64 + w * 8 + 64 ≤ t ∧ t ≤ p * 64 + w * 8 + 64 + j
                    · rw [if_pos e2, if_pos (by omega)]
                    · rw [if_neg e2, if_neg (by omega)]) (by omega)
          · refine pw_iload14 C dX1_nextLine_159 ?_
            refine pw_istore12 C (by decide) dX1_nextLine_161 ?_
            refine pw_aload0 C dX1_nextLine_163 ?_
            refine g_29_7 C fl_X1_29 dX1_nextLine_164 ?_
            refine pw_iload5 C dX1_nextLine_167 ?_
            refine pw_iload13 C dX1_nextLine_169 ?_
            refine pw_iadd C dX1_nextLine_171 ?_
            refine pw_iconst C dX1_nextLine_172 ?_
            refine pw_iadd C dX1_nextLine_173 ?_
            refine pw_iload12 C dX1_nextLine_174 ?_
            refine pw_iastore C lay_32 (by omega) (by decide) dX1_nextLine_176 ?_
            refine pw_iinc13 C (by decide) dX1_nextLine_177 ?_
            refine pw_goto (tgt := 88) C dX1_nextLine_180 (by decide) ?_
            refine pw_fgt (fgt_k (fgt_k (fgt_k (fgt_k (fgt_k (fgt_k (fgt_k (fgt_k (fgt_k (fgt_k (fgt_k (fgt_k (fgt_k (fgt_k (fgt_no fgt_nil))))))))))))))) ?_
            exact ih_88 _ _ _ _ (Sm_up (Sm_trans Sm_refl hF88 (by decide)) (by decide)) (by omega) (by rfl) (by
                  (rw [edL_s (by omega), ← hlf]
                   show _ = mn (M 32 (p * 64 + w * 8 + j) + M 2 (a * 4 + M 7 (w * 7 + j))) (mn (M 32 (p * 64 + w * 8 + (j + 1))) lf + M 1 2)
                   rw [← hsl]
                   unfold mn
                   split <;> split <;> omega)) (by
                  intro t
                  rw [rd_if, g t]
                  by_cases e : t = p * 64 + w * 8 + 64 + j + 1
                  · rw [if_pos e, if_pos (by omega), show t - (p * 64 + w * 8 + 64) = j + 1 by omega]
                    (rw [edL_s (by omega), ← hlf]
                     show _ = mn (M 32 (p * 64 + w * 8 + j) + M 2 (a * 4 + M 7 (w * 7 + j))) (mn (M 32 (p * 64 + w * 8 + (j + 1))) lf + M 1 2)
                     rw [← hsl]
                     unfold mn
                     split <;> split <;> omega)
                  · rw [if_neg e]
                    by_cases e2 : p * 64 + w * 8 + 64 ≤ t ∧ t ≤ p * 64 + w * 8 + 64 + j
                    · rw [if_pos e2, if_pos (by omega)]
                    · rw [if_neg e2, if_neg (by omega)]) (by omega)
  exact cut_88 _ _ _ _ _ (Sm_up Sm_refl (by decide)) (by omega) (by rw [Int.add_zero]) (by show _ = M 32 (p * 64 + w * 8 + 0) + M 1 2; rw [Int.add_zero]) (by
        intro t
        rw [rd_if]
        by_cases e : t = p * 64 + w * 8 + 64
        · rw [if_pos e, if_pos (by omega), e, show p * 64 + w * 8 + 64 - (p * 64 + w * 8 + 64) = (0 : Int) by omega]
          show _ = M 32 (p * 64 + w * 8 + 0) + M 1 2
          rw [Int.add_zero]
        · rw [if_neg e, if_neg (by omega)]) (Nat.lt_succ_self _)
set_option maxHeartbeats 4000000 in
set_option maxRecDepth 100000 in
theorem c_X1_editing (l : Launch) (K : KX) (M : Mem) (q1 : Nat) (st n b : Int) (n1 : Nat) (hW : WfK (cf M)) (hq1 : LAY[q1]? = some (1, n1, [])) (hnq1 : n1 < 2147483648) (hc1 : q1 ≠ 32) (hi : 0 ≤ st ∧ st + n ≤ (n1 : Int)) (hn : 0 ≤ n ∧ n ≤ 8) (hx : ∀ p, 0 ≤ p → p < n → 0 ≤ M q1 (st + p) ∧ M q1 (st + p) ≤ 3) (hb : 0 ≤ b ∧ b < M 6 0) : MCi l K LAY yX1_editing cX1_editing 6 (some .int) 3 [rV K 29, rV K q1, iV st, iV n, iV b] M (fun r M' => (r = edW (cf M) (fun t => M q1 (st + t)) b n (M 6 1)) ∧ Sm [32] M M') := by
  refine mci_intro RX1 rfl [some (rV K 29), some (rV K q1), some (iV st), some (iV n), some (iV b), none] rfl (by decide +kernel) (cat_r (cat_r (cat_i (cat_i (cat_i cat_nil))))) (Nat.le_of_ble_eq_true rfl) (fun X hX C => ?_)
  subst hX
  have w_let := wf_let hW
  have w_sw := wf_sw hW
  have w_dr := wf_dr hW
  have w_w := wf_w hW
  have w_l := wf_l hW
  have w_l1 := wf_l1 hW
  have hrg := edW_rng (c := cf M) hW (x := (fun t => M q1 (st + t))) (n := n) (w := b) hb hx
  refine pw_aload0 C dX1_editing_0 ?_
  refine pw_iload4 C dX1_editing_1 ?_
  refine pw_cVv1 C (c_X1_firstLine _ K _ _ (hW) (by omega)) cb_X1_firstLine lay_29 kc_1 rfl ml_X1_40 dX1_editing_3 (by decide) (Nat.le_of_ble_eq_true rfl) (fun M3 hQ => ?_)
  obtain ⟨h1_3, hF3⟩ := hQ
  refine pw_iconst C dX1_editing_6 ?_
  refine pw_istore5 C (by decide) dX1_editing_7 ?_
  have cut_9 : ∀ (fu : Nat) (p : Int) (M1 : Mem), Sm [32] M M1 → (0 ≤ p ∧ p ≤ n) → (∀ j, 0 ≤ j → j ≤ M 6 1 → M1 32 (p * 64 + b * 8 + j) = edW (cf M) (fun t => M q1 (st + t)) b p j) → (n - p).toNat < fu → PW X K LAY 6 (0, 0) (Zi X K LAY (fun r M' => (r = edW (cf M) (fun t => M q1 (st + t)) b n (M 6 1)) ∧ Sm [32] M M')) 9 [some (rV K 29), some (rV K q1), some (iV st), some (iV n), some (iV b), some (iV p)] [] M1 := by
    intro fu
    induction fu with
    | zero => intro _ _ _ _ _ hm; exact absurd hm (Nat.not_lt_zero _)
    | succ fu ih =>
      intro p M1 hF9 hp g hm
      have ih_9 := ih
      have hm_9 := hm
      have ecM1 : cf M1 = cf M := by unfold cf; rw [hF9 1 (by decide), hF9 2 (by decide), hF9 6 (by decide), hF9 7 (by decide), hF9 8 (by decide), hF9 9 (by decide), hF9 10 (by decide), hF9 11 (by decide)]
      refine pw_iload5 C dX1_editing_9 ?_
      refine pw_iload3 C dX1_editing_11 ?_
      refine pw_icmp_ge (tgt := 35) C dX1_editing_12 (by decide) (by omega) (by omega) (fun h12 => ?_) (fun h12 => ?_)
      · refine pw_aload0 C dX1_editing_35 ?_
        refine g_29_7 C fl_X1_29 dX1_editing_36 ?_
        refine pw_iload3 C dX1_editing_39 ?_
        refine pw_bipush C dX1_editing_40 (by decide) ?_
        refine pw_imul C dX1_editing_42 ?_
        refine pw_iload4 C dX1_editing_43 ?_
        refine pw_bipush C dX1_editing_45 (by decide) ?_
        refine pw_imul C dX1_editing_47 ?_
        refine pw_iadd C dX1_editing_48 ?_
        refine pw_aload0 C dX1_editing_49 ?_
        refine g_29_5 C fl_X1_36 dX1_editing_50 ?_
        refine g_6_1 C fl_X1_48 dX1_editing_53 ?_
        refine pw_top C _ (congrFun (hF9 6 (by decide)) _) ?_
        refine pw_iadd C dX1_editing_56 ?_
        refine pw_iaload C lay_32 (by omega) (by decide) dX1_editing_57 ?_
        exact pw_iretI C dX1_editing_58 (⟨by rw [show n * 64 + b * 8 + M 6 1 = p * 64 + b * 8 + M 6 1 by omega, g (M 6 1) (by omega) (by omega), show p = n by omega], (Sm_trans Sm_refl hF9 (by decide))⟩)
      · have hxp := hx p (by omega) (by omega)
        refine pw_aload0 C dX1_editing_15 ?_
        refine pw_iload5 C dX1_editing_16 ?_
        refine pw_aload1 C dX1_editing_18 ?_
        refine pw_iload2 C dX1_editing_19 ?_
        refine pw_iload5 C dX1_editing_20 ?_
        refine pw_iadd C dX1_editing_22 ?_
        refine pw_iaload C hq1 (by omega) (hnq1) dX1_editing_23 ?_
        refine pw_top C _ (congrFun (hF9 q1 (by simpa using hc1)) _) ?_
        refine pw_iload4 C dX1_editing_24 ?_
        have nz26_6 : M1 6 = M 6 := (hF9 6 (by decide))
        refine pw_cVv3 C (c_X1_nextLine _ K _ _ _ _ (by rw [ecM1]; exact hW) (by first | omega | (simp only [nz26_6]; omega)) (by first | omega | (simp only [nz26_6]; omega)) (by first | omega | (simp only [nz26_6]; omega)) (by rw [hF9 6 (by decide)]; intro j q1 q2; rw [g j q1 q2]; have := hrg p (by omega) (by omega) j q1 q2; omega)) cb_X1_nextLine lay_29 kc_1 rfl ml_X1_44 dX1_editing_26 (by decide) (Nat.le_of_ble_eq_true rfl) (fun M26 hQ => ?_)
        obtain ⟨h1_26, hF26⟩ := hQ
        refine pw_iinc5 C (by decide) dX1_editing_29 ?_
        refine pw_goto (tgt := 9) C dX1_editing_32 (by decide) ?_
        exact ih_9 _ _ (Sm_trans (Sm_trans Sm_refl hF9 (by decide)) hF26 (by decide)) (by omega) (by
              intro j q1 q2
              rw [h1_26, hF9 6 (by decide), if_pos (by omega), show (p + 1) * 64 + b * 8 + j - (p * 64 + b * 8 + 64) = j by omega, hF9 1 (by decide), hF9 2 (by decide), hF9 7 (by decide)]
              exact nl_ed (m := M 6 1) (by omega) ⟨q1, q2⟩ g (fun _ _ _ => rfl)) (by omega)
  exact cut_9 _ _ _ (Sm_trans Sm_refl hF3 (by decide)) (by omega) (by intro j q1 q2; rw [h1_3, if_pos (by omega)]; show (0 * 64 + b * 8 + j - b * 8) * M 1 2 = j * M 1 2; rw [show 0 * 64 + b * 8 + j - b * 8 = j by omega]) (Nat.lt_succ_self _)
set_option maxHeartbeats 4000000 in
set_option maxRecDepth 100000 in
theorem c_X1_leastEnd (l : Launch) (K : KX) (M : Mem) (p w mo : Int) (hW : WfK (cf M)) (hp : 0 ≤ p ∧ p ≤ 8) (hw : 0 ≤ w ∧ w < M 6 0) (hmo : 0 ≤ mo ∧ mo ≤ 8) (hv : ∀ j, 0 ≤ j → j ≤ M 6 1 → 0 ≤ M 32 (p * 64 + w * 8 + j) ∧ M 32 (p * 64 + w * 8 + j) ≤ 1000) : MCi l K LAY yX1_leastEnd cX1_leastEnd 10 (some .int) 1 [rV K 29, iV p, iV w, iV mo] M (fun r M' => (r = miT (fun j => M 32 (p * 64 + w * 8 + j) + ab (M 6 1 - j - mo) * M 1 2) (M 6 1 + 1)) ∧ M' = M) := by
  refine mci_intro RX1 rfl [some (rV K 29), some (iV p), some (iV w), some (iV mo), none, none, none, none, none, none] rfl (by decide +kernel) (cat_r (cat_i (cat_i (cat_i cat_nil)))) (Nat.le_of_ble_eq_true rfl) (fun X hX C => ?_)
  subst hX
  have w_let := wf_let hW
  have w_sw := wf_sw hW
  have w_dr := wf_dr hW
  have w_w := wf_w hW
  have w_l := wf_l hW
  have w_l1 := wf_l1 hW
  have hab : ∀ j, 0 ≤ j → j ≤ M 6 1 → 0 ≤ ab (M 6 1 - j - mo) * M 1 2 ∧ ab (M 6 1 - j - mo) * M 1 2 ≤ 72 := fun j q1 q2 => by
    have h2 := ab_nn (M 6 1 - j - mo)
    have h5 : ab (M 6 1 - j - mo) ≤ 8 := by unfold ab; split <;> omega
    exact ⟨Int.mul_nonneg h2 (by omega), Int.mul_le_mul h5 w_dr.2 (by omega) (by decide)⟩
  refine pw_iload1 C dX1_leastEnd_0 ?_
  refine pw_bipush C dX1_leastEnd_1 (by decide) ?_
  refine pw_imul C dX1_leastEnd_3 ?_
  refine pw_iload2 C dX1_leastEnd_4 ?_
  refine pw_bipush C dX1_leastEnd_5 (by decide) ?_
  refine pw_imul C dX1_leastEnd_7 ?_
  refine pw_iadd C dX1_leastEnd_8 ?_
  refine pw_istore4 C (by decide) dX1_leastEnd_9 ?_
  refine pw_aload0 C dX1_leastEnd_11 ?_
  refine g_29_4 C fl_X1_32 dX1_leastEnd_12 ?_
  refine g_1_2 C fl_X1_51 dX1_leastEnd_15 ?_
  refine pw_istore5 C (by decide) dX1_leastEnd_18 ?_
  refine pw_ldc C (z := 2147483647) (by decide) ct_X1_120 dX1_leastEnd_20 ?_
  refine pw_istore6 C (by decide) dX1_leastEnd_22 ?_
  refine pw_iconst C dX1_leastEnd_24 ?_
  refine pw_istore7 C (by decide) dX1_leastEnd_25 ?_
  have cut_27 : ∀ (fu : Nat) (le j : Int), (0 ≤ j ∧ j ≤ M 6 1 + 1) → (le = miT (fun j => M 32 (p * 64 + w * 8 + j) + ab (M 6 1 - j - mo) * M 1 2) j) → (M 6 1 + 1 - j).toNat < fu → PW X K LAY 10 (0, 0) (Zi X K LAY (fun r M' => (r = miT (fun j => M 32 (p * 64 + w * 8 + j) + ab (M 6 1 - j - mo) * M 1 2) (M 6 1 + 1)) ∧ M' = M)) 27 [some (rV K 29), some (iV p), some (iV w), some (iV mo), some (iV ((p * 64) + (w * 8))), some (iV (M 1 2)), some (iV le), some (iV j), none, none] [] M := by
    intro fu
    induction fu with
    | zero => intro _ _ _ _ hm; exact absurd hm (Nat.not_lt_zero _)
    | succ fu ih =>
      intro le j hj hle hm
      have ih_27 := ih
      have hm_27 := hm
      have hlr : 0 ≤ le ∧ le ≤ 2147483647 := by rw [hle]; exact miT_r2 j (by omega) (fun t q1 q2 => by have := hv t q1 (by omega); have := hab t q1 (by omega); show 0 ≤ M 32 (p * 64 + w * 8 + t) + ab (M 6 1 - t - mo) * M 1 2; omega)
      refine pw_iload7 C dX1_leastEnd_27 ?_
      refine pw_aload0 C dX1_leastEnd_29 ?_
      refine g_29_5 C fl_X1_36 dX1_leastEnd_30 ?_
      refine g_6_1 C fl_X1_48 dX1_leastEnd_33 ?_
      refine pw_icmp_gt (tgt := 99) C dX1_leastEnd_36 (by decide) (by omega) (by omega) (fun h36 => ?_) (fun h36 => ?_)
      · refine pw_iload6 C dX1_leastEnd_99 ?_
        exact pw_iretI C dX1_leastEnd_101 (⟨by rw [hle, show j = M 6 1 + 1 by omega], rfl⟩)
      · have hvj := hv j (by omega) (by omega)
        have haj := hab j (by omega) (by omega)
        refine pw_aload0 C dX1_leastEnd_39 ?_
        refine g_29_5 C fl_X1_36 dX1_leastEnd_40 ?_
        refine g_6_1 C fl_X1_48 dX1_leastEnd_43 ?_
        refine pw_iload7 C dX1_leastEnd_46 ?_
        refine pw_isub C dX1_leastEnd_48 ?_
        refine pw_iload3 C dX1_leastEnd_49 ?_
        refine pw_isub C dX1_leastEnd_50 ?_
        refine pw_istore8 C (by decide) dX1_leastEnd_51 ?_
        refine pw_aload0 C dX1_leastEnd_53 ?_
        refine g_29_7 C fl_X1_29 dX1_leastEnd_54 ?_
        refine pw_iload4 C dX1_leastEnd_57 ?_
        refine pw_iload7 C dX1_leastEnd_59 ?_
        refine pw_iadd C dX1_leastEnd_61 ?_
        refine pw_iaload C lay_32 (by omega) (by decide) dX1_leastEnd_62 ?_
        refine pw_iload8 C dX1_leastEnd_63 ?_
        refine pw_if_ge (tgt := 74) C dX1_leastEnd_65 (by decide) (by omega) (fun h65 => ?_) (fun h65 => ?_)
        · refine pw_iload8 C dX1_leastEnd_74 ?_
          refine pw_iload5 C dX1_leastEnd_76 ?_
          refine pw_imul C dX1_leastEnd_78 ?_
          refine pw_top C (ab (M 6 1 - j - mo) * M 1 2) (by unfold ab; first | rw [if_neg (by omega)] | rw [if_pos (by omega)]) ?_
          refine pw_iadd C dX1_leastEnd_79 ?_
          refine pw_istore9 C (by decide) dX1_leastEnd_80 ?_
          refine pw_iload9 C dX1_leastEnd_82 ?_
          refine pw_iload6 C dX1_leastEnd_84 ?_
          refine pw_icmp_ge (tgt := 93) C dX1_leastEnd_86 (by decide) (by omega) (by omega) (fun h86 => ?_) (fun h86 => ?_)
          · refine pw_iinc7 C (by decide) dX1_leastEnd_93 ?_
            refine pw_goto (tgt := 27) C dX1_leastEnd_96 (by decide) ?_
            refine pw_fgt (fgt_k (fgt_k (fgt_k (fgt_k (fgt_k (fgt_k (fgt_k (fgt_k (fgt_no (fgt_no fgt_nil)))))))))) ?_
            exact ih_27 _ _ (by omega) (by
                  rw [miT_s (by omega), ← hle]
                  show _ = if M 32 (p * 64 + w * 8 + j) + ab (M 6 1 - j - mo) * M 1 2 < le then M 32 (p * 64 + w * 8 + j) + ab (M 6 1 - j - mo) * M 1 2 else le
                  first | rw [if_pos (by omega)] | rw [if_neg (by omega)]) (by omega)
          · refine pw_iload9 C dX1_leastEnd_89 ?_
            refine pw_istore6 C (by decide) dX1_leastEnd_91 ?_
            refine pw_iinc7 C (by decide) dX1_leastEnd_93 ?_
            refine pw_goto (tgt := 27) C dX1_leastEnd_96 (by decide) ?_
            refine pw_fgt (fgt_k (fgt_k (fgt_k (fgt_k (fgt_k (fgt_k (fgt_k (fgt_k (fgt_no (fgt_no fgt_nil)))))))))) ?_
            exact ih_27 _ _ (by omega) (by
                  rw [miT_s (by omega), ← hle]
                  show _ = if M 32 (p * 64 + w * 8 + j) + ab (M 6 1 - j - mo) * M 1 2 < le then M 32 (p * 64 + w * 8 + j) + ab (M 6 1 - j - mo) * M 1 2 else le
                  first | rw [if_pos (by omega)] | rw [if_neg (by omega)]) (by omega)
        · refine pw_iload8 C dX1_leastEnd_68 ?_
          refine pw_ineg C dX1_leastEnd_70 ?_
          refine pw_goto (tgt := 76) C dX1_leastEnd_71 (by decide) ?_
          refine pw_iload5 C dX1_leastEnd_76 ?_
          refine pw_imul C dX1_leastEnd_78 ?_
          refine pw_top C (ab (M 6 1 - j - mo) * M 1 2) (by unfold ab; first | rw [if_neg (by omega)] | rw [if_pos (by omega)]) ?_
          refine pw_iadd C dX1_leastEnd_79 ?_
          refine pw_istore9 C (by decide) dX1_leastEnd_80 ?_
          refine pw_iload9 C dX1_leastEnd_82 ?_
          refine pw_iload6 C dX1_leastEnd_84 ?_
          refine pw_icmp_ge (tgt := 93) C dX1_leastEnd_86 (by decide) (by omega) (by omega) (fun h86 => ?_) (fun h86 => ?_)
          · refine pw_iinc7 C (by decide) dX1_leastEnd_93 ?_
            refine pw_goto (tgt := 27) C dX1_leastEnd_96 (by decide) ?_
            refine pw_fgt (fgt_k (fgt_k (fgt_k (fgt_k (fgt_k (fgt_k (fgt_k (fgt_k (fgt_no (fgt_no fgt_nil)))))))))) ?_
            exact ih_27 _ _ (by omega) (by
                  rw [miT_s (by omega), ← hle]
                  show _ = if M 32 (p * 64 + w * 8 + j) + ab (M 6 1 - j - mo) * M 1 2 < le then M 32 (p * 64 + w * 8 + j) + ab (M 6 1 - j - mo) * M 1 2 else le
                  first | rw [if_pos (by omega)] | rw [if_neg (by omega)]) (by omega)
          · refine pw_iload9 C dX1_leastEnd_89 ?_
            refine pw_istore6 C (by decide) dX1_leastEnd_91 ?_
            refine pw_iinc7 C (by decide) dX1_leastEnd_93 ?_
            refine pw_goto (tgt := 27) C dX1_leastEnd_96 (by decide) ?_
            refine pw_fgt (fgt_k (fgt_k (fgt_k (fgt_k (fgt_k (fgt_k (fgt_k (fgt_k (fgt_no (fgt_no fgt_nil)))))))))) ?_
            exact ih_27 _ _ (by omega) (by
                  rw [miT_s (by omega), ← hle]
                  show _ = if M 32 (p * 64 + w * 8 + j) + ab (M 6 1 - j - mo) * M 1 2 < le then M 32 (p * 64 + w * 8 + j) + ab (M 6 1 - j - mo) * M 1 2 else le
                  first | rw [if_pos (by omega)] | rw [if_neg (by omega)]) (by omega)
  exact cut_27 _ _ _ (by omega) (by rfl) (Nat.lt_succ_self _)
set_option maxHeartbeats 4000000 in
set_option maxRecDepth 100000 in
theorem c_X1_put (l : Launch) (K : KX) (M : Mem) (p mo : Int) (hW : WfK (cf M)) (hp : 0 ≤ p ∧ p ≤ 7) (hmo : 0 ≤ mo ∧ mo ≤ 7) (hx : ∀ i, 0 ≤ i → i < p + 1 → 0 ≤ M 31 i ∧ M 31 i ≤ 3) (hsm : 0 ≤ M 29 1 ∧ M 29 1 ≤ 5000) (hln : ∀ w, 0 ≤ w → w < M 6 0 → M 8 w = 1 → ∀ j, 0 ≤ j → j ≤ M 6 1 → M 32 (p * 64 + w * 8 + j) = edW (cf M) (M 31) w p j) : MCi l K LAY yX1_put cX1_put 5 (some .int) 3 [rV K 29, iV p, iV mo] M (fun r M' => (∃ w0, (0 ≤ w0 ∧ w0 ≤ M 6 0) ∧ r = smW (lbW (cf M) (M 31) (p + 1) mo) (M 8) w0.toNat ∧ (w0 = M 6 0 ∨ M 29 1 ≤ r) ∧ ∀ w, 0 ≤ w → w < w0 → M 8 w = 1 → ∀ j, 0 ≤ j → j ≤ M 6 1 → M' 32 ((p + 1) * 64 + w * 8 + j) = edW (cf M) (M 31) w (p + 1) j) ∧ (∀ t, t < (p + 1) * 64 → M' 32 t = M 32 t) ∧ (0 ≤ r ∧ r ≤ 1656) ∧ Sm [32] M M') := by
  refine mci_intro RX1 rfl [some (rV K 29), some (iV p), some (iV mo), none, none] rfl (by decide +kernel) (cat_r (cat_i (cat_i cat_nil))) (Nat.le_of_ble_eq_true rfl) (fun X hX C => ?_)
  subst hX
  have w_let := wf_let hW
  have w_sw := wf_sw hW
  have w_dr := wf_dr hW
  have w_w := wf_w hW
  have w_l := wf_l hW
  have w_l1 := wf_l1 hW
  have hxp := hx p (by omega) (by omega)
  refine pw_iconst C dX1_put_0 ?_
  refine pw_istore3 C (by decide) dX1_put_1 ?_
  refine pw_iconst C dX1_put_2 ?_
  refine pw_istore4 C (by decide) dX1_put_3 ?_
  have cut_5 : ∀ (fu : Nat) (to w : Int) (M1 : Mem), Sm [32] M M1 → (0 ≤ w ∧ w ≤ M 6 0) → (to = smW (lbW (cf M) (M 31) (p + 1) mo) (M 8) w.toNat) → (∀ u, 0 ≤ u → u < w → M 8 u = 1 → ∀ j, 0 ≤ j → j ≤ M 6 1 → M1 32 ((p + 1) * 64 + u * 8 + j) = edW (cf M) (M 31) u (p + 1) j) → (∀ t, t < (p + 1) * 64 → M1 32 t = M 32 t) → (M 6 0 - w).toNat < fu → PW X K LAY 5 (0, 0) (Zi X K LAY (fun r M' => (∃ w0, (0 ≤ w0 ∧ w0 ≤ M 6 0) ∧ r = smW (lbW (cf M) (M 31) (p + 1) mo) (M 8) w0.toNat ∧ (w0 = M 6 0 ∨ M 29 1 ≤ r) ∧ ∀ w, 0 ≤ w → w < w0 → M 8 w = 1 → ∀ j, 0 ≤ j → j ≤ M 6 1 → M' 32 ((p + 1) * 64 + w * 8 + j) = edW (cf M) (M 31) w (p + 1) j) ∧ (∀ t, t < (p + 1) * 64 → M' 32 t = M 32 t) ∧ (0 ≤ r ∧ r ≤ 1656) ∧ Sm [32] M M')) 5 [some (rV K 29), some (iV p), some (iV mo), some (iV to), some (iV w)] [] M1 := by
    intro fu
    induction fu with
    | zero => intro _ _ _ _ _ _ _ _ hm; exact absurd hm (Nat.not_lt_zero _)
    | succ fu ih =>
      intro to w M1 hF5 hw hto g hk hm
      have ih_5 := ih
      have hm_5 := hm
      have ecM1 : cf M1 = cf M := by unfold cf; rw [hF5 1 (by decide), hF5 2 (by decide), hF5 6 (by decide), hF5 7 (by decide), hF5 8 (by decide), hF5 9 (by decide), hF5 10 (by decide), hF5 11 (by decide)]
      have htr := smW_rng (f := lbW (cf M) (M 31) (p + 1) mo) (p := M 8) (B := 207) (by decide) w.toNat (fun u q1 q2 _ => lb_rng hW (by omega) (by omega) ⟨q1, by show u < M 6 0; omega⟩ hx)
      rw [← hto] at htr
      refine pw_iload4 C dX1_put_5 ?_
      refine pw_aload0 C dX1_put_7 ?_
      refine g_29_5 C fl_X1_36 dX1_put_8 ?_
      refine g_6_0 C fl_X1_74 dX1_put_11 ?_
      refine pw_top C _ (congrFun (hF5 6 (by decide)) _) ?_
      refine pw_icmp_ge (tgt := 71) C dX1_put_14 (by decide) (by omega) (by omega) (fun h14 => ?_) (fun h14 => ?_)
      · refine pw_iload3 C dX1_put_71 ?_
        exact pw_iretI C dX1_put_72 (⟨by exact ⟨w, by omega, hto, by omega, g⟩, by exact hk, by omega, (Sm_trans Sm_refl hF5 (by decide))⟩)
      · have hpw := wf_p hW w (by omega) (by omega)
        have hlbr := lb_rng hW (x := M 31) (i := p + 1) (more := mo) (w := w) (by omega) (by omega) ⟨hw.1, by show w < M 6 0; omega⟩ hx
        refine pw_iload3 C dX1_put_17 ?_
        refine pw_aload0 C dX1_put_18 ?_
        refine g_29_1 C fl_X1_15 dX1_put_19 ?_
        refine pw_top C _ (congrFun (hF5 29 (by decide)) _) ?_
        refine pw_icmp_ge (tgt := 71) C dX1_put_22 (by decide) (by omega) (by omega) (fun h22 => ?_) (fun h22 => ?_)
        · refine pw_iload3 C dX1_put_71 ?_
          exact pw_iretI C dX1_put_72 (⟨by exact ⟨w, by omega, hto, by omega, g⟩, by exact hk, by omega, (Sm_trans Sm_refl hF5 (by decide))⟩)
        · refine pw_aload0 C dX1_put_25 ?_
          refine g_29_5 C fl_X1_36 dX1_put_26 ?_
          refine g_6_3 C fl_X1_81 dX1_put_29 ?_
          refine pw_iload4 C dX1_put_32 ?_
          refine pw_iaload C lay_8 (by omega) (by decide) dX1_put_34 ?_
          refine pw_top C _ (congrFun (hF5 8 (by decide)) _) ?_
          refine pw_iconst C dX1_put_35 ?_
          refine pw_icmp_ne (tgt := 65) C dX1_put_36 (by decide) (by omega) (by omega) (fun h36 => ?_) (fun h36 => ?_)
          · refine pw_iinc4 C (by decide) dX1_put_65 ?_
            refine pw_goto (tgt := 5) C dX1_put_68 (by decide) ?_
            exact ih_5 _ _ _ (Sm_trans Sm_refl hF5 (by decide)) (by omega) (by rw [smW_s (by omega), ← hto]; first | rw [if_pos (by omega)] | rw [if_neg (by omega)]) (by
                  intro u q1 q2 q3 j z1 z2
                  first
                    | (by_cases e : u = w
                       · rw [e]; exact hnw j z1 z2
                       · rw [h1_49, hF5 6 (by decide), if_neg (by omega)]; exact g u q1 (by omega) q3 j z1 z2)
                    | exact g u q1 (by rcases Int.lt_or_eq_of_le (show u ≤ w by omega) with z | z; exact z; rw [z] at q3; omega) q3 j z1 z2) (by intro t ht; first | exact hk t ht | (rw [h1_49, hF5 6 (by decide), if_neg (by omega)]; exact hk t ht)) (by omega)
          · have hwl : ∀ j, 0 ≤ j → j ≤ M 6 1 → M1 32 (p * 64 + w * 8 + j) = edW (cf M) (M 31) w p j := fun j q1 q2 => by rw [hk _ (by omega)]; exact hln w (by omega) (by omega) (by omega) j q1 q2
            have hrg := edW_rng (c := cf M) hW (x := M 31) (n := p + 1) (w := w) ⟨hw.1, by show w < M 6 0; omega⟩ hx
            refine pw_aload0 C dX1_put_39 ?_
            refine pw_iload1 C dX1_put_40 ?_
            refine pw_aload0 C dX1_put_41 ?_
            refine g_29_6 C fl_X1_26 dX1_put_42 ?_
            refine pw_iload1 C dX1_put_45 ?_
            refine pw_iaload C lay_31 (by omega) (by decide) dX1_put_46 ?_
            refine pw_top C _ (congrFun (hF5 31 (by decide)) _) ?_
            refine pw_iload4 C dX1_put_47 ?_
            have nz49_6 : M1 6 = M 6 := (hF5 6 (by decide))
            refine pw_cVv3 C (c_X1_nextLine _ K _ _ _ _ (by rw [ecM1]; exact hW) (by first | omega | (simp only [nz49_6]; omega)) (by first | omega | (simp only [nz49_6]; omega)) (by first | omega | (simp only [nz49_6]; omega)) (by rw [hF5 6 (by decide)]; intro j q1 q2; rw [hwl j q1 q2]; have := hrg p (by omega) (by omega) j q1 q2; omega)) cb_X1_nextLine lay_29 kc_1 rfl ml_X1_44 dX1_put_49 (by decide) (Nat.le_of_ble_eq_true rfl) (fun M49 hQ => ?_)
            obtain ⟨h1_49, hF49⟩ := hQ
            have ec49 : cf M49 = cf M := by rw [← ecM1]; unfold cf; rw [hF49 1 (by decide), hF49 2 (by decide), hF49 6 (by decide), hF49 7 (by decide), hF49 8 (by decide), hF49 9 (by decide), hF49 10 (by decide), hF49 11 (by decide)]
            have hnw : ∀ j, 0 ≤ j → j ≤ M 6 1 → M49 32 ((p + 1) * 64 + w * 8 + j) = edW (cf M) (M 31) w (p + 1) j := fun j q1 q2 => by
              rw [h1_49, hF5 6 (by decide), if_pos (by omega), show (p + 1) * 64 + w * 8 + j - (p * 64 + w * 8 + 64) = j by omega, hF5 1 (by decide), hF5 2 (by decide), hF5 7 (by decide)]
              exact nl_ed (m := M 6 1) (by omega) ⟨q1, q2⟩ hwl (fun _ _ _ => rfl)
            refine pw_iload3 C dX1_put_52 ?_
            refine pw_aload0 C dX1_put_53 ?_
            refine pw_iload1 C dX1_put_54 ?_
            refine pw_iconst C dX1_put_55 ?_
            refine pw_iadd C dX1_put_56 ?_
            refine pw_iload4 C dX1_put_57 ?_
            refine pw_iload2 C dX1_put_59 ?_
            have nz60_6 : M49 6 = M 6 := ((hF49 6 (by decide)).trans (hF5 6 (by decide)))
            refine pw_cVi3 C (c_X1_leastEnd _ K _ _ _ _ (by rw [ec49]; exact hW) (by first | omega | (simp only [nz60_6]; omega)) (by first | omega | (simp only [nz60_6]; omega)) (by first | omega | (simp only [nz60_6]; omega)) (by rw [hF49 6 (by decide), hF5 6 (by decide)]; intro j q1 q2; rw [hnw j q1 q2]; have := hrg (p + 1) (by omega) (by omega) j q1 q2; omega)) cb_X1_leastEnd lay_29 kc_1 rfl ml_X1_116 dX1_put_60 (by decide) (Nat.le_of_ble_eq_true rfl) (fun r60 M60 hQ => ?_)
            obtain ⟨rfl, hMe⟩ := hQ
            replace hMe := hMe.symm
            subst hMe
            refine pw_top C (lbW (cf M) (M 31) (p + 1) mo w) (by rw [hF49 6 (by decide), hF49 1 (by decide), hF5 6 (by decide), hF5 1 (by decide)]; exact miT_congr (M 6 1 + 1) (by omega) (fun j q1 q2 => by show M49 32 ((p + 1) * 64 + w * 8 + j) + ab (M 6 1 - j - mo) * M 1 2 = edW (cf M) (M 31) w (p + 1) j + ab (M 6 1 - j - mo) * M 1 2; rw [hnw j q1 (by omega)])) ?_
            refine pw_iadd C dX1_put_63 ?_
            refine pw_istore3 C (by decide) dX1_put_64 ?_
            refine pw_iinc4 C (by decide) dX1_put_65 ?_
            refine pw_goto (tgt := 5) C dX1_put_68 (by decide) ?_
            exact ih_5 _ _ _ (Sm_trans (Sm_trans Sm_refl hF5 (by decide)) hF49 (by decide)) (by omega) (by rw [smW_s (by omega), ← hto]; first | rw [if_pos (by omega)] | rw [if_neg (by omega)]) (by
                  intro u q1 q2 q3 j z1 z2
                  first
                    | (by_cases e : u = w
                       · rw [e]; exact hnw j z1 z2
                       · rw [h1_49, hF5 6 (by decide), if_neg (by omega)]; exact g u q1 (by omega) q3 j z1 z2)
                    | exact g u q1 (by rcases Int.lt_or_eq_of_le (show u ≤ w by omega) with z | z; exact z; rw [z] at q3; omega) q3 j z1 z2) (by intro t ht; first | exact hk t ht | (rw [h1_49, hF5 6 (by decide), if_neg (by omega)]; exact hk t ht)) (by omega)
  exact cut_5 _ _ _ _ Sm_refl (by omega) (by rfl) (by intro u q1 q2; omega) (by intro t _; rfl) (Nat.lt_succ_self _)
