def LnC (c : Cfg) (x l : Int → Int) (p : Int) : Prop := ∀ i, 0 ≤ i → i ≤ p → ∀ w, 0 ≤ w → w < kW c → kP c w = 1 → ∀ j, 0 ≤ j → j ≤ kL c → l (i * 64 + w * 8 + j) = edW c x w i j
theorem LnC_0 {c : Cfg} {x y l : Int → Int} (h : LnC c x l 0) : LnC c y l 0 := fun i q1 q2 w w1 w2 w3 j j1 j2 => by
  rw [h i q1 q2 w w1 w2 w3 j j1 j2, show i = 0 by omega]
  rfl
theorem LnC_x {c : Cfg} {x y l : Int → Int} {p : Int} (h : LnC c x l p) (hx : ∀ i, 0 ≤ i → i < p → x i = y i) : LnC c y l p := fun i q1 q2 w w1 w2 w3 j j1 j2 => by
  rw [h i q1 q2 w w1 w2 w3 j j1 j2]
  exact edW_congr (n := p) hx i q1 q2 j j1
theorem LnC_d {c : Cfg} {x l : Int → Int} {p q : Int} (h : LnC c x l p) (hq : q ≤ p) : LnC c x l q := fun i q1 q2 => h i q1 (by omega)
theorem me_found {c : Cfg} (hW : WfK c) {x : Int → Int} {n k : Int} (hn : 0 ≤ n ∧ n ≤ 8) (hx : ∀ i, 0 ≤ i → i < n → x i = dg (kN c) n k i) : smW (lbW c x n 0) (kP c) (kW c).toNat = meS c n k := by
  have hw := hW.2.2.2.2.2.1
  have hl := hW.2.2.2.2.2.2.1
  have h1 : smW (lbW c x n 0) (kP c) (kW c).toNat = meX c x n := smW_congr _ (fun w q1 q2 _ => lb_whole hW hn ⟨q1, by omega⟩ (fun t z1 z2 => by rw [hx t z1 z2]; exact dgc_rng hW))
  rw [h1]
  exact meX_congr hn.1 hl.1 hx
set_option maxHeartbeats 4000000 in
set_option maxRecDepth 100000 in
theorem c_X1_descend (l : Launch) (K : KX) (M : Mem) (pl n : Int) (k U : Int) (hW : WfK (cf M)) (hn : 1 ≤ n ∧ n ≤ 8) (hpl : 0 ≤ pl ∧ pl < n) (hk : 0 ≤ k ∧ k < M 1 0 ^ n.toNat) (hx : ∀ i, 0 ≤ i → i < n → M 31 i = dg (M 1 0) n k i) (hln : LnC (cf M) (M 31) (M 32) pl) (hU : 0 ≤ U ∧ U ≤ 5000) (hmi : MiC (cf M) U (M 29 1) (M 29 2) (M 30) n k) : MCi l K LAY yX1_descend cX1_descend 5 (some .int) 4 [rV K 29, iV pl, iV n] M (fun r M' => (0 ≤ r ∧ r < n) ∧ (LnC (cf M) (M 31) (M' 32) r) ∧ (MiC (cf M) U (M' 29 1) (M' 29 2) (M' 30) n (nxk (M 1 0) (M 31) n r)) ∧ (M' 29 0 = M 29 0) ∧ Sm [29, 30, 32] M M') := by
  refine mci_intro RX1 rfl [some (rV K 29), some (iV pl), some (iV n), none, none] rfl (by decide +kernel) (cat_r (cat_i (cat_i cat_nil))) (Nat.le_of_ble_eq_true rfl) (fun X hX C => ?_)
  subst hX
  have w_let := wf_let hW
  have w_sw := wf_sw hW
  have w_dr := wf_dr hW
  have w_w := wf_w hW
  have w_l := wf_l hW
  have w_l1 := wf_l1 hW
  have hxr : ∀ i, 0 ≤ i → i < n → 0 ≤ M 31 i ∧ M 31 i < M 1 0 := fun i q1 q2 => by rw [hx i q1 q2]; exact dg_rng (by omega)
  have hvl : vl (M 1 0) (M 31) n = k := by rw [vl_congr (n := n) hx n (by omega) (Int.le_refl _)]; exact dg_vl (by omega) n (by omega) k hk.1 hk.2
  have hsr := MiC_rng hW hU (by omega) (by omega) hmi
  refine pw_iload1 C dX1_descend_0 ?_
  refine pw_istore3 C (by decide) dX1_descend_1 ?_
  have cut_2 : ∀ (fu : Nat) (p : Int) (M1 : Mem), Sm [29, 30, 32] M M1 → (pl ≤ p ∧ p ≤ n) → ((p < n ∧ M1 29 = M 29 ∧ M1 30 = M 30) ∨ (p = n ∧ M1 29 0 = M 29 0 ∧ MiC (cf M) U (M1 29 1) (M1 29 2) (M1 30) n (k + 1))) → (LnC (cf M) (M 31) (M1 32) p) → (n - p).toNat < fu → PW X K LAY 5 (0, 0) (Zi X K LAY (fun r M' => (0 ≤ r ∧ r < n) ∧ (LnC (cf M) (M 31) (M' 32) r) ∧ (MiC (cf M) U (M' 29 1) (M' 29 2) (M' 30) n (nxk (M 1 0) (M 31) n r)) ∧ (M' 29 0 = M 29 0) ∧ Sm [29, 30, 32] M M')) 2 [some (rV K 29), some (iV pl), some (iV n), some (iV p), none] [] M1 := by
    intro fu
    induction fu with
    | zero => intro _ _ _ _ _ _ hm; exact absurd hm (Nat.not_lt_zero _)
    | succ fu ih =>
      intro p M1 hF2 hp hst g hm
      have ih_2 := ih
      have hm_2 := hm
      have ecM1 : cf M1 = cf M := by unfold cf; rw [hF2 1 (by decide), hF2 2 (by decide), hF2 6 (by decide), hF2 7 (by decide), hF2 8 (by decide), hF2 9 (by decide), hF2 10 (by decide), hF2 11 (by decide)]
      refine pw_iload3 C dX1_descend_2 ?_
      refine pw_iload2 C dX1_descend_3 ?_
      refine pw_icmp_ge (tgt := 68) C dX1_descend_4 (by decide) (by omega) (by omega) (fun h4 => ?_) (fun h4 => ?_)
      · refine pw_iload2 C dX1_descend_68 ?_
        refine pw_iconst C dX1_descend_69 ?_
        refine pw_isub C dX1_descend_70 ?_
        exact pw_iretI C dX1_descend_71 (⟨by omega, by exact LnC_d g (by omega), by
              rw [nxk_last hvl]
              exact hst.elim (fun h => absurd h.1 (by omega)) (fun h => h.2.2), by exact hst.elim (fun h => absurd h.1 (by omega)) (fun h => h.2.1), (Sm_trans Sm_refl hF2 (by decide))⟩)
      · have hs1 : M1 29 = M 29 ∧ M1 30 = M 30 := hst.elim (fun h => h.2) (fun h => absurd h.1 (by omega))
        refine pw_aload0 C dX1_descend_7 ?_
        refine pw_iload3 C dX1_descend_8 ?_
        refine pw_iload2 C dX1_descend_9 ?_
        refine pw_iload3 C dX1_descend_10 ?_
        refine pw_isub C dX1_descend_11 ?_
        refine pw_iconst C dX1_descend_12 ?_
        refine pw_isub C dX1_descend_13 ?_
        have nz14_6 : M1 6 = M 6 := (hF2 6 (by decide))
        have nz14_8 : M1 8 = M 8 := (hF2 8 (by decide))
        have nz14_31 : M1 31 = M 31 := (hF2 31 (by decide))
        refine pw_cVi2 C (c_X1_put _ K _ _ _ (by rw [ecM1]; exact hW) (by first | omega | (simp only [nz14_6, nz14_8, nz14_31]; omega)) (by first | omega | (simp only [nz14_6, nz14_8, nz14_31]; omega)) (by rw [hF2 31 (by decide)]; intro i q1 q2; have := hxr i q1 (by omega); omega) (by rw [hs1.1]; exact hsr) (by rw [ecM1, hF2 31 (by decide), hF2 6 (by decide), hF2 8 (by decide)]; exact g p (by omega) (Int.le_refl _))) cb_X1_put lay_29 kc_1 rfl ml_X1_107 dX1_descend_14 (by decide) (Nat.le_of_ble_eq_true rfl) (fun r14 M14 hQ => ?_)
        obtain ⟨h1_14, h2_14, hr_14, hF14⟩ := hQ
        rw [ecM1, hF2 31 (by decide), hF2 6 (by decide), hF2 8 (by decide), hs1.1] at h1_14
        refine pw_istore4 C (by decide) dX1_descend_17 ?_
        refine pw_iload4 C dX1_descend_19 ?_
        refine pw_aload0 C dX1_descend_21 ?_
        refine g_29_1 C fl_X1_15 dX1_descend_22 ?_
        refine pw_top C _ (congrFun (hF14 29 (by decide)) _) ?_
        refine pw_top C (M 29 1) (by rw [hs1.1]) ?_
        refine pw_icmp_lt (tgt := 30) C dX1_descend_25 (by decide) (by omega) (by omega) (fun h25 => ?_) (fun h25 => ?_)
        · obtain ⟨w0, hw0, hrr, hor, hnl⟩ := h1_14
          have hw1 : w0 = M 6 0 := by omega
          rw [hw1] at hrr hnl
          have g2 : LnC (cf M) (M 31) (M14 32) (p + 1) := fun i q1 q2 w w1 w2 w3 j j1 j2 => by
            have e1 : kW (cf M) = M 6 0 := rfl
            have e2 : kL (cf M) = M 6 1 := rfl
            by_cases e : i = p + 1
            · rw [e]; exact hnl w w1 w2 w3 j j1 j2
            · rw [h2_14 _ (by omega)]; exact g i q1 (by omega) w w1 w2 w3 j j1 j2
          refine pw_iload3 C dX1_descend_30 ?_
          refine pw_iload2 C dX1_descend_31 ?_
          refine pw_iconst C dX1_descend_32 ?_
          refine pw_isub C dX1_descend_33 ?_
          refine pw_icmp_ne (tgt := 62) C dX1_descend_34 (by decide) (by omega) (by omega) (fun h34 => ?_) (fun h34 => ?_)
          · refine pw_iinc3 C (by decide) dX1_descend_62 ?_
            refine pw_goto (tgt := 2) C dX1_descend_65 (by decide) ?_
            refine pw_fgt (fgt_k (fgt_k (fgt_k (fgt_k (fgt_no fgt_nil))))) ?_
            exact ih_2 _ _ (Sm_trans (Sm_trans Sm_refl hF2 (by decide)) hF14 (by decide)) (by omega) (by
                  first
                    | exact Or.inl ⟨by omega, (hF14 29 (by decide)).trans hs1.1, (hF14 30 (by decide)).trans hs1.2⟩
                    | (have e34 : p + 1 = n := by omega
                       refine Or.inr ⟨e34, by rw [hF59 29 (by decide), rd_ne (by decide), rd_ne (by decide), hF14 29 (by decide), hs1.1], ?_⟩
                       rw [hF59 29 (by decide), rd_eq, rd_ne (by decide), rd_eq]
                       have e8 : r14 = meS (cf M) n k := by
                         rw [hrr, e34, show n - p - 1 = 0 by omega]
                         exact me_found hW (by omega) hx
                       rw [e8]
                       refine MiC_new hmi hn.1 hk (by omega) (fun i q1 q2 => ?_)
                       rw [hA59 i, if_pos (by omega), rd_nc (by decide), rd_nc (by decide), hF14 31 (by decide), hF2 31 (by decide), show 0 + (i - 0) = i by omega]
                       exact hx i q1 q2)) (by first | exact g2 | (rw [hF59 32 (by decide), up2_ne (by decide), up2_ne (by decide)]; exact g2)) (by omega)
          · refine pw_aload0 C dX1_descend_37 ?_
            refine pw_iload4 C dX1_descend_38 ?_
            refine p_29_1 C fl_X1_15 dX1_descend_40 ?_
            refine pw_aload0 C dX1_descend_43 ?_
            refine pw_iload2 C dX1_descend_44 ?_
            refine p_29_2 C fl_X1_19 dX1_descend_45 ?_
            refine pw_aload0 C dX1_descend_48 ?_
            refine g_29_6 C fl_X1_26 dX1_descend_49 ?_
            refine pw_iconst C dX1_descend_52 ?_
            refine pw_aload0 C dX1_descend_53 ?_
            refine g_29_3 C fl_X1_22 dX1_descend_54 ?_
            refine pw_iconst C dX1_descend_57 ?_
            refine pw_iload2 C dX1_descend_58 ?_
            refine pw_acopy (d := 3) C lay_31 lay_30 (by decide) (by decide) (by omega) (by omega) (by omega) (by omega) (by omega) (Nat.le_of_ble_eq_true rfl) ml_X1_110 dX1_descend_59 (fun M59 hF59 hA59 => ?_)
            refine pw_iinc3 C (by decide) dX1_descend_62 ?_
            refine pw_goto (tgt := 2) C dX1_descend_65 (by decide) ?_
            refine pw_fgt (fgt_k (fgt_k (fgt_k (fgt_k (fgt_no fgt_nil))))) ?_
            exact ih_2 _ _ (Sm_trans (Sm_up (Sm_up (Sm_trans (Sm_trans Sm_refl hF2 (by decide)) hF14 (by decide)) (by decide)) (by decide)) hF59 (by decide)) (by omega) (by
                  first
                    | exact Or.inl ⟨by omega, (hF14 29 (by decide)).trans hs1.1, (hF14 30 (by decide)).trans hs1.2⟩
                    | (have e34 : p + 1 = n := by omega
                       refine Or.inr ⟨e34, by rw [hF59 29 (by decide), rd_ne (by decide), rd_ne (by decide), hF14 29 (by decide), hs1.1], ?_⟩
                       rw [hF59 29 (by decide), rd_eq, rd_ne (by decide), rd_eq]
                       have e8 : r14 = meS (cf M) n k := by
                         rw [hrr, e34, show n - p - 1 = 0 by omega]
                         exact me_found hW (by omega) hx
                       rw [e8]
                       refine MiC_new hmi hn.1 hk (by omega) (fun i q1 q2 => ?_)
                       rw [hA59 i, if_pos (by omega), rd_nc (by decide), rd_nc (by decide), hF14 31 (by decide), hF2 31 (by decide), show 0 + (i - 0) = i by omega]
                       exact hx i q1 q2)) (by first | exact g2 | (rw [hF59 32 (by decide), up2_ne (by decide), up2_ne (by decide)]; exact g2)) (by omega)
        · obtain ⟨w0, hw0, hrr, hor, hnl⟩ := h1_14
          refine pw_iload3 C dX1_descend_28 ?_
          exact pw_iretI C dX1_descend_29 (⟨by omega, by
                exact fun i q1 q2 w w1 w2 w3 j j1 j2 => by
                  have e1 : kW (cf M) = M 6 0 := rfl
                  have e2 : kL (cf M) = M 6 1 := rfl
                  rw [h2_14 _ (by omega)]; exact g i q1 q2 w w1 w2 w3 j j1 j2, by
                rw [hF14 29 (by decide), hF14 30 (by decide), hs1.1, hs1.2]
                have hgt := nxk_gt (N := M 1 0) (n := n) (k := k) (la := p) (x := M 31) (by omega) (by omega) hxr hvl
                refine MiC_skip hmi (by omega) (fun j q1 q2 q3 => ?_)
                have hbl := dg_block (N := M 1 0) (n := n) (k := j) (la := p) (x := M 31) (by omega) (by omega) hxr (by omega) q2
                have hls := lb_sum hW (x := M 31) (y := dg (M 1 0) n j) (i := p + 1) (n := n) (w0 := w0) (by omega) (by omega) hw0 (fun t _ _ => dgc_rng hW) (fun t z1 z2 => (hbl t z1 (by omega)).symm)
                rw [show n - (p + 1) = n - p - 1 by omega] at hls
                have e9 : meS (cf M) n j = meX (cf M) (dg (M 1 0) n j) n := rfl
                have e7 : smW (lbW (cf M) (M 31) (p + 1) (n - p - 1)) (M 8) w0.toNat ≤ meX (cf M) (dg (M 1 0) n j) n := hls
                rw [← hrr] at e7
                omega, by rw [hF14 29 (by decide), hs1.1], (Sm_trans (Sm_trans Sm_refl hF2 (by decide)) hF14 (by decide))⟩)
  exact cut_2 _ _ _ Sm_refl (by omega) (by exact Or.inl ⟨hpl.2, rfl, rfl⟩) (by exact hln) (Nat.lt_succ_self _)
theorem pw_n {N n : Int} (hN : 2 ≤ N ∧ N ≤ 4) (hn : n ≤ 8) : 0 < N ^ n.toNat ∧ N ^ n.toNat ≤ 65536 := by
  refine ⟨Int.pow_pos (by omega), ?_⟩
  obtain ⟨m, hm⟩ := Int.eq_ofNat_of_zero_le (show 0 ≤ N by omega)
  rw [hm]
  have h3 : m ^ n.toNat ≤ 4 ^ 8 := Nat.le_trans (Nat.pow_le_pow_left (show m ≤ 4 by omega) _) (Nat.pow_le_pow_right (by decide) (by omega))
  have h4 : ((m ^ n.toNat : Nat) : Int) ≤ ((4 ^ 8 : Nat) : Int) := by omega
  rw [Int.natCast_pow] at h4
  have h5 : ((4 ^ 8 : Nat) : Int) = 65536 := by decide
  omega
set_option maxHeartbeats 4000000 in
set_option maxRecDepth 100000 in
theorem c_X1_search (l : Launch) (K : KX) (M : Mem) (n : Int) (U : Int) (hW : WfK (cf M)) (hn : 1 ≤ n ∧ n ≤ 8) (hln : LnC (cf M) (M 31) (M 32) 0) (hU : 0 ≤ U ∧ U ≤ 5000) (hmi : MiC (cf M) U (M 29 1) (M 29 2) (M 30) n 0) : MCv l K LAY yX1_search cX1_search 5 none 5 [rV K 29, iV n] M (fun M' => (LnC (cf M) (M' 31) (M' 32) 0) ∧ (MiC (cf M) U (M' 29 1) (M' 29 2) (M' 30) (n + 1) 0) ∧ (M' 29 0 = M 29 0) ∧ Sm [29, 30, 31, 32] M M') := by
  refine mcv_intro RX1 rfl [some (rV K 29), some (iV n), none, none, none] rfl (by decide +kernel) (cat_r (cat_i cat_nil)) (Nat.le_of_ble_eq_true rfl) (fun X hX C => ?_)
  subst hX
  have w_let := wf_let hW
  have w_sw := wf_sw hW
  have w_dr := wf_dr hW
  have w_w := wf_w hW
  have w_l := wf_l hW
  have w_l1 := wf_l1 hW
  have hpn := pw_n w_let hn.2
  refine pw_iconst C dX1_search_0 ?_
  refine pw_istore2 C (by decide) dX1_search_1 ?_
  have cut_2 : ∀ (fu : Nat) (i : Int) (M1 : Mem), Sm [31] M M1 → (0 ≤ i ∧ i ≤ n) → (∀ t, 0 ≤ t → t < i → M1 31 t = 0) → (n - i).toNat < fu → PW X K LAY 5 (0, 0) (Zv X K LAY (fun M' => (LnC (cf M) (M' 31) (M' 32) 0) ∧ (MiC (cf M) U (M' 29 1) (M' 29 2) (M' 30) (n + 1) 0) ∧ (M' 29 0 = M 29 0) ∧ Sm [29, 30, 31, 32] M M')) 2 [some (rV K 29), some (iV n), some (iV i), none, none] [] M1 := by
    intro fu
    induction fu with
    | zero => intro _ _ _ _ _ hm; exact absurd hm (Nat.not_lt_zero _)
    | succ fu ih =>
      intro i M1 hF2 hi g hm
      have ih_2 := ih
      have hm_2 := hm
      refine pw_iload2 C dX1_search_2 ?_
      refine pw_iload1 C dX1_search_3 ?_
      refine pw_icmp_ge (tgt := 20) C dX1_search_4 (by decide) (by omega) (by omega) (fun h4 => ?_) (fun h4 => ?_)
      · refine pw_iconst C dX1_search_20 ?_
        refine pw_istore2 C (by decide) dX1_search_21 ?_
        refine pw_aload0 C dX1_search_22 ?_
        refine g_29_4 C fl_X1_32 dX1_search_23 ?_
        refine pw_iload1 C dX1_search_26 ?_
        have nz27_1 : M1 1 = M 1 := (hF2 1 (by decide))
        refine pw_cVi1 C (c_X3_rowsOf _ K _ _ (by first | omega | (simp only [nz27_1]; omega)) (by first | omega | (simp only [nz27_1]; omega))) cb_X3_rowsOf lay_1 kc_3 rfl ml_X1_97 dX1_search_27 (by decide) (Nat.le_of_ble_eq_true rfl) (fun r27 M27 hQ => ?_)
        obtain ⟨rfl, hMe⟩ := hQ
        replace hMe := hMe.symm
        subst hMe
        refine pw_istore3 C (by decide) dX1_search_30 ?_
        have cut_31 : ∀ (fu : Nat) (pl lf : Int) (M2 : Mem), Sm [29, 30, 31, 32] M M2 → (0 ≤ lf ∧ lf ≤ 65536) → (LnC (cf M) (M2 31) (M2 32) 0) → (M2 29 0 = M 29 0) → ((pl = -1 ∧ MiC (cf M) U (M2 29 1) (M2 29 2) (M2 30) n (M 1 0 ^ n.toNat)) ∨ ((0 ≤ pl ∧ pl < n) ∧ ∃ k, (0 ≤ k ∧ k < M 1 0 ^ n.toNat) ∧ (∀ i, 0 ≤ i → i < n → M2 31 i = dg (M 1 0) n k i) ∧ MiC (cf M) U (M2 29 1) (M2 29 2) (M2 30) n k ∧ LnC (cf M) (M2 31) (M2 32) pl ∧ M 1 0 ^ n.toNat ≤ lf + k)) → (lf).toNat < fu → PW X K LAY 5 (0, 0) (Zv X K LAY (fun M' => (LnC (cf M) (M' 31) (M' 32) 0) ∧ (MiC (cf M) U (M' 29 1) (M' 29 2) (M' 30) (n + 1) 0) ∧ (M' 29 0 = M 29 0) ∧ Sm [29, 30, 31, 32] M M')) 31 [some (rV K 29), some (iV n), some (iV pl), some (iV lf), none] [] M2 := by
          intro fu
          induction fu with
          | zero => intro _ _ _ _ _ _ _ _ hm; exact absurd hm (Nat.not_lt_zero _)
          | succ fu ih =>
            intro pl lf M2 hF31 hlf hl0 h00 hq hm
            have ih_31 := ih
            have hm_31 := hm
            have ecM2 : cf M2 = cf M := by unfold cf; rw [hF31 1 (by decide), hF31 2 (by decide), hF31 6 (by decide), hF31 7 (by decide), hF31 8 (by decide), hF31 9 (by decide), hF31 10 (by decide), hF31 11 (by decide)]
            have hplr : -1 ≤ pl ∧ pl < n := by rcases hq with q | q; omega; omega
            have e21 : M2 1 = M 1 := hF31 1 (by decide)
            refine pw_iload3 C dX1_search_31 ?_
            refine pw_if_le (tgt := 68) C dX1_search_32 (by decide) (by omega) (fun h32 => ?_) (fun h32 => ?_)
            · exact pw_vretV C dX1_search_68 (⟨by exact hl0, by
                    rcases hq with q | ⟨q, k, hk, q2, q3, q4, q5⟩
                    · exact MiC_next q.2
                    · omega, by exact h00, (Sm_trans Sm_refl hF31 (by decide))⟩)
            · refine pw_iload2 C dX1_search_35 ?_
              refine pw_if_lt (tgt := 68) C dX1_search_36 (by decide) (by omega) (fun h36 => ?_) (fun h36 => ?_)
              · exact pw_vretV C dX1_search_68 (⟨by exact hl0, by
                      rcases hq with q | ⟨q, k, hk, q2, q3, q4, q5⟩
                      · exact MiC_next q.2
                      · omega, by exact h00, (Sm_trans Sm_refl hF31 (by decide))⟩)
              · obtain ⟨hpl, k, hk, hxk, hmk, hlk, hlk2⟩ := hq.elim (fun h => absurd h.1 (by omega)) id
                refine pw_aload0 C dX1_search_39 ?_
                refine pw_iload2 C dX1_search_40 ?_
                refine pw_iload1 C dX1_search_41 ?_
                have nz42_1 : M2 1 = M 1 := (hF31 1 (by decide))
                refine pw_cVi2 C (c_X1_descend _ K _ _ _ (k) (U) (by rw [ecM2]; exact hW) (hn) (by omega) (by rw [e21]; exact hk) (by rw [e21]; exact hxk) (by rw [ecM2]; exact hlk) (hU) (by rw [ecM2]; exact hmk)) cb_X1_descend lay_29 kc_1 rfl ml_X1_100 dX1_search_42 (by decide) (Nat.le_of_ble_eq_true rfl) (fun r42 M42 hQ => ?_)
                obtain ⟨hr_42, hl_42, hm_42, h0_42, hF42⟩ := hQ
                rw [ecM2, e21] at hm_42
                rw [ecM2] at hl_42
                refine pw_istore4 C (by decide) dX1_search_45 ?_
                refine pw_aload0 C dX1_search_47 ?_
                refine g_29_4 C fl_X1_32 dX1_search_48 ?_
                refine pw_aload0 C dX1_search_51 ?_
                refine g_29_6 C fl_X1_26 dX1_search_52 ?_
                refine pw_iload4 C dX1_search_55 ?_
                refine pw_iload1 C dX1_search_57 ?_
                have nz58_1 : M42 1 = M 1 := ((hF42 1 (by decide)).trans (hF31 1 (by decide)))
                refine pw_cVi3 C (c_X3_advance _ K _ 31 _ _ _ (lay_31) (by decide) (by decide) (by omega) (by rw [hF42 1 (by decide), e21]; exact w_let) (by rw [hF42 1 (by decide), hF42 31 (by decide), e21]; intro i q1 q2; rw [hxk i q1 (by omega)]; exact dg_rng (by omega))) cb_X3_advance lay_1 kc_3 rfl ml_X1_103 dX1_search_58 (by decide) (Nat.le_of_ble_eq_true rfl) (fun r58 M58 hQ => ?_)
                obtain ⟨hp_58, hF58⟩ := hQ
                rw [hF42 1 (by decide), hF42 31 (by decide), e21] at hp_58
                have hav := adv_skip (N := M 1 0) (n := n) (k := k) (la := r42) (r := r58) (x := M2 31) (y := M58 31) (by omega) hr_42 hk hxk (hp_58.elim (fun h => Or.inl ⟨h.1, h.2.1⟩) Or.inr)
                have hgt := (nxk_gt (N := M 1 0) (n := n) (k := k) (la := r42) (x := M2 31) (by omega) hr_42 (fun i q1 q2 => by rw [hxk i q1 q2]; exact dg_rng (by omega)) (by rw [vl_congr (n := n) hxk n (by omega) (Int.le_refl _)]; exact dg_vl (by omega) n (by omega) k hk.1 hk.2)).1
                refine pw_istore2 C (by decide) dX1_search_61 ?_
                refine pw_iinc3 C (by decide) dX1_search_62 ?_
                refine pw_goto (tgt := 31) C dX1_search_65 (by decide) ?_
                refine pw_fgt (fgt_k (fgt_k (fgt_k (fgt_k (fgt_no fgt_nil))))) ?_
                exact ih_31 _ _ _ (Sm_trans (Sm_trans (Sm_trans Sm_refl hF31 (by decide)) hF42 (by decide)) hF58 (by decide)) (by omega) (by rw [hF58 32 (by decide)]; exact LnC_0 (LnC_d hl_42 (by omega))) (by rw [hF58 29 (by decide), h0_42]; exact h00) (by
                      rw [hF58 29 (by decide), hF58 30 (by decide), hF58 32 (by decide)]
                      rcases hav with q | q
                      · exact Or.inl ⟨q.1, by rw [← q.2]; exact hm_42⟩
                      · refine Or.inr ⟨by omega, nxk (M 1 0) (M2 31) n r42, ⟨by omega, q.2.1⟩, q.2.2.1, hm_42, ?_, by omega⟩
                        exact LnC_x (LnC_d hl_42 q.1.2) (fun i z1 z2 => (q.2.2.2 i z1 z2).symm)) (by omega)
        exact cut_31 _ _ _ _ (Sm_trans Sm_refl hF2 (by decide)) (by rw [hF2 1 (by decide)]; omega) (by rw [hF2 32 (by decide)]; exact LnC_0 hln) (by rw [hF2 29 (by decide)]) (by
              refine Or.inr ⟨by omega, 0, ⟨by omega, hpn.1⟩, fun t q1 q2 => ?_, ?_, ?_, ?_⟩
              · rw [g t q1 (by omega)]; exact dg_zero.symm
              · rw [hF2 29 (by decide), hF2 30 (by decide)]; exact hmi
              · rw [hF2 32 (by decide)]; exact LnC_0 hln
              · rw [hF2 1 (by decide)]; omega) (Nat.lt_succ_self _)
      · refine pw_aload0 C dX1_search_7 ?_
        refine g_29_6 C fl_X1_26 dX1_search_8 ?_
        refine pw_iload2 C dX1_search_11 ?_
        refine pw_iconst C dX1_search_12 ?_
        refine pw_iastore C lay_31 (by omega) (by decide) dX1_search_13 ?_
        refine pw_iinc2 C (by decide) dX1_search_14 ?_
        refine pw_goto (tgt := 2) C dX1_search_17 (by decide) ?_
        exact ih_2 _ _ (Sm_up (Sm_trans Sm_refl hF2 (by decide)) (by decide)) (by omega) (by
              intro t q1 q2
              rw [rd_if]
              by_cases e : t = i
              · rw [if_pos e]
              · rw [if_neg e]; exact g t q1 (by omega)) (by omega)
  exact cut_2 _ _ _ Sm_refl (by omega) (by intro t q1 q2; omega) (Nat.lt_succ_self _)
set_option maxHeartbeats 4000000 in
set_option maxRecDepth 100000 in
theorem c_X1_sumFrom (l : Launch) (K : KX) (M : Mem) (b : Int) (hW : WfK (cf M)) (hb : 0 ≤ b ∧ b < M 6 0) : MCi l K LAY yX1_sumFrom cX1_sumFrom 4 (some .int) 4 [rV K 29, iV b] M (fun r M' => (r = meX (cf M) (fun t => M 7 (b * 7 + t)) (M 6 1)) ∧ Sm [32] M M') := by
  refine mci_intro RX1 rfl [some (rV K 29), some (iV b), none, none] rfl (by decide +kernel) (cat_r (cat_i cat_nil)) (Nat.le_of_ble_eq_true rfl) (fun X hX C => ?_)
  subst hX
  have w_let := wf_let hW
  have w_sw := wf_sw hW
  have w_dr := wf_dr hW
  have w_w := wf_w hW
  have w_l := wf_l hW
  have w_l1 := wf_l1 hW
  have hxb : ∀ p, 0 ≤ p → p < M 6 1 → 0 ≤ M 7 (b * 7 + p) ∧ M 7 (b * 7 + p) ≤ 3 := fun p q1 q2 => by have := wf_wl hW b p hb.1 hb.2 q1 q2; omega
  refine pw_iconst C dX1_sumFrom_0 ?_
  refine pw_istore2 C (by decide) dX1_sumFrom_1 ?_
  refine pw_iconst C dX1_sumFrom_2 ?_
  refine pw_istore3 C (by decide) dX1_sumFrom_3 ?_
  have cut_4 : ∀ (fu : Nat) (to w : Int) (M1 : Mem), Sm [32] M M1 → (0 ≤ w ∧ w ≤ M 6 0) → (to = smW (fun w => edW (cf M) (fun t => M 7 (b * 7 + t)) w (M 6 1) (M 6 1)) (M 8) w.toNat) → (M 6 0 - w).toNat < fu → PW X K LAY 4 (0, 0) (Zi X K LAY (fun r M' => (r = meX (cf M) (fun t => M 7 (b * 7 + t)) (M 6 1)) ∧ Sm [32] M M')) 4 [some (rV K 29), some (iV b), some (iV to), some (iV w)] [] M1 := by
    intro fu
    induction fu with
    | zero => intro _ _ _ _ _ _ hm; exact absurd hm (Nat.not_lt_zero _)
    | succ fu ih =>
      intro to w M1 hF4 hw hto hm
      have ih_4 := ih
      have hm_4 := hm
      have ecM1 : cf M1 = cf M := by unfold cf; rw [hF4 1 (by decide), hF4 2 (by decide), hF4 6 (by decide), hF4 7 (by decide), hF4 8 (by decide), hF4 9 (by decide), hF4 10 (by decide), hF4 11 (by decide)]
      refine pw_iload3 C dX1_sumFrom_4 ?_
      refine pw_aload0 C dX1_sumFrom_5 ?_
      refine g_29_5 C fl_X1_36 dX1_sumFrom_6 ?_
      refine g_6_0 C fl_X1_74 dX1_sumFrom_9 ?_
      refine pw_top C _ (congrFun (hF4 6 (by decide)) _) ?_
      refine pw_icmp_ge (tgt := 64) C dX1_sumFrom_12 (by decide) (by omega) (by omega) (fun h12 => ?_) (fun h12 => ?_)
      · refine pw_iload2 C dX1_sumFrom_64 ?_
        exact pw_iretI C dX1_sumFrom_65 (⟨by rw [hto, show w = M 6 0 by omega]; rfl, (Sm_trans Sm_refl hF4 (by decide))⟩)
      · have hpw := wf_p hW w (by omega) (by omega)
        refine pw_aload0 C dX1_sumFrom_15 ?_
        refine g_29_5 C fl_X1_36 dX1_sumFrom_16 ?_
        refine g_6_3 C fl_X1_81 dX1_sumFrom_19 ?_
        refine pw_iload3 C dX1_sumFrom_22 ?_
        refine pw_iaload C lay_8 (by omega) (by decide) dX1_sumFrom_23 ?_
        refine pw_top C _ (congrFun (hF4 8 (by decide)) _) ?_
        refine pw_iconst C dX1_sumFrom_24 ?_
        refine pw_icmp_ne (tgt := 58) C dX1_sumFrom_25 (by decide) (by omega) (by omega) (fun h25 => ?_) (fun h25 => ?_)
        · refine pw_iinc3 C (by decide) dX1_sumFrom_58 ?_
          refine pw_goto (tgt := 4) C dX1_sumFrom_61 (by decide) ?_
          exact ih_4 _ _ _ (Sm_trans Sm_refl hF4 (by decide)) (by omega) (by rw [smW_s (by omega), ← hto]; first | (rw [if_pos (by omega), ← h1_53]) | rw [if_neg (by omega)]) (by omega)
        · refine pw_iload2 C dX1_sumFrom_28 ?_
          refine pw_aload0 C dX1_sumFrom_29 ?_
          refine pw_aload0 C dX1_sumFrom_30 ?_
          refine g_29_5 C fl_X1_36 dX1_sumFrom_31 ?_
          refine g_6_2 C fl_X1_63 dX1_sumFrom_34 ?_
          refine pw_aload0 C dX1_sumFrom_37 ?_
          refine g_29_5 C fl_X1_36 dX1_sumFrom_38 ?_
          refine pw_iload1 C dX1_sumFrom_41 ?_
          refine pw_cVi1 C (c_X9_start _ K _ _) cb_X9_start lay_6 kc_9 rfl ml_X1_56 dX1_sumFrom_42 (by decide) (Nat.le_of_ble_eq_true rfl) (fun r42 M42 hQ => ?_)
          obtain ⟨rfl, hMe⟩ := hQ
          replace hMe := hMe.symm
          subst hMe
          refine pw_aload0 C dX1_sumFrom_45 ?_
          refine g_29_5 C fl_X1_36 dX1_sumFrom_46 ?_
          refine g_6_1 C fl_X1_48 dX1_sumFrom_49 ?_
          refine pw_top C _ (congrFun (hF4 6 (by decide)) _) ?_
          refine pw_iload3 C dX1_sumFrom_52 ?_
          have nz53_6 : M1 6 = M 6 := (hF4 6 (by decide))
          refine pw_cVi4 C (c_X1_editing _ K _ 7 _ _ _ _ (by rw [ecM1]; exact hW) (lay_7) (by decide) (by decide) (by first | omega | (simp only [nz53_6]; omega)) (by first | omega | (simp only [nz53_6]; omega)) (by rw [hF4 7 (by decide)]; exact hxb) (by first | omega | (simp only [nz53_6]; omega))) cb_X1_editing lay_29 kc_1 rfl ml_X1_93 dX1_sumFrom_53 (by decide) (Nat.le_of_ble_eq_true rfl) (fun r53 M53 hQ => ?_)
          obtain ⟨h1_53, hF53⟩ := hQ
          rw [ecM1, hF4 7 (by decide), hF4 6 (by decide)] at h1_53
          refine pw_iadd C dX1_sumFrom_56 ?_
          refine pw_istore2 C (by decide) dX1_sumFrom_57 ?_
          refine pw_iinc3 C (by decide) dX1_sumFrom_58 ?_
          refine pw_goto (tgt := 4) C dX1_sumFrom_61 (by decide) ?_
          exact ih_4 _ _ _ (Sm_trans (Sm_trans Sm_refl hF4 (by decide)) hF53 (by decide)) (by omega) (by rw [smW_s (by omega), ← hto]; first | (rw [if_pos (by omega), ← h1_53]) | rw [if_neg (by omega)]) (by omega)
  exact cut_4 _ _ _ _ Sm_refl (by omega) (by rfl) (Nat.lt_succ_self _)
set_option maxHeartbeats 4000000 in
set_option maxRecDepth 100000 in
theorem c_X1_leastOfNear (l : Launch) (K : KX) (M : Mem) (hW : WfK (cf M)) (hnb : nrB (cf M) ≠ 0) : MCi l K LAY yX1_leastOfNear cX1_leastOfNear 3 (some .int) 5 [rV K 29] M (fun r M' => (∃ b, (0 ≤ b ∧ b < M 6 0) ∧ r = meX (cf M) (fun t => M 7 (b * 7 + t)) (M 6 1)) ∧ (0 ≤ r ∧ r ≤ 1080) ∧ Sm [32] M M') := by
  refine mci_intro RX1 rfl [some (rV K 29), none, none] rfl (by decide +kernel) (cat_r cat_nil) (Nat.le_of_ble_eq_true rfl) (fun X hX C => ?_)
  subst hX
  have w_let := wf_let hW
  have w_sw := wf_sw hW
  have w_dr := wf_dr hW
  have w_w := wf_w hW
  have w_l := wf_l hW
  have w_l1 := wf_l1 hW
  refine pw_ldc C (z := 2147483646) (by decide) ct_X1_80 dX1_leastOfNear_0 ?_
  refine pw_istore1 C (by decide) dX1_leastOfNear_2 ?_
  refine pw_iconst C dX1_leastOfNear_3 ?_
  refine pw_istore2 C (by decide) dX1_leastOfNear_4 ?_
  have cut_5 : ∀ (fu : Nat) (le w : Int) (M1 : Mem), Sm [32] M M1 → (0 ≤ w ∧ w ≤ M 6 0) → ((le = 2147483646 ∧ ∀ u, 0 ≤ u → u < w → M 8 u ≠ 1) ∨ ((∃ b, (0 ≤ b ∧ b < M 6 0) ∧ le = meX (cf M) (fun t => M 7 (b * 7 + t)) (M 6 1)) ∧ 0 ≤ le ∧ le ≤ 1080)) → (M 6 0 - w).toNat < fu → PW X K LAY 3 (0, 0) (Zi X K LAY (fun r M' => (∃ b, (0 ≤ b ∧ b < M 6 0) ∧ r = meX (cf M) (fun t => M 7 (b * 7 + t)) (M 6 1)) ∧ (0 ≤ r ∧ r ≤ 1080) ∧ Sm [32] M M')) 5 [some (rV K 29), some (iV le), some (iV w)] [] M1 := by
    intro fu
    induction fu with
    | zero => intro _ _ _ _ _ _ hm; exact absurd hm (Nat.not_lt_zero _)
    | succ fu ih =>
      intro le w M1 hF5 hw hle hm
      have ih_5 := ih
      have hm_5 := hm
      have ecM1 : cf M1 = cf M := by unfold cf; rw [hF5 1 (by decide), hF5 2 (by decide), hF5 6 (by decide), hF5 7 (by decide), hF5 8 (by decide), hF5 9 (by decide), hF5 10 (by decide), hF5 11 (by decide)]
      have hlr : 0 ≤ le ∧ le ≤ 2147483646 := by rcases hle with q | q; omega; omega
      refine pw_iload2 C dX1_leastOfNear_5 ?_
      refine pw_aload0 C dX1_leastOfNear_6 ?_
      refine g_29_5 C fl_X1_36 dX1_leastOfNear_7 ?_
      refine g_6_0 C fl_X1_74 dX1_leastOfNear_10 ?_
      refine pw_top C _ (congrFun (hF5 6 (by decide)) _) ?_
      refine pw_icmp_ge (tgt := 45) C dX1_leastOfNear_13 (by decide) (by omega) (by omega) (fun h13 => ?_) (fun h13 => ?_)
      · refine pw_iload1 C dX1_leastOfNear_45 ?_
        exact pw_iretI C dX1_leastOfNear_46 (⟨by
              rcases hle with q | q
              · exfalso
                obtain ⟨w2, z1, z2, z3⟩ : ∃ w2, 0 ≤ w2 ∧ w2 < M 6 0 ∧ M 8 w2 = 1 := by
                  have hz : mny (M 8) 1 (M 6 0) ≠ 0 := fun h => hnb ((many_nz hW).mp h)
                  have hr := mny_rng (p := M 8) (v := 1) (M 6 0) w_w.1
                  obtain ⟨w2, a, b, d, -⟩ := mny_sur (p := M 8) (v := 1) (t := 0) (M 6 0) w_w.1 (by omega) (by omega)
                  exact ⟨w2, a, b, d⟩
                exact q.2 w2 z1 (by omega) z3
              · exact q.1, by
              rcases hle with q | q
              · exfalso
                obtain ⟨w2, z1, z2, z3⟩ : ∃ w2, 0 ≤ w2 ∧ w2 < M 6 0 ∧ M 8 w2 = 1 := by
                  have hz : mny (M 8) 1 (M 6 0) ≠ 0 := fun h => hnb ((many_nz hW).mp h)
                  have hr := mny_rng (p := M 8) (v := 1) (M 6 0) w_w.1
                  obtain ⟨w2, a, b, d, -⟩ := mny_sur (p := M 8) (v := 1) (t := 0) (M 6 0) w_w.1 (by omega) (by omega)
                  exact ⟨w2, a, b, d⟩
                exact q.2 w2 z1 (by omega) z3
              · exact q.2, (Sm_trans Sm_refl hF5 (by decide))⟩)
      · have hpw := wf_p hW w (by omega) (by omega)
        refine pw_aload0 C dX1_leastOfNear_16 ?_
        refine g_29_5 C fl_X1_36 dX1_leastOfNear_17 ?_
        refine g_6_3 C fl_X1_81 dX1_leastOfNear_20 ?_
        refine pw_iload2 C dX1_leastOfNear_23 ?_
        refine pw_iaload C lay_8 (by omega) (by decide) dX1_leastOfNear_24 ?_
        refine pw_top C _ (congrFun (hF5 8 (by decide)) _) ?_
        refine pw_iconst C dX1_leastOfNear_25 ?_
        refine pw_icmp_ne (tgt := 39) C dX1_leastOfNear_26 (by decide) (by omega) (by omega) (fun h26 => ?_) (fun h26 => ?_)
        · refine pw_iinc2 C (by decide) dX1_leastOfNear_39 ?_
          refine pw_goto (tgt := 5) C dX1_leastOfNear_42 (by decide) ?_
          exact ih_5 _ _ _ (Sm_trans Sm_refl hF5 (by decide)) (by omega) (by
                first
                  | (rcases hle with q | q
                     · exact Or.inl ⟨q.1, fun u q1 q2 => by rcases Int.lt_or_eq_of_le (show u ≤ w by omega) with z | z; exact q.2 u q1 z; rw [z]; omega⟩
                     · exact Or.inr q)
                  | (right
                     split
                     · rcases hle with q | q
                       · omega
                       · exact q
                     · exact ⟨⟨w, by omega, h1_32⟩, hmr⟩)) (by omega)
        · refine pw_iload1 C dX1_leastOfNear_29 ?_
          refine pw_aload0 C dX1_leastOfNear_30 ?_
          refine pw_iload2 C dX1_leastOfNear_31 ?_
          have nz32_6 : M1 6 = M 6 := (hF5 6 (by decide))
          refine pw_cVi1 C (c_X1_sumFrom _ K _ _ (by rw [ecM1]; exact hW) (by first | omega | (simp only [nz32_6]; omega))) cb_X1_sumFrom lay_29 kc_1 rfl ml_X1_84 dX1_leastOfNear_32 (by decide) (Nat.le_of_ble_eq_true rfl) (fun r32 M32 hQ => ?_)
          obtain ⟨h1_32, hF32⟩ := hQ
          rw [ecM1, hF5 7 (by decide), hF5 6 (by decide)] at h1_32
          have hmr := meX_rng hW (x := fun t => M 7 (w * 7 + t)) (n := M 6 1) (by omega) (fun t q1 q2 => by have := wf_wl hW w t hw.1 (by omega) q1 q2; show 0 ≤ M 7 (w * 7 + t) ∧ M 7 (w * 7 + t) ≤ 3; omega)
          rw [← h1_32] at hmr
          refine pw_mmin C (by omega) (by omega) (Nat.le_of_ble_eq_true rfl) ml_X1_87 dX1_leastOfNear_35 ?_
          refine pw_istore1 C (by decide) dX1_leastOfNear_38 ?_
          refine pw_iinc2 C (by decide) dX1_leastOfNear_39 ?_
          refine pw_goto (tgt := 5) C dX1_leastOfNear_42 (by decide) ?_
          exact ih_5 _ _ _ (Sm_trans (Sm_trans Sm_refl hF5 (by decide)) hF32 (by decide)) (by omega) (by
                first
                  | (rcases hle with q | q
                     · exact Or.inl ⟨q.1, fun u q1 q2 => by rcases Int.lt_or_eq_of_le (show u ≤ w by omega) with z | z; exact q.2 u q1 z; rw [z]; omega⟩
                     · exact Or.inr q)
                  | (right
                     split
                     · rcases hle with q | q
                       · omega
                       · exact q
                     · exact ⟨⟨w, by omega, h1_32⟩, hmr⟩)) (by omega)
  exact cut_5 _ _ _ _ Sm_refl (by omega) (by exact Or.inl ⟨rfl, fun u q1 q2 => by omega⟩) (Nat.lt_succ_self _)
