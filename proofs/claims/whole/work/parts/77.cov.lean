set_option maxHeartbeats 4000000 in
set_option maxRecDepth 100000 in
theorem c_X4_partOnce (l : Launch) (K : KX) (M : Mem) (s : Int) (hs : 0 < s ∧ s < 256) (hky : (∀ S, 0 ≤ S → S < 256 → 0 ≤ M 26 S ∧ M 26 S ≤ 2147483647)) (hpr : (∀ S, 0 ≤ S → S < 256 → 0 ≤ M 27 S ∧ M 27 S ≤ 131071)) : MCv l K LAY yX4_partOnce cX4_partOnce 5 none 2 [rV K 24, iV s] M (fun M' => (∀ T, T ≠ s → M' 27 T = M 27 T) ∧ (∃ p : Nat, s.toNat.testBit p = true ∧ ∀ r, M' 27 s ≤ r ↔ PtS (M 26) (M 27) s p 0 r) ∧ (0 ≤ M' 27 s ∧ M' 27 s ≤ 131071) ∧ Sm [27] M M') := by
  refine mcv_intro RX4 rfl [some (rV K 24), some (iV s), none, none, none] rfl (by decide +kernel) (cat_r (cat_i cat_nil)) (Nat.le_of_ble_eq_true rfl) (fun X hX C => ?_)
  subst hX
  obtain ⟨p, p1, p2, p3⟩ := b_low hs
  refine pw_iload1 C dX4_partOnce_0 ?_
  refine pw_iload1 C dX4_partOnce_1 ?_
  refine pw_ineg C dX4_partOnce_2 ?_
  refine pw_iand C (1 * 2 ^ (p : Int).toNat) (p3) dX4_partOnce_3 ?_
  refine pw_istore2 C (by decide) dX4_partOnce_4 ?_
  refine pw_iload1 C dX4_partOnce_5 ?_
  refine pw_istore3 C (by decide) dX4_partOnce_6 ?_
  have cut_7 : ∀ (fu : Nat) (a : Int) (M1 : Mem), Sm [27] M M1 → (0 ≤ a ∧ a < 256) → (sub2 a s) → (∀ T, T ≠ s → M1 27 T = M 27 T) → (∀ r, M1 27 s ≤ r ↔ PtS (M 26) (M 27) s p a r) → (0 ≤ M1 27 s ∧ M1 27 s ≤ 131071) → (a).toNat < fu → PW X K LAY 5 (0, 0) (Zv X K LAY (fun M' => (∀ T, T ≠ s → M' 27 T = M 27 T) ∧ (∃ p : Nat, s.toNat.testBit p = true ∧ ∀ r, M' 27 s ≤ r ↔ PtS (M 26) (M 27) s p 0 r) ∧ (0 ≤ M' 27 s ∧ M' 27 s ≤ 131071) ∧ Sm [27] M M')) 7 [some (rV K 24), some (iV s), some (iV (1 * 2 ^ (p : Int).toNat)), some (iV a), none] [] M1 := by
    intro fu
    induction fu with
    | zero => intro _ _ _ _ _ _ _ _ hm; exact absurd hm (Nat.not_lt_zero _)
    | succ fu ih =>
      intro a M1 hF7 ha hsb g1 g2 g3 hm
      have ih_7 := ih
      have hm_7 := hm
      refine pw_iload3 C dX4_partOnce_7 ?_
      refine pw_if_le (tgt := 68) C dX4_partOnce_8 (by decide) (by omega) (fun h8 => ?_) (fun h8 => ?_)
      · exact pw_vretV C dX4_partOnce_68 (⟨by exact g1, by refine ⟨p, p2, fun r => ?_⟩; rw [show (0 : Int) = a by omega]; exact g2 r, by exact g3, (Sm_trans Sm_refl hF7 (by decide))⟩)
      · have hz : (0 : Int) ≤ ((a.toNat &&& (1 * 2 ^ (p : Int).toNat : Int).toNat : Nat) : Int) ∧ ((a.toNat &&& (1 * 2 ^ (p : Int).toNat : Int).toNat : Nat) : Int) ≤ 255 := by
          have h5 : a.toNat &&& (1 * 2 ^ (p : Int).toNat : Int).toNat ≤ a.toNat := Nat.and_le_left
          omega
        have hx := xr_ok (s := s) (a := a) (by omega) (by omega) hsb
        have hka := hky a (by omega) (by omega)
        have hpx := hpr (xr s a) hx.1 hx.2.1
        have hmx := mx2_rng (a := M 26 a / 16384) (b := M 27 (xr s a)) (by omega) hpx
        have hnx := nxs_ok (i := a) (s := s) (by omega) (by omega) hsb
        have cut_59 : ∀  (M2 : Mem), Sm [27] M M2 → (∀ T, T ≠ s → M2 27 T = M 27 T) → (∀ r, M2 27 s ≤ r ↔ PtS (M 26) (M 27) s p (a - 1) r) → (0 ≤ M2 27 s ∧ M2 27 s ≤ 131071) → PW X K LAY 5 (0, 0) (Zv X K LAY (fun M' => (∀ T, T ≠ s → M' 27 T = M 27 T) ∧ (∃ p : Nat, s.toNat.testBit p = true ∧ ∀ r, M' 27 s ≤ r ↔ PtS (M 26) (M 27) s p 0 r) ∧ (0 ≤ M' 27 s ∧ M' 27 s ≤ 131071) ∧ Sm [27] M M')) 59 [some (rV K 24), some (iV s), some (iV (1 * 2 ^ (p : Int).toNat)), some (iV a), none] [] M2 := by
          intro M2 hF59 d1 d2 d3
          refine pw_iload3 C dX4_partOnce_59 ?_
          refine pw_iconst C dX4_partOnce_60 ?_
          refine pw_isub C dX4_partOnce_61 ?_
          refine pw_iload1 C dX4_partOnce_62 ?_
          refine pw_iand C (nxs a s) (by unfold nxs; exact b_and (by omega) (by omega)) dX4_partOnce_63 ?_
          refine pw_istore3 C (by decide) dX4_partOnce_64 ?_
          refine pw_goto (tgt := 7) C dX4_partOnce_65 (by decide) ?_
          exact ih_7 _ _ (Sm_trans Sm_refl hF59 (by decide)) (by omega) (by exact hnx.2.2.1) (by exact d1) (by intro r; rw [d2 r]; exact (PtS_nx (by omega) (by omega) hsb).symm) (by exact d3) (by omega)
        refine pw_iload3 C dX4_partOnce_11 ?_
        refine pw_iload2 C dX4_partOnce_12 ?_
        refine pw_iand C (((a.toNat &&& (1 * 2 ^ (p : Int).toNat : Int).toNat : Nat) : Int)) (b_and (by omega) (by rw [Int.one_mul]; exact Int.le_of_lt (Int.pow_pos (by decide)))) dX4_partOnce_13 ?_
        refine pw_if_eq (tgt := 59) C dX4_partOnce_14 (by decide) (by omega) (fun h14 => ?_) (fun h14 => ?_)
        · have hb : a.toNat.testBit p = false := by have := (and_p2 (a := a) (w := (p : Int)) (by omega) (by omega)).mp h14; rw [Int.toNat_natCast] at this; exact this
          exact cut_59 _ (Sm_trans Sm_refl hF7 (by decide)) (by exact g1) (by intro r; rw [g2 r]; exact (PtS_out hb).symm) (by exact g3)
        · have hb : a.toNat.testBit p = true := by
            cases e : a.toNat.testBit p with
            | true => rfl
            | false => exact absurd ((and_p2 (a := a) (w := (p : Int)) (by omega) (by omega)).mpr (by rw [Int.toNat_natCast]; exact e)) h14
          refine pw_aload0 C dX4_partOnce_17 ?_
          refine pw_aload0 C dX4_partOnce_18 ?_
          refine g_24_3 C fl_X4_19 dX4_partOnce_19 ?_
          refine pw_iload3 C dX4_partOnce_22 ?_
          refine pw_iaload C lay_26 (by omega) (by decide) dX4_partOnce_23 ?_
          refine pw_top C _ (congrFun (hF7 26 (by decide)) _) ?_
          refine pw_cVi1 C (c_X4_reachOf _ K _ _ (hka)) cb_X4_reachOf lay_24 kc_4 rfl ml_X4_109 dX4_partOnce_24 (by decide) (Nat.le_of_ble_eq_true rfl) (fun r24 M24 hQ => ?_)
          obtain ⟨rfl, hMe⟩ := hQ
          replace hMe := hMe.symm
          subst hMe
          refine pw_aload0 C dX4_partOnce_27 ?_
          refine g_24_4 C fl_X4_22 dX4_partOnce_28 ?_
          refine pw_iload1 C dX4_partOnce_31 ?_
          refine pw_iload3 C dX4_partOnce_32 ?_
          refine pw_ixor C (xr s a) (by unfold xr; exact b_xor (by omega) (by omega)) dX4_partOnce_33 ?_
          refine pw_iaload C lay_27 (by omega) (by decide) dX4_partOnce_34 ?_
          refine pw_top C (M 27 (xr s a)) (g1 _ hx.2.2.1) ?_
          refine pw_mmax C (by omega) (by omega) (Nat.le_of_ble_eq_true rfl) ml_X4_115 dX4_partOnce_35 ?_
          refine pw_top C (mx2 (M 26 a / 16384) (M 27 (xr s a))) rfl ?_
          refine pw_istore4 C (by decide) dX4_partOnce_38 ?_
          refine pw_iload4 C dX4_partOnce_40 ?_
          refine pw_aload0 C dX4_partOnce_42 ?_
          refine g_24_4 C fl_X4_22 dX4_partOnce_43 ?_
          refine pw_iload1 C dX4_partOnce_46 ?_
          refine pw_iaload C lay_27 (by omega) (by decide) dX4_partOnce_47 ?_
          refine pw_icmp_ge (tgt := 59) C dX4_partOnce_48 (by decide) (by omega) (by omega) (fun h48 => ?_) (fun h48 => ?_)
          · refine pw_fgt (fgt_k (fgt_k (fgt_k (fgt_k (fgt_no fgt_nil))))) ?_
            exact cut_59 _ (Sm_trans Sm_refl hF7 (by decide)) (by exact g1) (by exact PtS_st (by omega) hsb hb g2 (Or.inl ⟨rfl, h48⟩)) (by exact g3)
          · refine pw_aload0 C dX4_partOnce_51 ?_
            refine g_24_4 C fl_X4_22 dX4_partOnce_52 ?_
            refine pw_iload1 C dX4_partOnce_55 ?_
            refine pw_iload4 C dX4_partOnce_56 ?_
            refine pw_iastore C lay_27 (by omega) (by decide) dX4_partOnce_58 ?_
            refine pw_fgt (fgt_k (fgt_k (fgt_k (fgt_k (fgt_no fgt_nil))))) ?_
            exact cut_59 _ (Sm_up (Sm_trans Sm_refl hF7 (by decide)) (by decide)) (by intro T q; rw [rd_ne q]; exact g1 T q) (by rw [rd_eq]; exact PtS_st (by omega) hsb hb g2 (Or.inr ⟨rfl, by omega⟩)) (by rw [rd_eq]; exact hmx)
  exact cut_7 _ _ _ Sm_refl (by omega) (by exact sub2_rf s) (by intro T _; rfl) (by intro r; exact (PtS_top (by omega)).symm) (by exact hpr s (by omega) (by omega)) (Nat.lt_succ_self _)
