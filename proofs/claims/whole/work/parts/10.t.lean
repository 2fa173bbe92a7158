set_option maxHeartbeats 4000000 in
set_option maxRecDepth 100000 in
theorem c_X9_has (l : Launch) (K : KX) (M : Mem) (w : Int) (hw : -2147483648 ≤ w ∧ w ≤ 2147483647) (hs : 0 ≤ (M 6 0) ∧ (M 6 0) ≤ 8) : MCi l K LAY yX9_has cX9_has 2 (some .boolean) 1 [rV K 6, iV w] M (fun r M' => (r = if 0 ≤ w ∧ w < (M 6 0) then 1 else 0) ∧ M' = M) := by
  refine mci_intro RX9 rfl [some (rV K 6), some (iV w)] rfl (by decide +kernel) (cat_r (cat_i cat_nil)) (Nat.le_of_ble_eq_true rfl) (fun X hX C => ?_)
  subst hX
  refine pw_iload1 C dX9_has_0 ?_
  refine pw_if_lt (tgt := 16) C dX9_has_1 (by decide) (by omega) (fun h1 => ?_) (fun h1 => ?_)
  · refine pw_iconst C dX9_has_16 ?_
    exact pw_zretI C dX9_has_17 (by decide) (⟨by split <;> omega, rfl⟩)
  · refine pw_iload1 C dX9_has_4 ?_
    refine pw_aload0 C dX9_has_5 ?_
    refine g_6_0 C fl_X9_9 dX9_has_6 ?_
    refine pw_icmp_ge (tgt := 16) C dX9_has_9 (by decide) (by omega) (by omega) (fun h9 => ?_) (fun h9 => ?_)
    · refine pw_iconst C dX9_has_16 ?_
      exact pw_zretI C dX9_has_17 (by decide) (⟨by split <;> omega, rfl⟩)
    · refine pw_iconst C dX9_has_12 ?_
      refine pw_goto (tgt := 17) C dX9_has_13 (by decide) ?_
      exact pw_zretI C dX9_has_17 (by decide) (⟨by split <;> omega, rfl⟩)
set_option maxHeartbeats 4000000 in
set_option maxRecDepth 100000 in
theorem c_X3_rowsOf (l : Launch) (K : KX) (M : Mem) (n : Int) (hn : 0 ≤ n ∧ n ≤ 8) (hl : 2 ≤ (M 1 0) ∧ (M 1 0) ≤ 4) : MCi l K LAY yX3_rowsOf cX3_rowsOf 4 (some .int) 1 [rV K 1, iV n] M (fun r M' => (r = ((M 1 0)) ^ n.toNat) ∧ M' = M) := by
  refine mci_intro RX3 rfl [some (rV K 1), some (iV n), none, none] rfl (by decide +kernel) (cat_r (cat_i cat_nil)) (Nat.le_of_ble_eq_true rfl) (fun X hX C => ?_)
  subst hX
  refine pw_iconst C dX3_rowsOf_0 ?_
  refine pw_istore2 C (by decide) dX3_rowsOf_1 ?_
  refine pw_iconst C dX3_rowsOf_2 ?_
  refine pw_istore3 C (by decide) dX3_rowsOf_3 ?_
  have cut_4 : ∀ (fu : Nat) (v p : Int), (0 ≤ p ∧ p ≤ n) → (v = ((M 1 0)) ^ p.toNat) → (n - p).toNat < fu → PW X K LAY 4 (0, 0) (Zi X K LAY (fun r M' => (r = ((M 1 0)) ^ n.toNat) ∧ M' = M)) 4 [some (rV K 1), some (iV n), some (iV v), some (iV p)] [] M := by
    intro fu
    induction fu with
    | zero => intro _ _ _ _ hm; exact absurd hm (Nat.not_lt_zero _)
    | succ fu ih =>
      intro v p hp hv hm
      have ih_4 := ih
      have hm_4 := hm
      refine pw_iload3 C dX3_rowsOf_4 ?_
      refine pw_iload1 C dX3_rowsOf_5 ?_
      refine pw_icmp_ge (tgt := 22) C dX3_rowsOf_6 (by decide) (by omega) (by omega) (fun h6 => ?_) (fun h6 => ?_)
      · refine pw_iload2 C dX3_rowsOf_22 ?_
        exact pw_iretI C dX3_rowsOf_23 (⟨by rw [hv, show p = n by omega], rfl⟩)
      · refine pw_iload2 C dX3_rowsOf_9 ?_
        refine pw_aload0 C dX3_rowsOf_10 ?_
        refine g_1_0 C fl_X3_9 dX3_rowsOf_11 ?_
        refine pw_imul C dX3_rowsOf_14 ?_
        refine pw_istore2 C (by decide) dX3_rowsOf_15 ?_
        refine pw_iinc3 C (by decide) dX3_rowsOf_16 ?_
        refine pw_goto (tgt := 4) C dX3_rowsOf_19 (by decide) ?_
        exact ih_4 _ _ (by omega) (by rw [hv, show (p + 1).toNat = p.toNat + 1 by omega, Int.pow_succ]) (by omega)
  exact cut_4 _ _ _ (by omega) (by simp) (Nat.lt_succ_self _)
