/-! the law's loop -/
theorem pw_wide {X : CX} {K : KX} {lay : List PD} {nL : Nat} {cs : Nat × Nat} (cs1 : Nat × Nat) {Z : State → Prop} {pc : Nat} {st : List Value} {M : Mem} {L : List (Option Value)} (h1 : cs.1 ≤ cs1.1) (h2 : cs.2 ≤ cs1.2) (k : PW X K lay nL cs1 Z pc L st M) : PW X K lay nL cs Z pc L st M := by
  obtain ⟨p, l, e, R, s, m, args, below, meth, c0, A⟩ := X
  intro H locs ls hP hS hl
  exact W.widen (k := cs1.1) (n := cs1.2) h1 h2 (k H locs ls hP hS hl)
def csI (i : Int) : Nat × Nat := (1000 + i.toNat, 200000 + 6 * i.toNat)
theorem csI_1 {i : Int} (h : 0 ≤ i) : (csI i).1 + 1 ≤ (csI (i + 6)).1 ∧ (csI i).2 + 6 ≤ (csI (i + 6)).2 := by
  unfold csI
  dsimp only
  omega
set_option maxHeartbeats 4000000 in
theorem law_loop {X : CX} {K : KX} {Z : State → Prop} {b n : Nat} {xs : Nat → Int32} (hl : (lOf X).stackTraces = false) (C : CXok X K LAY cL_law RL 7 (some .boolean) 100) (hT : TXX X) (hX : SCR X b n xs) (hn : n ≤ 3072) (hR : 601024 ≤ X.2.2.2.1.cells ∧ 7293034 ≤ X.2.2.2.1.slots) (hend : ∀ (i : Int) (M : Mem), 0 ≤ i → i ≤ (n : Int) → PW X K LAY 7 (csI i) Z 1180 [some (Value.ref b), some (rV K 0), some (rV K 43), some (rV K 60), some (iV i), none, none] [] M) :
    ∀ (fu : Nat) (i : Int) (M : Mem), 0 ≤ i → i ≤ (n : Int) → Inv M → ((n : Int) - i).toNat < fu → PW X K LAY 7 (csI i) Z 23 [some (Value.ref b), some (rV K 0), some (rV K 43), some (rV K 60), some (iV i), none, none] [] M := by
  intro fu
  induction fu with
  | zero => intro i M _ _ _ h; exact absurd h (Nat.not_lt_zero _)
  | succ fu ih =>
    intro i M h0 h1 hI hm
    refine pw_iload4 C dL_law_23 ?_
    refine pw_sa0 C dL_law_25 ?_
    refine pw_slen C hX dL_law_26 ?_
    refine pw_bipush C dL_law_27 (by decide) ?_
    refine pw_isub C dL_law_29 ?_
    refine pw_icmp_gt (tgt := 1180) C dL_law_30 (by decide) (by omega) (by omega) (fun h30 => hend i M h0 h1) (fun h30 => ?_)
    have hi : 0 ≤ i ∧ i + 6 ≤ (n : Int) := by omega
    have hn2 : n < 2147483648 := by omega
    have hcs : (csI i).1 ≤ X.2.2.2.1.cells ∧ (csI i).2 ≤ X.2.2.2.1.slots := by unfold csI; dsimp only; omega
    have hcs1 : (csI i).1 + 1 ≤ X.2.2.2.1.cells ∧ (csI i).2 + 6 ≤ X.2.2.2.1.slots := by unfold csI; dsimp only; omega
    have hw := csI_1 h0
    have hk : ∀ M9, Inv M9 → PW X K LAY 7 (csI (i + 6)) Z 1174 [some (Value.ref b), some (rV K 0), some (rV K 43), some (rV K 60), some (iV i), none, none] [] M9 := by
      intro M9 h9
      refine pw_iinc4 C (by decide) dL_law_1174 ?_
      refine pw_goto (tgt := 23) C dL_law_1177 (by decide) ?_
      exact ih (i + 6) M9 (by omega) (by omega) h9 (by omega)
    have hk0 : ∀ M9, Inv M9 → PW X K LAY 7 (csI i) Z 1174 [some (Value.ref b), some (rV K 0), some (rV K 43), some (rV K 60), some (iV i), none, none] [] M9 := fun M9 h9 => pw_wide (csI (i + 6)) (by omega) (by omega) (hk M9 h9)
    have hk1 : ∀ M9, Inv M9 → PW X K LAY 7 ((csI i).1 + 1, (csI i).2 + 6) Z 1174 [some (Value.ref b), some (rV K 0), some (rV K 43), some (rV K 60), some (iV i), none, none] [] M9 := fun M9 h9 => pw_wide (csI (i + 6)) hw.1 hw.2 (hk M9 h9)
    refine pw_sa0 C dL_law_33 ?_
    refine pw_iload4 C dL_law_34 ?_
    refine pw_sld C hX (by omega) hn2 dL_law_36 ?_
    refine pw_bipush C dL_law_37 (by decide) ?_
    refine pw_iand C ((xs i.toNat &&& 63).toInt) (by rw [ofI_toI, ofI_toI]; rfl) dL_law_39 ?_
    have hz9 := i32x (xs i.toNat &&& 63)
    generalize (xs i.toNat &&& 63).toInt = z at hz9 ⊢
    by_cases hz : 0 ≤ z ∧ z ≤ 34
    · have hzz : z = 0 ∨ z = 1 ∨ z = 2 ∨ z = 3 ∨ z = 4 ∨ z = 5 ∨ z = 6 ∨ z = 7 ∨ z = 8 ∨ z = 9 ∨ z = 10 ∨ z = 11 ∨ z = 12 ∨ z = 13 ∨ z = 14 ∨ z = 15 ∨ z = 16 ∨ z = 17 ∨ z = 18 ∨ z = 19 ∨ z = 20 ∨ z = 21 ∨ z = 22 ∨ z = 23 ∨ z = 24 ∨ z = 25 ∨ z = 26 ∨ z = 27 ∨ z = 28 ∨ z = 29 ∨ z = 30 ∨ z = 31 ∨ z = 32 ∨ z = 33 ∨ z = 34 := by omega
      rcases hzz with hc | hc | hc | hc | hc | hc | hc | hc | hc | hc | hc | hc | hc | hc | hc | hc | hc | hc | hc | hc | hc | hc | hc | hc | hc | hc | hc | hc | hc | hc | hc | hc | hc | hc | hc
      · refine pw_top C 0 hc ?_
        refine pw_tin (tgt := 196) C dL_law_40 (by decide) (by decide) rfl (by decide) ?_
        exact lc_letters C hX hi hn2 hcs hI hk0
      · refine pw_top C 1 hc ?_
        refine pw_tin (tgt := 221) C dL_law_40 (by decide) (by decide) rfl (by decide) ?_
        exact lc_cost C hX hi hn2 hcs hI hk0
      · refine pw_top C 2 hc ?_
        refine pw_tin (tgt := 270) C dL_law_40 (by decide) (by decide) rfl (by decide) ?_
        exact lc_swap C hX hi hn2 hcs hI hk0
      · refine pw_top C 3 hc ?_
        refine pw_tin (tgt := 295) C dL_law_40 (by decide) (by decide) rfl (by decide) ?_
        exact lc_drop C hX hi hn2 hcs hI hk0
      · refine pw_top C 4 hc ?_
        refine pw_tin (tgt := 320) C dL_law_40 (by decide) (by decide) rfl (by decide) ?_
        exact lc_gap C hX hi hn2 hcs hI hk0
      · refine pw_top C 5 hc ?_
        refine pw_tin (tgt := 345) C dL_law_40 (by decide) (by decide) rfl (by decide) ?_
        exact lc_feed C hX hi hn2 hcs hI hk0
      · refine pw_top C 6 hc ?_
        refine pw_tin (tgt := 418) C dL_law_40 (by decide) (by decide) rfl (by decide) ?_
        exact lc_end C hX hi hn2 hcs hI hk0
      · refine pw_top C 7 hc ?_
        refine pw_tin (tgt := 443) C dL_law_40 (by decide) (by decide) rfl (by decide) ?_
        exact lc_word C hX hi hn2 hcs hI hk0
      · refine pw_top C 8 hc ?_
        refine pw_tin (tgt := 456) C dL_law_40 (by decide) (by decide) rfl (by decide) ?_
        exact lc_text C hX hi hn2 hcs hI hk0
      · refine pw_top C 9 hc ?_
        refine pw_tin (tgt := 469) C dL_law_40 (by decide) (by decide) rfl (by decide) ?_
        exact lc_part C hX hi hn2 hcs hI hk0
      · refine pw_top C 10 hc ?_
        refine pw_tin (tgt := 506) C dL_law_40 (by decide) (by decide) rfl (by decide) ?_
        exact lc_apart C hX hi hn2 hcs hI hk0
      · refine pw_top C 11 hc ?_
        refine pw_tin (tgt := 543) C dL_law_40 (by decide) (by decide) rfl (by decide) ?_
        exact lc_from C hX hi hn2 hcs hI hk0
      · refine pw_top C 12 hc ?_
        refine pw_tin (tgt := 568) C dL_law_40 (by decide) (by decide) rfl (by decide) ?_
        exact lc_centre C hX hi hn2 hcs hI hk0
      · refine pw_top C 13 hc ?_
        refine pw_tin (tgt := 581) C dL_law_40 (by decide) (by decide) rfl (by decide) ?_
        exact lc_centreAt C hX hi hn2 hcs hI hk0
      · refine pw_top C 14 hc ?_
        refine pw_tin (tgt := 606) C dL_law_40 (by decide) (by decide) rfl (by decide) ?_
        exact lc_without C hX hi hn2 hcs hI hk0
      · refine pw_top C 15 hc ?_
        refine pw_tin (tgt := 631) C dL_law_40 (by decide) (by decide) rfl (by decide) ?_
        exact lc_leftOut C hX hi hn2 hcs hI hk0
      · refine pw_top C 16 hc ?_
        refine pw_tin (tgt := 656) C dL_law_40 (by decide) (by decide) rfl (by decide) ?_
        exact lc_within C hX hi hn2 hcs hI hk0
      · refine pw_top C 17 hc ?_
        refine pw_tin (tgt := 681) C dL_law_40 (by decide) (by decide) rfl (by decide) ?_
        exact lc_lettersAt C hX hi hn2 hcs hI hk0
      · refine pw_top C 18 hc ?_
        refine pw_tin (tgt := 718) C dL_law_40 (by decide) (by decide) rfl (by decide) ?_
        exact lc_core C hX hi hn2 hcs hI hk0
      · refine pw_top C 19 hc ?_
        refine pw_tin (tgt := 743) C dL_law_40 (by decide) (by decide) rfl (by decide) ?_
        exact lc_coreSet C hX hi hn2 hcs hI hk0
      · refine pw_top C 20 hc ?_
        refine pw_tin (tgt := 768) C dL_law_40 (by decide) (by decide) rfl (by decide) ?_
        exact lc_cover C hX hi hn2 hcs hI hk0
      · refine pw_top C 21 hc ?_
        refine pw_tin (tgt := 793) C dL_law_40 (by decide) (by decide) rfl (by decide) ?_
        exact lc_centres C hX hi hn2 hcs hI hk0
      · refine pw_top C 22 hc ?_
        refine pw_tin (tgt := 818) C dL_law_40 (by decide) (by decide) rfl (by decide) ?_
        exact lc_edits C hX hi hn2 hcs hI hk0
      · refine pw_top C 23 hc ?_
        refine pw_tin (tgt := 855) C dL_law_40 (by decide) (by decide) rfl (by decide) ?_
        exact lc_editsFrom C hX hi hn2 hcs hI hk0
      · refine pw_top C 24 hc ?_
        refine pw_tin (tgt := 880) C dL_law_40 (by decide) (by decide) rfl (by decide) ?_
        exact lc_middle C hX hi hn2 hcs hI hk0
      · refine pw_top C 25 hc ?_
        refine pw_tin (tgt := 893) C dL_law_40 (by decide) (by decide) rfl (by decide) ?_
        exact lc_middleLength C hX hi hn2 hcs hI hk0
      · refine pw_top C 26 hc ?_
        refine pw_tin (tgt := 906) C dL_law_40 (by decide) (by decide) rfl (by decide) ?_
        exact lc_middleAt C hX hi hn2 hcs hI hk0
      · refine pw_top C 27 hc ?_
        refine pw_tin (tgt := 931) C dL_law_40 (by decide) (by decide) rfl (by decide) ?_
        exact lc_median C hX hi hn2 hcs hI hk0
      · refine pw_top C 28 hc ?_
        refine pw_tin (tgt := 944) C dL_law_40 (by decide) (by decide) rfl (by decide) ?_
        exact lc_medianAt C hX hi hn2 hcs hI hk0
      · refine pw_top C 29 hc ?_
        refine pw_tin (tgt := 969) C dL_law_40 (by decide) (by decide) rfl (by decide) ?_
        exact lc_medians C hX hi hn2 hcs hI hk0
      · refine pw_top C 30 hc ?_
        refine pw_tin (tgt := 982) C dL_law_40 (by decide) (by decide) rfl (by decide) ?_
        exact lc_motif C hX hi hn2 hcs hI hk0
      · refine pw_top C 31 hc ?_
        refine pw_tin (tgt := 1007) C dL_law_40 (by decide) (by decide) rfl (by decide) ?_
        exact lc_motifAt C hX hi hn2 hcs hI hk0
      · refine pw_top C 32 hc ?_
        refine pw_tin (tgt := 1044) C dL_law_40 (by decide) (by decide) rfl (by decide) ?_
        exact lc_motifIn hl C hT hX hi hn2 hcs1 hI hk1
      · refine pw_top C 33 hc ?_
        refine pw_tin (tgt := 1112) C dL_law_40 (by decide) (by decide) rfl (by decide) ?_
        exact lc_of C hX hi hn2 hcs hI hk0
      · refine pw_top C 34 hc ?_
        refine pw_tin (tgt := 1149) C dL_law_40 (by decide) (by decide) rfl (by decide) ?_
        exact lc_count C hX hi hn2 hcs hI hk0
    · refine pw_tout (tgt := 1174) C dL_law_40 hz9 (by omega) (by decide) ?_
      exact hk0 M hI
