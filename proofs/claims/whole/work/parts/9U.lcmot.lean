theorem RI_of2 {M M1 : Mem} (h : Inv M) (hi : ∀ k, 43 ≤ k → k < 60 → M1 k = M k) : RI M1 := by
  have e : cfM M1 = cfM M := cfM_e (congrFun (hi 43 (by decide) (by decide)) _) (congrFun (hi 43 (by decide) (by decide)) _) (congrFun (hi 43 (by decide) (by decide)) _) (congrFun (hi 43 (by decide) (by decide)) _) (congrFun (hi 43 (by decide) (by decide)) _) (congrFun (hi 43 (by decide) (by decide)) _) (congrFun (hi 43 (by decide) (by decide)) _) (hi 44 (by decide) (by decide)) (hi 45 (by decide) (by decide)) (hi 46 (by decide) (by decide)) (hi 47 (by decide) (by decide)) (hi 48 (by decide) (by decide))
  unfold RI
  rw [e]
  refine ⟨Inv_wm h, by rw [hi 43 (by decide) (by decide)]; exact Inv_ts h, by rw [hi 43 (by decide) (by decide), hi 49 (by decide) (by decide)]; exact Inv_tb h, kKn (congrFun (hi 43 (by decide) (by decide)) _) (hi 52 (by decide) (by decide)) h.2.1.1, kKm (congrFun (hi 43 (by decide) (by decide)) _) (congrFun (hi 43 (by decide) (by decide)) _) (congrFun (hi 43 (by decide) (by decide)) _) (hi 58 (by decide) (by decide)) h.2.1.2.1, kKo (congrFun (hi 43 (by decide) (by decide)) _) (congrFun (hi 43 (by decide) (by decide)) _) (congrFun (hi 43 (by decide) (by decide)) _) h.2.1.2.2⟩
theorem cw_yL_motifIn : Cond.codeWith yL_motifIn cL_motifIn 5 (some .int) [(0, 10, 13, 13)] ∈ wsL_law0 := gT_c41 _ (List.mem_of_getElem? (i := 0) rfl)
def TXX (X : CX) : Prop := match X with
  | (_, _, _, _, s, _, _, _, _, _, A) => TXq A s s.heap
theorem pw_lmot {X : CX} {K : KX} {cs : Nat × Nat} {Z : State → Prop} {M : Mem} {L : List (Option Value)} {m t : Int} (hl : (lOf X).stackTraces = false) (C : CXok X K LAY cL_law RL 7 (some .boolean) 100) (hT : TXX X) (hcs : cs.1 + 1 ≤ X.2.2.2.1.cells ∧ cs.2 + 6 ≤ X.2.2.2.1.slots) (hW : WfK (cf M)) (hwd : M 37 4 = 120) (hZ : Z0b M) (hC : MoC (cf M) M) (hm9 : -2147483648 ≤ m ∧ m ≤ 2147483647) (ht9 : -2147483648 ≤ t ∧ t ≤ 2147483647)
    (kk : ∀ (r : Int) (M' : Mem), QLm M m t r M' → PW X K LAY 7 (cs.1 + 1, cs.2 + 6) Z 1061 L [iV r] M') : PW X K LAY 7 cs Z 1058 L [rV K 60, iV t, iV m, rV K 0] M := by
  obtain ⟨p, l, e, R, s, m0, args, below, meth, c, A⟩ := X
  obtain ⟨hx, hb, hml1, hown, hts, hK, hinj, hAk, hA, hlk, hrt, hfr, hlo⟩ := C
  intro H locs ls hP hS hl9
  have hAA : ∀ q, AK K LAY H.size q → A q := by
    intro q h
    rcases h with ⟨k, hk, rfl⟩ | h
    · exact hAk k hk
    · exact hA q (Nat.le_trans hS.1 h)
  have hG : GoodIn wsL_law0 (Cond.codeWith yL_motifIn cL_motifIn 5 (some .int) [(0, 10, 13, 13)] :: wsL_law0) := by
    intro w hw
    have hm : w ∈ wsL_law0 := by
      rcases List.mem_cons.mp hw with e | e
      · rw [e]; exact cw_yL_motifIn
      · exact e
    exact ⟨hm, good_of_word (gT_good w hm)⟩
  have hr := vx_runSW (p := p) (l := l) (e := e) (meth := meth) (below := below) (As := [rV K 0, iV m, iV t, rV K 60]) (rest := []) (g := F0 m0 1058 ls [rV K 60, iV t, iV m, rV K 0]) (n := 4) (R := R) (locs := locs) (cells := cs.1) (slots := cs.2) ⟨hx, hb, hml1, hown, hts⟩ (c_L_motifIn hl K M m t hW hwd hZ hC hm9 ht9 H.size)
    (vx_cwSW (ret := some .int) (hh := [(0, 10, 13, 13)]) (index := 153) (own := RL) 4 hts (by
      intro w hw
      rcases List.mem_append.mp hw with h | h
      · simp only [List.mem_cons, List.not_mem_nil, or_false] at h
        rcases h with rfl | rfl | rfl
        · exact ⟨ml_L_153, good_of_word (gT_good _ ml_L_153)⟩
        · exact ⟨st_yL_motifIn, good_of_word (gT_good _ st_yL_motifIn)⟩
        · exact ⟨in_RL, good_of_word (gT_good _ in_RL)⟩
      · exact hG w h) rfl rfl rfl ⟨by decide +kernel, by decide +kernel, by decide +kernel⟩ ⟨by show 21 + 1 ≤ R.frames; omega, by show 8 + (5 + 11) + 1344 ≤ R.locals; omega⟩)
    ⟨PcX_blind, fun U hU hWU => ⟨rfl, by rw [hU], by rw [hU]; exact hP, va_K.moved hWU.alike hK, hinj, by rw [hU]; exact TXq.go hT hWU hS.2.1 hAA⟩⟩ rfl rfl hl9.1.1 rfl (lv_room (Nat.le_of_ble_eq_true rfl)) dL_law_1058 hcs
  refine pw_afterN hr hS hAk hA (fun v M' H1 locs1 hq hP1 hS1 => ?_)
  obtain ⟨r, rfl, hq⟩ := hq
  exact kk r M' hq H1 locs1 ls hP1 hS1 hl9
set_option maxHeartbeats 1000000 in
theorem lc_motifIn {X : CX} {K : KX} {cs : Nat × Nat} {Z : State → Prop} {b n : Nat} {xs : Nat → Int32} {i : Int} {M : Mem} (hl : (lOf X).stackTraces = false) (C : CXok X K LAY cL_law RL 7 (some .boolean) 100) (hT : TXX X) (hX : SCR X b n xs) (hi : 0 ≤ i ∧ i + 6 ≤ (n : Int)) (hn : n < 2147483648) (hcs : cs.1 + 1 ≤ X.2.2.2.1.cells ∧ cs.2 + 6 ≤ X.2.2.2.1.slots) (h : Inv M) (hk : ∀ M9, Inv M9 → PW X K LAY 7 (cs.1 + 1, cs.2 + 6) Z 1174 [some (Value.ref b), some (rV K 0), some (rV K 43), some (rV K 60), some (iV i), none, none] [] M9) : PW X K LAY 7 cs Z 1044 [some (Value.ref b), some (rV K 0), some (rV K 43), some (rV K 60), some (iV i), none, none] [] M := by
  refine pw_aload1 C dL_law_1044 ?_
  refine pw_sa0 C dL_law_1045 ?_
  refine pw_iload4 C dL_law_1046 ?_
  refine pw_iconst C dL_law_1048 ?_
  refine pw_iadd C dL_law_1049 ?_
  refine pw_sld C hX (by omega) hn dL_law_1050 ?_
  refine pw_sa0 C dL_law_1051 ?_
  refine pw_iload4 C dL_law_1052 ?_
  refine pw_iconst C dL_law_1054 ?_
  refine pw_iadd C dL_law_1055 ?_
  refine pw_sld C hX (by omega) hn dL_law_1056 ?_
  refine pw_aload3 C dL_law_1057 ?_
  refine pw_lmot hl C hT hcs h.1.1 h.1.2.2.2.2.2.2.2.2.1 h.1.2.2.2.2.2.2.2.2.2.1 h.1.2.2.2.2.2.2.2.2.2.2 (i32x _) (i32x _) (fun r1 M1 q1 => ?_)
  have hR : RI M1 := RI_of2 h (fun k hk8 hk9 => by
    rcases q1 with ⟨-, a, Ma, hq, rfl⟩ | ⟨-, -, rfl⟩
    · rw [up2_ne (by omega)]
      exact hq.2.2.2.2.2 k (by simp; omega)
    · rfl)
  refine pw_istore5 C (by decide) dL_law_1061 ?_
  refine pw_aload2 C dL_law_1063 ?_
  refine pw_sa0 C dL_law_1064 ?_
  refine pw_iload4 C dL_law_1065 ?_
  refine pw_iconst C dL_law_1067 ?_
  refine pw_iadd C dL_law_1068 ?_
  refine pw_sld C hX (by omega) hn dL_law_1069 ?_
  refine pw_sa0 C dL_law_1070 ?_
  refine pw_iload4 C dL_law_1071 ?_
  refine pw_iconst C dL_law_1073 ?_
  refine pw_iadd C dL_law_1074 ?_
  refine pw_sld C hX (by omega) hn dL_law_1075 ?_
  refine pw_lV C [iV ((xs (i + 1).toNat).toInt), iV ((xs (i + 2).toNat).toInt)] [] (c_X11_motifIn _ K _ ((xs (i + 1).toNat).toInt) ((xs (i + 2).toNat).toInt) hR.1 (i32x _) (i32x _) hR.2.2.2.2.2) cb_X11_motifIn lay_43 kc_11 rfl ml_L_158 dL_law_1076 (by decide) hcs rfl (Nat.le_of_ble_eq_true rfl) rfl (fun r2 M2 q2 => ?_)
  obtain ⟨e1, e2, e3, hI⟩ := st_motifIn h q1 q2
  refine pw_istore6 C (by decide) dL_law_1079 ?_
  refine pw_aload2 C dL_law_1081 ?_
  refine pw_lV C [] [] (c_X11_thrown _ K _) cb_X11_thrown lay_43 kc_11 rfl ml_L_159 dL_law_1082 (by decide) hcs rfl (Nat.le_of_ble_eq_true rfl) rfl (fun r3 M3 q3 => ?_)
  obtain ⟨q3, hMe⟩ := q3
  subst hMe
  rw [q3, e1]
  refine pw_iload5 C dL_law_1085 ?_
  refine pw_ieq (tgt := 1092) C dL_law_1087 (by decide) ?_
  refine pw_iload5 C dL_law_1092 ?_
  have hfin : PW X K LAY 7 (cs.1 + 1, cs.2 + 6) Z 1109 [some (Value.ref b), some (rV K 0), some (rV K 43), some (rV K 60), some (iV i), some (iV r1), some (iV r2)] [] M3 := by
    refine pw_goto (tgt := 1174) C dL_law_1109 (by decide) ?_
    refine pw_fgt (fgt_k (fgt_k (fgt_k (fgt_k (fgt_k (fgt_no (fgt_no fgt_nil))))))) ?_
    exact hk M3 hI
  refine pw_if_ne (tgt := 1109) C dL_law_1094 (by decide) (by omega) (fun h9 => hfin) (fun h9 => ?_)
  refine pw_aload3 C dL_law_1097 ?_
  refine pw_iconst C dL_law_1098 ?_
  refine pw_laload C lay_60 (by decide) (by decide) dL_law_1099 ?_
  rw [e3 (by omega)]
  refine pw_iload6 C dL_law_1100 ?_
  refine pw_i2l C dL_law_1102 ?_
  refine pw_lcmp0 C dL_law_1103 ?_
  exact pw_if_eq (tgt := 1109) C dL_law_1104 (by decide) (by decide) (fun _ => hfin) (fun q => absurd rfl q)
