theorem CX_down {X : CX} {K : KX} {lay : List PD} {cc : ByteArray} {own : String} {nL : Nat} {ret : Option FieldType} {d d' : Nat} (C : CXok X K lay cc own nL ret d') (h : d ≤ d') : CXok X K lay cc own nL ret d := by
  obtain ⟨p, l, e, R, s, m, args, below, meth, c0, A⟩ := X
  obtain ⟨hx, hb, hml, hown, hts, hK, hinj, hAk, hA, hlk, hrt, hfr, hlo⟩ := C
  exact ⟨hx, hb, hml, hown, hts, hK, hinj, hAk, hA, hlk, hrt, by omega, by omega⟩
theorem edW_ss {c : Cfg} {x : Int → Int} {w i k : Int} (hi : 0 ≤ i) (hk : 0 ≤ k) : edW c x w (i + 1) (k + 1) = mn (edW c x w i k + kC c (x i * 4 + kWl c (w * 7 + k))) (mn (edW c x w i (k + 1)) (edW c x w (i + 1) k) + kDr c) := edI_ss hi hk
def LnM (c : Cfg) (x l : Int → Int) (p : Int) : Prop := ∀ w, 0 ≤ w → w < kW c → kP c w = 1 → ∀ i, 0 ≤ i → i ≤ p → ∀ k, 0 ≤ k → k ≤ kL c → l (81 * w + 9 * i + k) = edW c x w i k
theorem LnM_d {c : Cfg} {x l : Int → Int} {p q : Int} (h : LnM c x l p) (hq : q ≤ p) : LnM c x l q := fun w w1 w2 w3 i q1 q2 => h w w1 w2 w3 i q1 (by omega)
theorem LnM_x {c : Cfg} {x y l : Int → Int} {p : Int} (h : LnM c x l p) (hx : ∀ i, 0 ≤ i → i < p → x i = y i) : LnM c y l p := fun w w1 w2 w3 i q1 q2 k k1 k2 => by
  rw [h w w1 w2 w3 i q1 q2 k k1 k2]
  exact edW_congr (n := p) hx i q1 q2 k k1
theorem pwl {v N : Int} (m : Nat) : v * N ^ (m + 1) = (v * N + 0) * N ^ m := by
  rw [Int.pow_succ, Int.add_zero, Int.mul_assoc, Int.mul_comm (N ^ m)]
theorem pwr {v N : Int} (m : Nat) : (v * N + N) * N ^ m = (v + 1) * N ^ (m + 1) := by
  rw [Int.pow_succ, Int.mul_comm (N ^ m) N, ← Int.mul_assoc, Int.add_mul v 1 N, Int.one_mul]
set_option maxHeartbeats 4000000 in
set_option maxRecDepth 100000 in
theorem c_X11_goesOn (l : Launch) (K : KX) (M : Mem) (w n : Int) (hW : WfK (cfM M)) (hw : 0 ≤ w ∧ w < M 43 6) (hn : 1 ≤ n ∧ n ≤ 8) (hx : ∀ i, 0 ≤ i → i < n → 0 ≤ M 59 i ∧ M 59 i ≤ 3) (hl : ∀ k, 0 ≤ k → k ≤ M 43 7 → M 57 (81 * w + 9 * (n - 1) + k) = edW (cfM M) (M 59) w (n - 1) k) : MCv l K LAY yX11_goesOn cX11_goesOn 7 none 2 [rV K 43, iV w, iV n] M (fun M' => (∀ t, M' 57 t = if 81 * w + 9 * n ≤ t ∧ t ≤ 81 * w + 9 * n + M 43 7 then edW (cfM M) (M 59) w n (t - (81 * w + 9 * n)) else M 57 t) ∧ Sm [57] M M') := by
  refine mcv_intro RX11 rfl [some (rV K 43), some (iV w), some (iV n), none, none, none, none] rfl (by decide +kernel) (cat_r (cat_i (cat_i cat_nil))) (Nat.le_of_ble_eq_true rfl) (fun X hX C => ?_)
  subst hX
  have w_let := wm_let hW
  have w_sw := wm_sw hW
  have w_dr := wm_dr hW
  have w_w := wm_w hW
  have w_l := wm_l hW
  have w_l1 := wm_l1 hW
  have hrg := edW_rng (c := cfM M) hW (x := M 59) (n := n) (w := w) hw hx
  have hxn := hx (n - 1) (by omega) (by omega)
  refine pw_bipush C dX11_goesOn_0 (by decide) ?_
  refine pw_iload1 C dX11_goesOn_2 ?_
  refine pw_imul C dX11_goesOn_3 ?_
  refine pw_bipush C dX11_goesOn_4 (by decide) ?_
  refine pw_iload2 C dX11_goesOn_6 ?_
  refine pw_imul C dX11_goesOn_7 ?_
  refine pw_iadd C dX11_goesOn_8 ?_
  refine pw_istore3 C (by decide) dX11_goesOn_9 ?_
  refine pw_iload3 C dX11_goesOn_10 ?_
  refine pw_bipush C dX11_goesOn_11 (by decide) ?_
  refine pw_isub C dX11_goesOn_13 ?_
  refine pw_istore4 C (by decide) dX11_goesOn_14 ?_
  refine pw_aload0 C dX11_goesOn_16 ?_
  refine g_43_27 C fl_X11_62 dX11_goesOn_17 ?_
  refine pw_iload3 C dX11_goesOn_20 ?_
  refine pw_aload0 C dX11_goesOn_21 ?_
  refine g_43_4 C fl_X11_20 dX11_goesOn_22 ?_
  refine pw_iload2 C dX11_goesOn_25 ?_
  refine pw_imul C dX11_goesOn_26 ?_
  refine pw_iastore C lay_57 (by omega) (by decide) dX11_goesOn_27 ?_
  refine pw_iconst C dX11_goesOn_28 ?_
  refine pw_istore5 C (by decide) dX11_goesOn_29 ?_
  have cut_31 : ∀ (fu : Nat) (k : Int) (M1 : Mem), Sm [57] M M1 → (1 ≤ k ∧ k ≤ M 43 7 + 1) → (∀ t, M1 57 t = if 81 * w + 9 * n ≤ t ∧ t < 81 * w + 9 * n + k then edW (cfM M) (M 59) w n (t - (81 * w + 9 * n)) else M 57 t) → (M 43 7 + 1 - k).toNat < fu → PW X K LAY 7 (0, 0) (Zv X K LAY (fun M' => (∀ t, M' 57 t = if 81 * w + 9 * n ≤ t ∧ t ≤ 81 * w + 9 * n + M 43 7 then edW (cfM M) (M 59) w n (t - (81 * w + 9 * n)) else M 57 t) ∧ Sm [57] M M')) 31 [some (rV K 43), some (iV w), some (iV n), some (iV ((81 * w) + (9 * n))), some (iV (((81 * w) + (9 * n)) - 9)), some (iV k), none] [] M1 := by
    intro fu
    induction fu with
    | zero => intro _ _ _ _ _ hm; exact absurd hm (Nat.not_lt_zero _)
    | succ fu ih =>
      intro k M1 hF31 hk g hm
      have ih_31 := ih
      have hm_31 := hm
      refine pw_iload5 C dX11_goesOn_31 ?_
      refine pw_aload0 C dX11_goesOn_33 ?_
      refine g_43_7 C fl_X11_110 dX11_goesOn_34 ?_
      refine pw_top C _ (congrFun (hF31 43 (by decide)) _) ?_
      refine pw_icmp_gt (tgt := 134) C dX11_goesOn_37 (by decide) (by omega) (by omega) (fun h37 => ?_) (fun h37 => ?_)
      · exact pw_vretV C dX11_goesOn_134 (⟨by
              intro t
              rw [g t]
              by_cases e : 81 * w + 9 * n ≤ t ∧ t ≤ 81 * w + 9 * n + M 43 7
              · rw [if_pos e, if_pos (by omega)]
              · rw [if_neg e, if_neg (by omega)], (Sm_trans Sm_refl hF31 (by decide))⟩)
      · have hwk := wm_wl hW w (k - 1) (by omega) (by omega) (by omega) (by omega)
        have hpc := wm_pr hW (M 59 (n - 1) * 4 + M 45 (w * 7 + (k - 1))) (by omega) (by omega)
        have he1 := hrg (n - 1) (by omega) (by omega) (k - 1) (by omega) (by show k - 1 ≤ M 43 7; omega)
        have he2 := hrg (n - 1) (by omega) (by omega) k (by omega) (by show k ≤ M 43 7; omega)
        have he3 := hrg n (by omega) (by omega) (k - 1) (by omega) (by show k - 1 ≤ M 43 7; omega)
        refine pw_aload0 C dX11_goesOn_40 ?_
        refine g_43_27 C fl_X11_62 dX11_goesOn_41 ?_
        refine pw_iload4 C dX11_goesOn_44 ?_
        refine pw_iload5 C dX11_goesOn_46 ?_
        refine pw_iadd C dX11_goesOn_48 ?_
        refine pw_iconst C dX11_goesOn_49 ?_
        refine pw_isub C dX11_goesOn_50 ?_
        refine pw_iaload C lay_57 (by omega) (by decide) dX11_goesOn_51 ?_
        refine pw_top C (edW (cfM M) (M 59) w (n - 1) (k - 1)) (by rw [g, if_neg (by omega), show 81 * w + 9 * n - 9 + k - 1 = 81 * w + 9 * (n - 1) + (k - 1) by omega]; exact hl (k - 1) (by omega) (by omega)) ?_
        refine pw_aload0 C dX11_goesOn_52 ?_
        refine g_43_2 C fl_X11_16 dX11_goesOn_53 ?_
        refine pw_iconst C dX11_goesOn_56 ?_
        refine pw_aload0 C dX11_goesOn_57 ?_
        refine g_43_31 C fl_X11_68 dX11_goesOn_58 ?_
        refine pw_iload2 C dX11_goesOn_61 ?_
        refine pw_iconst C dX11_goesOn_62 ?_
        refine pw_isub C dX11_goesOn_63 ?_
        refine pw_baload C lay_59 (by omega) (by decide) dX11_goesOn_64 ?_
        refine pw_top C _ (congrFun (hF31 59 (by decide)) _) ?_
        refine pw_imul C dX11_goesOn_65 ?_
        refine pw_top C (M 59 (n - 1) * 4) (Int.mul_comm _ _) ?_
        refine pw_aload0 C dX11_goesOn_66 ?_
        refine g_43_8 C fl_X11_23 dX11_goesOn_67 ?_
        refine pw_bipush C dX11_goesOn_70 (by decide) ?_
        refine pw_iload1 C dX11_goesOn_72 ?_
        refine pw_imul C dX11_goesOn_73 ?_
        refine pw_iload5 C dX11_goesOn_74 ?_
        refine pw_iadd C dX11_goesOn_76 ?_
        refine pw_iconst C dX11_goesOn_77 ?_
        refine pw_isub C dX11_goesOn_78 ?_
        refine pw_baload C lay_45 (by omega) (by decide) dX11_goesOn_79 ?_
        refine pw_top C _ (congrFun (hF31 45 (by decide)) _) ?_
        refine pw_top C (M 45 (w * 7 + (k - 1))) (by rw [show 7 * w + k - 1 = w * 7 + (k - 1) by omega]) ?_
        refine pw_iadd C dX11_goesOn_80 ?_
        refine pw_iaload C lay_44 (by omega) (by decide) dX11_goesOn_81 ?_
        refine pw_top C _ (congrFun (hF31 44 (by decide)) _) ?_
        refine pw_iadd C dX11_goesOn_82 ?_
        refine pw_istore6 C (by decide) dX11_goesOn_83 ?_
        refine pw_aload0 C dX11_goesOn_85 ?_
        refine g_43_27 C fl_X11_62 dX11_goesOn_86 ?_
        refine pw_iload3 C dX11_goesOn_89 ?_
        refine pw_iload5 C dX11_goesOn_90 ?_
        refine pw_iadd C dX11_goesOn_92 ?_
        refine pw_iload6 C dX11_goesOn_93 ?_
        refine pw_aload0 C dX11_goesOn_95 ?_
        refine g_43_4 C fl_X11_20 dX11_goesOn_96 ?_
        refine pw_top C _ (congrFun (hF31 43 (by decide)) _) ?_
        refine pw_aload0 C dX11_goesOn_99 ?_
        refine g_43_27 C fl_X11_62 dX11_goesOn_100 ?_
        refine pw_iload4 C dX11_goesOn_103 ?_
        refine pw_iload5 C dX11_goesOn_105 ?_
        refine pw_iadd C dX11_goesOn_107 ?_
        refine pw_iaload C lay_57 (by omega) (by decide) dX11_goesOn_108 ?_
        refine pw_top C (edW (cfM M) (M 59) w (n - 1) k) (by rw [g, if_neg (by omega), show 81 * w + 9 * n - 9 + k = 81 * w + 9 * (n - 1) + k by omega]; exact hl k (by omega) (by omega)) ?_
        refine pw_aload0 C dX11_goesOn_109 ?_
        refine g_43_27 C fl_X11_62 dX11_goesOn_110 ?_
        refine pw_iload3 C dX11_goesOn_113 ?_
        refine pw_iload5 C dX11_goesOn_114 ?_
        refine pw_iadd C dX11_goesOn_116 ?_
        refine pw_iconst C dX11_goesOn_117 ?_
        refine pw_isub C dX11_goesOn_118 ?_
        refine pw_iaload C lay_57 (by omega) (by decide) dX11_goesOn_119 ?_
        refine pw_top C (edW (cfM M) (M 59) w n (k - 1)) (by rw [g, if_pos (by omega), show 81 * w + 9 * n + k - 1 - (81 * w + 9 * n) = k - 1 by omega]) ?_
        refine pw_mmin C (by omega) (by omega) (Nat.le_of_ble_eq_true rfl) ml_X11_117 dX11_goesOn_120 ?_
        refine pw_iadd C dX11_goesOn_123 ?_
        refine pw_mmin C (by omega) (by split <;> omega) (Nat.le_of_ble_eq_true rfl) ml_X11_117 dX11_goesOn_124 ?_
        have hs : edW (cfM M) (M 59) w n k = mn (edW (cfM M) (M 59) w (n - 1) (k - 1) + M 44 (M 59 (n - 1) * 4 + M 45 (w * 7 + (k - 1)))) (mn (edW (cfM M) (M 59) w (n - 1) k) (edW (cfM M) (M 59) w n (k - 1)) + M 43 4) := by
          have h := edW_ss (c := cfM M) (x := M 59) (w := w) (i := n - 1) (k := k - 1) (by omega) (by omega)
          rw [show n - 1 + 1 = n by omega, show k - 1 + 1 = k by omega] at h
          exact h
        refine pw_top C (edW (cfM M) (M 59) w n k) (by rw [hs]; unfold mn; split <;> split <;> omega) ?_
        refine pw_iastore C lay_57 (by omega) (by decide) dX11_goesOn_127 ?_
        refine pw_iinc5 C (by decide) dX11_goesOn_128 ?_
        refine pw_goto (tgt := 31) C dX11_goesOn_131 (by decide) ?_
        refine pw_fgt (fgt_k (fgt_k (fgt_k (fgt_k (fgt_k (fgt_k (fgt_no fgt_nil))))))) ?_
        exact ih_31 _ _ (Sm_up (Sm_trans Sm_refl hF31 (by decide)) (by decide)) (by omega) (by
              intro t
              rw [rd_if, g t]
              by_cases e : t = 81 * w + 9 * n + k
              · rw [if_pos e, if_pos (by omega), show t - (81 * w + 9 * n) = k by omega]
              · rw [if_neg e]
                by_cases e2 : 81 * w + 9 * n ≤ t ∧ t < 81 * w + 9 * n + k
                · rw [if_pos e2, if_pos (by omega)]
                · rw [if_neg e2, if_neg (by omega)]) (by omega)
  exact cut_31 _ _ _ (Sm_up Sm_refl (by decide)) (by omega) (by
        intro t
        rw [rd_if]
        by_cases e : t = 81 * w + 9 * n
        · rw [if_pos e, if_pos (by omega), e, show 81 * w + 9 * n - (81 * w + 9 * n) = (0 : Int) by omega]
          exact ed_mulc (by omega)
        · rw [if_neg e, if_neg (by omega)]) (Nat.lt_succ_self _)
