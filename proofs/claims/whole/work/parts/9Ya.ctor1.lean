set_option maxHeartbeats 4000000 in
theorem n_X3_init_1 (l : Launch) (D : va_G) (t : ClassId × ClassId × ClassId × ClassId) (a0 a1 : Nat) : NC l D t [a0, a1] nl1 nl3 nm0 nm1 (fun _ => True) yX3_init cX3_init 3 1 1 16 [Value.ref a1] := by
  refine nc_intro RX3 rfl (by decide +kernel) [some (Value.ref a1), none, none] rfl (cat_R cat_nil) (Nat.le_of_ble_eq_true rfl) (fun X hX C hN hc hs hB => ?_)
  have hN := hN rfl
  refine pv_aload C (i := 0) (b := a1) rfl dX3_init_0 ?_
  refine pw_obj C ml_X3_3 dX3_init_1 (Nat.le_of_ble_eq_true rfl) (by decide) ?_
  refine pv_aload C (i := 0) (b := a1) rfl dX3_init_4 ?_
  refine pw_iconst C dX3_init_5 ?_
  refine pw_put0 C (k := 1) (show nl1[1]? = some (0, 3, [0, 0, 0, 0, 1]) from rfl) kc_3 gT_wsX30 tyX3 tyX3_ok nmX3 0 (by decide) rfl rfl rfl rfl fl_X3_9 dX3_init_6 ?_
  refine pv_aload C (i := 0) (b := a1) rfl dX3_init_9 ?_
  refine pw_iconst C dX3_init_10 ?_
  refine pw_put0 C (k := 1) (show nl1[1]? = some (0, 3, [0, 0, 0, 0, 1]) from rfl) kc_3 gT_wsX30 tyX3 tyX3_ok nmX3 1 (by decide) rfl rfl rfl rfl fl_X3_15 dX3_init_11 ?_
  refine pv_aload C (i := 0) (b := a1) rfl dX3_init_14 ?_
  refine pw_iconst C dX3_init_15 ?_
  refine pw_put0 C (k := 1) (show nl1[1]? = some (0, 3, [0, 0, 0, 0, 1]) from rfl) kc_3 gT_wsX30 tyX3 tyX3_ok nmX3 2 (by decide) rfl rfl rfl rfl fl_X3_18 dX3_init_16 ?_
  refine pv_aload C (i := 0) (b := a1) rfl dX3_init_19 ?_
  refine pw_iconst C dX3_init_20 ?_
  refine pw_put0 C (k := 1) (show nl1[1]? = some (0, 3, [0, 0, 0, 0, 1]) from rfl) kc_3 gT_wsX30 tyX3 tyX3_ok nmX3 3 (by decide) rfl rfl rfl rfl fl_X3_21 dX3_init_21 ?_
  refine pv_aload C (i := 0) (b := a1) rfl dX3_init_24 ?_
  refine pw_bipush C dX3_init_25 (by decide) ?_
  refine pw_newi C (n := 16) rfl rfl (up2_z (a := 2) (k := 1) (by decide) (up2_z (a := 2) (k := 1) (by decide) (up2_z (a := 2) (k := 1) (by decide) (up2_z (a := 2) (k := 1) (by decide) (nmz_0 2 (by decide)))))) (by decide) ac__int ⟨by rw [hc]; decide, by rw [hs]; decide⟩ dX3_init_27 (fun a2 C => ?_)
  have C : CXok X (KL D t [a0, a1, a2]) nl2 _ _ _ _ _ := C
  change PW X (KL D t [a0, a1, a2]) nl2 _ (1, 16) _ _ [some (Value.ref a1), none, none] [Value.ref a2, Value.ref a1] _
  refine pw_putR C (k := 1) (show nl2[1]? = some (0, 3, [0, 0, 0, 0, 1]) from rfl) kc_3 gT_wsX30 tyX3 tyX3_ok nmX3 4 (by decide) 2 rfl hN rfl rfl rfl (by decide) fl_X3_24 dX3_init_29 (fun C => ?_)
  have C : CXok X (KL D t [a0, a1, a2]) nl3 _ _ _ _ _ := C
  change PW X (KL D t [a0, a1, a2]) nl3 _ (1, 16) _ _ [some (Value.ref a1), none, none] [] _
  refine pw_iconst C dX3_init_32 ?_
  refine pw_istore1 C (by decide) dX3_init_33 ?_
  refine pw_iload1 C dX3_init_34 ?_
  refine pw_iconst C dX3_init_35 ?_
  refine pw_icmp_ge (tgt := 78) C dX3_init_36 (by decide) (by decide) (by decide) (fun h => absurd h (by decide)) (fun h => ?_)
  refine pw_iconst C dX3_init_39 ?_
  refine pw_istore2 C (by decide) dX3_init_40 ?_
  refine pw_iload2 C dX3_init_41 ?_
  refine pw_iconst C dX3_init_42 ?_
  refine pw_icmp_ge (tgt := 72) C dX3_init_43 (by decide) (by decide) (by decide) (fun h => absurd h (by decide)) (fun h => ?_)
  refine pv_aload C (i := 0) (b := a1) rfl dX3_init_46 ?_
  refine pw_get0 C (k := 1) (show nl3[1]? = some (0, 3, [0, 0, 0, 0, 4]) from rfl) kc_3 gT_wsX30 4 (by decide) rfl fl_X3_24 dX3_init_47 ?_
  have C : CXok X (KL D t [a0, a1, a2]) nl3 _ _ _ _ _ := C
  change PW X (KL D t [a0, a1, a2]) nl3 _ (1, 16) _ _ [some (Value.ref a1), some (iV 0), some (iV 0)] [Value.ref a2] _
  refine pw_iload1 C dX3_init_50 ?_
  refine pw_iconst C dX3_init_51 ?_
  refine pw_imul C dX3_init_52 ?_
  refine pw_top C 0 (by decide) ?_
  refine pw_iload2 C dX3_init_53 ?_
  refine pw_iadd C dX3_init_54 ?_
  refine pw_top C 0 (by decide) ?_
  refine pw_iload1 C dX3_init_55 ?_
  refine pw_iload2 C dX3_init_56 ?_
  refine pw_icmp_ne (tgt := 64) C dX3_init_57 (by decide) (by decide) (by decide) (fun h => absurd h (by decide)) (fun h => ?_)
  refine pw_iconst C dX3_init_60 ?_
  refine pw_goto (tgt := 65) C dX3_init_61 (by decide) ?_
  refine pw_iastore C (k := 2) (show nl3[2]? = some (1, 16, []) from rfl) (by decide) (by decide) dX3_init_65 ?_
  refine pw_iinc2 C (by decide) dX3_init_66 ?_
  refine pw_goto (tgt := 41) C dX3_init_69 (by decide) ?_
  refine pw_iload2 C dX3_init_41 ?_
  refine pw_iconst C dX3_init_42 ?_
  refine pw_icmp_ge (tgt := 72) C dX3_init_43 (by decide) (by decide) (by decide) (fun h => absurd h (by decide)) (fun h => ?_)
  refine pv_aload C (i := 0) (b := a1) rfl dX3_init_46 ?_
  refine pw_get0 C (k := 1) (show nl3[1]? = some (0, 3, [0, 0, 0, 0, 4]) from rfl) kc_3 gT_wsX30 4 (by decide) rfl fl_X3_24 dX3_init_47 ?_
  have C : CXok X (KL D t [a0, a1, a2]) nl3 _ _ _ _ _ := C
  change PW X (KL D t [a0, a1, a2]) nl3 _ (1, 16) _ _ [some (Value.ref a1), some (iV 0), some (iV (0 + 1))] [Value.ref a2] _
  refine pw_iload1 C dX3_init_50 ?_
  refine pw_iconst C dX3_init_51 ?_
  refine pw_imul C dX3_init_52 ?_
  refine pw_top C 0 (by decide) ?_
  refine pw_iload2 C dX3_init_53 ?_
  refine pw_iadd C dX3_init_54 ?_
  refine pw_top C 1 (by decide) ?_
  refine pw_iload1 C dX3_init_55 ?_
  refine pw_iload2 C dX3_init_56 ?_
  refine pw_icmp_ne (tgt := 64) C dX3_init_57 (by decide) (by decide) (by decide) (fun h => ?_) (fun h => absurd h (by decide))
  refine pw_iconst C dX3_init_64 ?_
  refine pw_iastore C (k := 2) (show nl3[2]? = some (1, 16, []) from rfl) (by decide) (by decide) dX3_init_65 ?_
  refine pw_iinc2 C (by decide) dX3_init_66 ?_
  refine pw_goto (tgt := 41) C dX3_init_69 (by decide) ?_
  refine pw_iload2 C dX3_init_41 ?_
  refine pw_iconst C dX3_init_42 ?_
  refine pw_icmp_ge (tgt := 72) C dX3_init_43 (by decide) (by decide) (by decide) (fun h => absurd h (by decide)) (fun h => ?_)
  refine pv_aload C (i := 0) (b := a1) rfl dX3_init_46 ?_
  refine pw_get0 C (k := 1) (show nl3[1]? = some (0, 3, [0, 0, 0, 0, 4]) from rfl) kc_3 gT_wsX30 4 (by decide) rfl fl_X3_24 dX3_init_47 ?_
  have C : CXok X (KL D t [a0, a1, a2]) nl3 _ _ _ _ _ := C
  change PW X (KL D t [a0, a1, a2]) nl3 _ (1, 16) _ _ [some (Value.ref a1), some (iV 0), some (iV ((0 + 1) + 1))] [Value.ref a2] _
  refine pw_iload1 C dX3_init_50 ?_
  refine pw_iconst C dX3_init_51 ?_
  refine pw_imul C dX3_init_52 ?_
  refine pw_top C 0 (by decide) ?_
  refine pw_iload2 C dX3_init_53 ?_
  refine pw_iadd C dX3_init_54 ?_
  refine pw_top C 2 (by decide) ?_
  refine pw_iload1 C dX3_init_55 ?_
  refine pw_iload2 C dX3_init_56 ?_
  refine pw_icmp_ne (tgt := 64) C dX3_init_57 (by decide) (by decide) (by decide) (fun h => ?_) (fun h => absurd h (by decide))
  refine pw_iconst C dX3_init_64 ?_
  refine pw_iastore C (k := 2) (show nl3[2]? = some (1, 16, []) from rfl) (by decide) (by decide) dX3_init_65 ?_
  refine pw_iinc2 C (by decide) dX3_init_66 ?_
  refine pw_goto (tgt := 41) C dX3_init_69 (by decide) ?_
  refine pw_iload2 C dX3_init_41 ?_
  refine pw_iconst C dX3_init_42 ?_
  refine pw_icmp_ge (tgt := 72) C dX3_init_43 (by decide) (by decide) (by decide) (fun h => absurd h (by decide)) (fun h => ?_)
  refine pv_aload C (i := 0) (b := a1) rfl dX3_init_46 ?_
  refine pw_get0 C (k := 1) (show nl3[1]? = some (0, 3, [0, 0, 0, 0, 4]) from rfl) kc_3 gT_wsX30 4 (by decide) rfl fl_X3_24 dX3_init_47 ?_
  have C : CXok X (KL D t [a0, a1, a2]) nl3 _ _ _ _ _ := C
  change PW X (KL D t [a0, a1, a2]) nl3 _ (1, 16) _ _ [some (Value.ref a1), some (iV 0), some (iV (((0 + 1) + 1) + 1))] [Value.ref a2] _
  refine pw_iload1 C dX3_init_50 ?_
  refine pw_iconst C dX3_init_51 ?_
  refine pw_imul C dX3_init_52 ?_
  refine pw_top C 0 (by decide) ?_
  refine pw_iload2 C dX3_init_53 ?_
  refine pw_iadd C dX3_init_54 ?_
  refine pw_top C 3 (by decide) ?_
  refine pw_iload1 C dX3_init_55 ?_
  refine pw_iload2 C dX3_init_56 ?_
  refine pw_icmp_ne (tgt := 64) C dX3_init_57 (by decide) (by decide) (by decide) (fun h => ?_) (fun h => absurd h (by decide))
  refine pw_iconst C dX3_init_64 ?_
  refine pw_iastore C (k := 2) (show nl3[2]? = some (1, 16, []) from rfl) (by decide) (by decide) dX3_init_65 ?_
  refine pw_iinc2 C (by decide) dX3_init_66 ?_
  refine pw_goto (tgt := 41) C dX3_init_69 (by decide) ?_
  refine pw_iload2 C dX3_init_41 ?_
  refine pw_iconst C dX3_init_42 ?_
  refine pw_icmp_ge (tgt := 72) C dX3_init_43 (by decide) (by decide) (by decide) (fun h => ?_) (fun h => absurd h (by decide))
  refine pw_iinc1 C (by decide) dX3_init_72 ?_
  refine pw_goto (tgt := 34) C dX3_init_75 (by decide) ?_
  refine pw_iload1 C dX3_init_34 ?_
  refine pw_iconst C dX3_init_35 ?_
  refine pw_icmp_ge (tgt := 78) C dX3_init_36 (by decide) (by decide) (by decide) (fun h => absurd h (by decide)) (fun h => ?_)
  refine pw_iconst C dX3_init_39 ?_
  refine pw_istore2 C (by decide) dX3_init_40 ?_
  refine pw_iload2 C dX3_init_41 ?_
  refine pw_iconst C dX3_init_42 ?_
  refine pw_icmp_ge (tgt := 72) C dX3_init_43 (by decide) (by decide) (by decide) (fun h => absurd h (by decide)) (fun h => ?_)
  refine pv_aload C (i := 0) (b := a1) rfl dX3_init_46 ?_
  refine pw_get0 C (k := 1) (show nl3[1]? = some (0, 3, [0, 0, 0, 0, 4]) from rfl) kc_3 gT_wsX30 4 (by decide) rfl fl_X3_24 dX3_init_47 ?_
  have C : CXok X (KL D t [a0, a1, a2]) nl3 _ _ _ _ _ := C
  change PW X (KL D t [a0, a1, a2]) nl3 _ (1, 16) _ _ [some (Value.ref a1), some (iV (0 + 1)), some (iV 0)] [Value.ref a2] _
  refine pw_iload1 C dX3_init_50 ?_
  refine pw_iconst C dX3_init_51 ?_
  refine pw_imul C dX3_init_52 ?_
  refine pw_top C 4 (by decide) ?_
  refine pw_iload2 C dX3_init_53 ?_
  refine pw_iadd C dX3_init_54 ?_
  refine pw_top C 4 (by decide) ?_
  refine pw_iload1 C dX3_init_55 ?_
  refine pw_iload2 C dX3_init_56 ?_
  refine pw_icmp_ne (tgt := 64) C dX3_init_57 (by decide) (by decide) (by decide) (fun h => ?_) (fun h => absurd h (by decide))
  refine pw_iconst C dX3_init_64 ?_
  refine pw_iastore C (k := 2) (show nl3[2]? = some (1, 16, []) from rfl) (by decide) (by decide) dX3_init_65 ?_
  refine pw_iinc2 C (by decide) dX3_init_66 ?_
  refine pw_goto (tgt := 41) C dX3_init_69 (by decide) ?_
  refine pw_iload2 C dX3_init_41 ?_
  refine pw_iconst C dX3_init_42 ?_
  refine pw_icmp_ge (tgt := 72) C dX3_init_43 (by decide) (by decide) (by decide) (fun h => absurd h (by decide)) (fun h => ?_)
  refine pv_aload C (i := 0) (b := a1) rfl dX3_init_46 ?_
  refine pw_get0 C (k := 1) (show nl3[1]? = some (0, 3, [0, 0, 0, 0, 4]) from rfl) kc_3 gT_wsX30 4 (by decide) rfl fl_X3_24 dX3_init_47 ?_
  have C : CXok X (KL D t [a0, a1, a2]) nl3 _ _ _ _ _ := C
  change PW X (KL D t [a0, a1, a2]) nl3 _ (1, 16) _ _ [some (Value.ref a1), some (iV (0 + 1)), some (iV (0 + 1))] [Value.ref a2] _
  refine pw_iload1 C dX3_init_50 ?_
  refine pw_iconst C dX3_init_51 ?_
  refine pw_imul C dX3_init_52 ?_
  refine pw_top C 4 (by decide) ?_
  refine pw_iload2 C dX3_init_53 ?_
  refine pw_iadd C dX3_init_54 ?_
  refine pw_top C 5 (by decide) ?_
  refine pw_iload1 C dX3_init_55 ?_
  refine pw_iload2 C dX3_init_56 ?_
  refine pw_icmp_ne (tgt := 64) C dX3_init_57 (by decide) (by decide) (by decide) (fun h => absurd h (by decide)) (fun h => ?_)
  refine pw_iconst C dX3_init_60 ?_
  refine pw_goto (tgt := 65) C dX3_init_61 (by decide) ?_
  refine pw_iastore C (k := 2) (show nl3[2]? = some (1, 16, []) from rfl) (by decide) (by decide) dX3_init_65 ?_
  refine pw_iinc2 C (by decide) dX3_init_66 ?_
  refine pw_goto (tgt := 41) C dX3_init_69 (by decide) ?_
  refine pw_iload2 C dX3_init_41 ?_
  refine pw_iconst C dX3_init_42 ?_
  refine pw_icmp_ge (tgt := 72) C dX3_init_43 (by decide) (by decide) (by decide) (fun h => absurd h (by decide)) (fun h => ?_)
  refine pv_aload C (i := 0) (b := a1) rfl dX3_init_46 ?_
  refine pw_get0 C (k := 1) (show nl3[1]? = some (0, 3, [0, 0, 0, 0, 4]) from rfl) kc_3 gT_wsX30 4 (by decide) rfl fl_X3_24 dX3_init_47 ?_
  have C : CXok X (KL D t [a0, a1, a2]) nl3 _ _ _ _ _ := C
  change PW X (KL D t [a0, a1, a2]) nl3 _ (1, 16) _ _ [some (Value.ref a1), some (iV (0 + 1)), some (iV ((0 + 1) + 1))] [Value.ref a2] _
  refine pw_iload1 C dX3_init_50 ?_
  refine pw_iconst C dX3_init_51 ?_
  refine pw_imul C dX3_init_52 ?_
  refine pw_top C 4 (by decide) ?_
  refine pw_iload2 C dX3_init_53 ?_
  refine pw_iadd C dX3_init_54 ?_
  refine pw_top C 6 (by decide) ?_
  refine pw_iload1 C dX3_init_55 ?_
  refine pw_iload2 C dX3_init_56 ?_
  refine pw_icmp_ne (tgt := 64) C dX3_init_57 (by decide) (by decide) (by decide) (fun h => ?_) (fun h => absurd h (by decide))
  refine pw_iconst C dX3_init_64 ?_
  refine pw_iastore C (k := 2) (show nl3[2]? = some (1, 16, []) from rfl) (by decide) (by decide) dX3_init_65 ?_
  refine pw_iinc2 C (by decide) dX3_init_66 ?_
  refine pw_goto (tgt := 41) C dX3_init_69 (by decide) ?_
  refine pw_iload2 C dX3_init_41 ?_
  refine pw_iconst C dX3_init_42 ?_
  refine pw_icmp_ge (tgt := 72) C dX3_init_43 (by decide) (by decide) (by decide) (fun h => absurd h (by decide)) (fun h => ?_)
  refine pv_aload C (i := 0) (b := a1) rfl dX3_init_46 ?_
  refine pw_get0 C (k := 1) (show nl3[1]? = some (0, 3, [0, 0, 0, 0, 4]) from rfl) kc_3 gT_wsX30 4 (by decide) rfl fl_X3_24 dX3_init_47 ?_
  have C : CXok X (KL D t [a0, a1, a2]) nl3 _ _ _ _ _ := C
  change PW X (KL D t [a0, a1, a2]) nl3 _ (1, 16) _ _ [some (Value.ref a1), some (iV (0 + 1)), some (iV (((0 + 1) + 1) + 1))] [Value.ref a2] _
  refine pw_iload1 C dX3_init_50 ?_
  refine pw_iconst C dX3_init_51 ?_
  refine pw_imul C dX3_init_52 ?_
  refine pw_top C 4 (by decide) ?_
  refine pw_iload2 C dX3_init_53 ?_
  refine pw_iadd C dX3_init_54 ?_
  refine pw_top C 7 (by decide) ?_
  refine pw_iload1 C dX3_init_55 ?_
  refine pw_iload2 C dX3_init_56 ?_
  refine pw_icmp_ne (tgt := 64) C dX3_init_57 (by decide) (by decide) (by decide) (fun h => ?_) (fun h => absurd h (by decide))
  refine pw_iconst C dX3_init_64 ?_
  refine pw_iastore C (k := 2) (show nl3[2]? = some (1, 16, []) from rfl) (by decide) (by decide) dX3_init_65 ?_
  refine pw_iinc2 C (by decide) dX3_init_66 ?_
  refine pw_goto (tgt := 41) C dX3_init_69 (by decide) ?_
  refine pw_iload2 C dX3_init_41 ?_
  refine pw_iconst C dX3_init_42 ?_
  refine pw_icmp_ge (tgt := 72) C dX3_init_43 (by decide) (by decide) (by decide) (fun h => ?_) (fun h => absurd h (by decide))
  refine pw_iinc1 C (by decide) dX3_init_72 ?_
  refine pw_goto (tgt := 34) C dX3_init_75 (by decide) ?_
  refine pw_iload1 C dX3_init_34 ?_
  refine pw_iconst C dX3_init_35 ?_
  refine pw_icmp_ge (tgt := 78) C dX3_init_36 (by decide) (by decide) (by decide) (fun h => absurd h (by decide)) (fun h => ?_)
  refine pw_iconst C dX3_init_39 ?_
  refine pw_istore2 C (by decide) dX3_init_40 ?_
  refine pw_iload2 C dX3_init_41 ?_
  refine pw_iconst C dX3_init_42 ?_
  refine pw_icmp_ge (tgt := 72) C dX3_init_43 (by decide) (by decide) (by decide) (fun h => absurd h (by decide)) (fun h => ?_)
  refine pv_aload C (i := 0) (b := a1) rfl dX3_init_46 ?_
  refine pw_get0 C (k := 1) (show nl3[1]? = some (0, 3, [0, 0, 0, 0, 4]) from rfl) kc_3 gT_wsX30 4 (by decide) rfl fl_X3_24 dX3_init_47 ?_
  have C : CXok X (KL D t [a0, a1, a2]) nl3 _ _ _ _ _ := C
  change PW X (KL D t [a0, a1, a2]) nl3 _ (1, 16) _ _ [some (Value.ref a1), some (iV ((0 + 1) + 1)), some (iV 0)] [Value.ref a2] _
  refine pw_iload1 C dX3_init_50 ?_
  refine pw_iconst C dX3_init_51 ?_
  refine pw_imul C dX3_init_52 ?_
  refine pw_top C 8 (by decide) ?_
  refine pw_iload2 C dX3_init_53 ?_
  refine pw_iadd C dX3_init_54 ?_
  refine pw_top C 8 (by decide) ?_
  refine pw_iload1 C dX3_init_55 ?_
  refine pw_iload2 C dX3_init_56 ?_
  refine pw_icmp_ne (tgt := 64) C dX3_init_57 (by decide) (by decide) (by decide) (fun h => ?_) (fun h => absurd h (by decide))
  refine pw_iconst C dX3_init_64 ?_
  refine pw_iastore C (k := 2) (show nl3[2]? = some (1, 16, []) from rfl) (by decide) (by decide) dX3_init_65 ?_
  refine pw_iinc2 C (by decide) dX3_init_66 ?_
  refine pw_goto (tgt := 41) C dX3_init_69 (by decide) ?_
  refine pw_iload2 C dX3_init_41 ?_
  refine pw_iconst C dX3_init_42 ?_
  refine pw_icmp_ge (tgt := 72) C dX3_init_43 (by decide) (by decide) (by decide) (fun h => absurd h (by decide)) (fun h => ?_)
  refine pv_aload C (i := 0) (b := a1) rfl dX3_init_46 ?_
  refine pw_get0 C (k := 1) (show nl3[1]? = some (0, 3, [0, 0, 0, 0, 4]) from rfl) kc_3 gT_wsX30 4 (by decide) rfl fl_X3_24 dX3_init_47 ?_
  have C : CXok X (KL D t [a0, a1, a2]) nl3 _ _ _ _ _ := C
  change PW X (KL D t [a0, a1, a2]) nl3 _ (1, 16) _ _ [some (Value.ref a1), some (iV ((0 + 1) + 1)), some (iV (0 + 1))] [Value.ref a2] _
  refine pw_iload1 C dX3_init_50 ?_
  refine pw_iconst C dX3_init_51 ?_
  refine pw_imul C dX3_init_52 ?_
  refine pw_top C 8 (by decide) ?_
  refine pw_iload2 C dX3_init_53 ?_
  refine pw_iadd C dX3_init_54 ?_
  refine pw_top C 9 (by decide) ?_
  refine pw_iload1 C dX3_init_55 ?_
  refine pw_iload2 C dX3_init_56 ?_
  refine pw_icmp_ne (tgt := 64) C dX3_init_57 (by decide) (by decide) (by decide) (fun h => ?_) (fun h => absurd h (by decide))
  refine pw_iconst C dX3_init_64 ?_
  refine pw_iastore C (k := 2) (show nl3[2]? = some (1, 16, []) from rfl) (by decide) (by decide) dX3_init_65 ?_
  refine pw_iinc2 C (by decide) dX3_init_66 ?_
  refine pw_goto (tgt := 41) C dX3_init_69 (by decide) ?_
  refine pw_iload2 C dX3_init_41 ?_
  refine pw_iconst C dX3_init_42 ?_
  refine pw_icmp_ge (tgt := 72) C dX3_init_43 (by decide) (by decide) (by decide) (fun h => absurd h (by decide)) (fun h => ?_)
  refine pv_aload C (i := 0) (b := a1) rfl dX3_init_46 ?_
  refine pw_get0 C (k := 1) (show nl3[1]? = some (0, 3, [0, 0, 0, 0, 4]) from rfl) kc_3 gT_wsX30 4 (by decide) rfl fl_X3_24 dX3_init_47 ?_
  have C : CXok X (KL D t [a0, a1, a2]) nl3 _ _ _ _ _ := C
  change PW X (KL D t [a0, a1, a2]) nl3 _ (1, 16) _ _ [some (Value.ref a1), some (iV ((0 + 1) + 1)), some (iV ((0 + 1) + 1))] [Value.ref a2] _
  refine pw_iload1 C dX3_init_50 ?_
  refine pw_iconst C dX3_init_51 ?_
  refine pw_imul C dX3_init_52 ?_
  refine pw_top C 8 (by decide) ?_
  refine pw_iload2 C dX3_init_53 ?_
  refine pw_iadd C dX3_init_54 ?_
  refine pw_top C 10 (by decide) ?_
  refine pw_iload1 C dX3_init_55 ?_
  refine pw_iload2 C dX3_init_56 ?_
  refine pw_icmp_ne (tgt := 64) C dX3_init_57 (by decide) (by decide) (by decide) (fun h => absurd h (by decide)) (fun h => ?_)
  refine pw_iconst C dX3_init_60 ?_
  refine pw_goto (tgt := 65) C dX3_init_61 (by decide) ?_
  refine pw_iastore C (k := 2) (show nl3[2]? = some (1, 16, []) from rfl) (by decide) (by decide) dX3_init_65 ?_
  refine pw_iinc2 C (by decide) dX3_init_66 ?_
  refine pw_goto (tgt := 41) C dX3_init_69 (by decide) ?_
  refine pw_iload2 C dX3_init_41 ?_
  refine pw_iconst C dX3_init_42 ?_
  refine pw_icmp_ge (tgt := 72) C dX3_init_43 (by decide) (by decide) (by decide) (fun h => absurd h (by decide)) (fun h => ?_)
  refine pv_aload C (i := 0) (b := a1) rfl dX3_init_46 ?_
  refine pw_get0 C (k := 1) (show nl3[1]? = some (0, 3, [0, 0, 0, 0, 4]) from rfl) kc_3 gT_wsX30 4 (by decide) rfl fl_X3_24 dX3_init_47 ?_
  have C : CXok X (KL D t [a0, a1, a2]) nl3 _ _ _ _ _ := C
  change PW X (KL D t [a0, a1, a2]) nl3 _ (1, 16) _ _ [some (Value.ref a1), some (iV ((0 + 1) + 1)), some (iV (((0 + 1) + 1) + 1))] [Value.ref a2] _
  refine pw_iload1 C dX3_init_50 ?_
  refine pw_iconst C dX3_init_51 ?_
  refine pw_imul C dX3_init_52 ?_
  refine pw_top C 8 (by decide) ?_
  refine pw_iload2 C dX3_init_53 ?_
  refine pw_iadd C dX3_init_54 ?_
  refine pw_top C 11 (by decide) ?_
  refine pw_iload1 C dX3_init_55 ?_
  refine pw_iload2 C dX3_init_56 ?_
  refine pw_icmp_ne (tgt := 64) C dX3_init_57 (by decide) (by decide) (by decide) (fun h => ?_) (fun h => absurd h (by decide))
  refine pw_iconst C dX3_init_64 ?_
  refine pw_iastore C (k := 2) (show nl3[2]? = some (1, 16, []) from rfl) (by decide) (by decide) dX3_init_65 ?_
  refine pw_iinc2 C (by decide) dX3_init_66 ?_
  refine pw_goto (tgt := 41) C dX3_init_69 (by decide) ?_
  refine pw_iload2 C dX3_init_41 ?_
  refine pw_iconst C dX3_init_42 ?_
  refine pw_icmp_ge (tgt := 72) C dX3_init_43 (by decide) (by decide) (by decide) (fun h => ?_) (fun h => absurd h (by decide))
  refine pw_iinc1 C (by decide) dX3_init_72 ?_
  refine pw_goto (tgt := 34) C dX3_init_75 (by decide) ?_
  refine pw_iload1 C dX3_init_34 ?_
  refine pw_iconst C dX3_init_35 ?_
  refine pw_icmp_ge (tgt := 78) C dX3_init_36 (by decide) (by decide) (by decide) (fun h => absurd h (by decide)) (fun h => ?_)
  refine pw_iconst C dX3_init_39 ?_
  refine pw_istore2 C (by decide) dX3_init_40 ?_
  refine pw_iload2 C dX3_init_41 ?_
  refine pw_iconst C dX3_init_42 ?_
  refine pw_icmp_ge (tgt := 72) C dX3_init_43 (by decide) (by decide) (by decide) (fun h => absurd h (by decide)) (fun h => ?_)
  refine pv_aload C (i := 0) (b := a1) rfl dX3_init_46 ?_
  refine pw_get0 C (k := 1) (show nl3[1]? = some (0, 3, [0, 0, 0, 0, 4]) from rfl) kc_3 gT_wsX30 4 (by decide) rfl fl_X3_24 dX3_init_47 ?_
  have C : CXok X (KL D t [a0, a1, a2]) nl3 _ _ _ _ _ := C
  change PW X (KL D t [a0, a1, a2]) nl3 _ (1, 16) _ _ [some (Value.ref a1), some (iV (((0 + 1) + 1) + 1)), some (iV 0)] [Value.ref a2] _
  refine pw_iload1 C dX3_init_50 ?_
  refine pw_iconst C dX3_init_51 ?_
  refine pw_imul C dX3_init_52 ?_
  refine pw_top C 12 (by decide) ?_
  refine pw_iload2 C dX3_init_53 ?_
  refine pw_iadd C dX3_init_54 ?_
  refine pw_top C 12 (by decide) ?_
  refine pw_iload1 C dX3_init_55 ?_
  refine pw_iload2 C dX3_init_56 ?_
  refine pw_icmp_ne (tgt := 64) C dX3_init_57 (by decide) (by decide) (by decide) (fun h => ?_) (fun h => absurd h (by decide))
  refine pw_iconst C dX3_init_64 ?_
  refine pw_iastore C (k := 2) (show nl3[2]? = some (1, 16, []) from rfl) (by decide) (by decide) dX3_init_65 ?_
  refine pw_iinc2 C (by decide) dX3_init_66 ?_
  refine pw_goto (tgt := 41) C dX3_init_69 (by decide) ?_
  refine pw_iload2 C dX3_init_41 ?_
  refine pw_iconst C dX3_init_42 ?_
  refine pw_icmp_ge (tgt := 72) C dX3_init_43 (by decide) (by decide) (by decide) (fun h => absurd h (by decide)) (fun h => ?_)
  refine pv_aload C (i := 0) (b := a1) rfl dX3_init_46 ?_
  refine pw_get0 C (k := 1) (show nl3[1]? = some (0, 3, [0, 0, 0, 0, 4]) from rfl) kc_3 gT_wsX30 4 (by decide) rfl fl_X3_24 dX3_init_47 ?_
  have C : CXok X (KL D t [a0, a1, a2]) nl3 _ _ _ _ _ := C
  change PW X (KL D t [a0, a1, a2]) nl3 _ (1, 16) _ _ [some (Value.ref a1), some (iV (((0 + 1) + 1) + 1)), some (iV (0 + 1))] [Value.ref a2] _
  refine pw_iload1 C dX3_init_50 ?_
  refine pw_iconst C dX3_init_51 ?_
  refine pw_imul C dX3_init_52 ?_
  refine pw_top C 12 (by decide) ?_
  refine pw_iload2 C dX3_init_53 ?_
  refine pw_iadd C dX3_init_54 ?_
  refine pw_top C 13 (by decide) ?_
  refine pw_iload1 C dX3_init_55 ?_
  refine pw_iload2 C dX3_init_56 ?_
  refine pw_icmp_ne (tgt := 64) C dX3_init_57 (by decide) (by decide) (by decide) (fun h => ?_) (fun h => absurd h (by decide))
  refine pw_iconst C dX3_init_64 ?_
  refine pw_iastore C (k := 2) (show nl3[2]? = some (1, 16, []) from rfl) (by decide) (by decide) dX3_init_65 ?_
  refine pw_iinc2 C (by decide) dX3_init_66 ?_
  refine pw_goto (tgt := 41) C dX3_init_69 (by decide) ?_
  refine pw_iload2 C dX3_init_41 ?_
  refine pw_iconst C dX3_init_42 ?_
  refine pw_icmp_ge (tgt := 72) C dX3_init_43 (by decide) (by decide) (by decide) (fun h => absurd h (by decide)) (fun h => ?_)
  refine pv_aload C (i := 0) (b := a1) rfl dX3_init_46 ?_
  refine pw_get0 C (k := 1) (show nl3[1]? = some (0, 3, [0, 0, 0, 0, 4]) from rfl) kc_3 gT_wsX30 4 (by decide) rfl fl_X3_24 dX3_init_47 ?_
  have C : CXok X (KL D t [a0, a1, a2]) nl3 _ _ _ _ _ := C
  change PW X (KL D t [a0, a1, a2]) nl3 _ (1, 16) _ _ [some (Value.ref a1), some (iV (((0 + 1) + 1) + 1)), some (iV ((0 + 1) + 1))] [Value.ref a2] _
  refine pw_iload1 C dX3_init_50 ?_
  refine pw_iconst C dX3_init_51 ?_
  refine pw_imul C dX3_init_52 ?_
  refine pw_top C 12 (by decide) ?_
  refine pw_iload2 C dX3_init_53 ?_
  refine pw_iadd C dX3_init_54 ?_
  refine pw_top C 14 (by decide) ?_
  refine pw_iload1 C dX3_init_55 ?_
  refine pw_iload2 C dX3_init_56 ?_
  refine pw_icmp_ne (tgt := 64) C dX3_init_57 (by decide) (by decide) (by decide) (fun h => ?_) (fun h => absurd h (by decide))
  refine pw_iconst C dX3_init_64 ?_
  refine pw_iastore C (k := 2) (show nl3[2]? = some (1, 16, []) from rfl) (by decide) (by decide) dX3_init_65 ?_
  refine pw_iinc2 C (by decide) dX3_init_66 ?_
  refine pw_goto (tgt := 41) C dX3_init_69 (by decide) ?_
  refine pw_iload2 C dX3_init_41 ?_
  refine pw_iconst C dX3_init_42 ?_
  refine pw_icmp_ge (tgt := 72) C dX3_init_43 (by decide) (by decide) (by decide) (fun h => absurd h (by decide)) (fun h => ?_)
  refine pv_aload C (i := 0) (b := a1) rfl dX3_init_46 ?_
  refine pw_get0 C (k := 1) (show nl3[1]? = some (0, 3, [0, 0, 0, 0, 4]) from rfl) kc_3 gT_wsX30 4 (by decide) rfl fl_X3_24 dX3_init_47 ?_
  have C : CXok X (KL D t [a0, a1, a2]) nl3 _ _ _ _ _ := C
  change PW X (KL D t [a0, a1, a2]) nl3 _ (1, 16) _ _ [some (Value.ref a1), some (iV (((0 + 1) + 1) + 1)), some (iV (((0 + 1) + 1) + 1))] [Value.ref a2] _
  refine pw_iload1 C dX3_init_50 ?_
  refine pw_iconst C dX3_init_51 ?_
  refine pw_imul C dX3_init_52 ?_
  refine pw_top C 12 (by decide) ?_
  refine pw_iload2 C dX3_init_53 ?_
  refine pw_iadd C dX3_init_54 ?_
  refine pw_top C 15 (by decide) ?_
  refine pw_iload1 C dX3_init_55 ?_
  refine pw_iload2 C dX3_init_56 ?_
  refine pw_icmp_ne (tgt := 64) C dX3_init_57 (by decide) (by decide) (by decide) (fun h => absurd h (by decide)) (fun h => ?_)
  refine pw_iconst C dX3_init_60 ?_
  refine pw_goto (tgt := 65) C dX3_init_61 (by decide) ?_
  refine pw_iastore C (k := 2) (show nl3[2]? = some (1, 16, []) from rfl) (by decide) (by decide) dX3_init_65 ?_
  refine pw_iinc2 C (by decide) dX3_init_66 ?_
  refine pw_goto (tgt := 41) C dX3_init_69 (by decide) ?_
  refine pw_iload2 C dX3_init_41 ?_
  refine pw_iconst C dX3_init_42 ?_
  refine pw_icmp_ge (tgt := 72) C dX3_init_43 (by decide) (by decide) (by decide) (fun h => ?_) (fun h => absurd h (by decide))
  refine pw_iinc1 C (by decide) dX3_init_72 ?_
  refine pw_goto (tgt := 34) C dX3_init_75 (by decide) ?_
  refine pw_iload1 C dX3_init_34 ?_
  refine pw_iconst C dX3_init_35 ?_
  refine pw_icmp_ge (tgt := 78) C dX3_init_36 (by decide) (by decide) (by decide) (fun h => ?_) (fun h => absurd h (by decide))
  exact pw_vretN [a2] C rfl rfl (by decide) (by decide) dX3_init_78
set_option maxHeartbeats 4000000 in
theorem n_X6_init_1 (l : Launch) (D : va_G) (t : ClassId × ClassId × ClassId × ClassId) (a0 a1 a2 a3 : Nat) : NC l D t [a0, a1, a2, a3] nl5 nl9 nm1 nm2 (fun _ => True) yX6_init cX6_init 1 1 2 80 [Value.ref a3] := by
  refine nc_intro RX6 rfl (by decide +kernel) [some (Value.ref a3)] rfl (cat_R cat_nil) (Nat.le_of_ble_eq_true rfl) (fun X hX C hN hc hs hB => ?_)
  have hN := hN rfl
  refine pv_aload C (i := 0) (b := a3) rfl dX6_init_0 ?_
  refine pw_obj C ml_X6_3 dX6_init_1 (Nat.le_of_ble_eq_true rfl) (by decide) ?_
  refine pv_aload C (i := 0) (b := a3) rfl dX6_init_4 ?_
  refine pw_iconst C dX6_init_5 ?_
  refine pw_put0 C (k := 3) (show nl5[3]? = some (0, 6, [0, 1, 1]) from rfl) kc_6 gT_wsX60 tyX6 tyX6_ok nmX6 0 (by decide) rfl rfl rfl rfl fl_X6_9 dX6_init_6 ?_
  refine pv_aload C (i := 0) (b := a3) rfl dX6_init_9 ?_
  refine pw_bipush C dX6_init_10 (by decide) ?_
  refine pw_newi C (n := 40) rfl rfl (up2_z (a := 4) (k := 3) (by decide) (nmz_1 4 (by decide))) (by decide) ac__int ⟨by rw [hc]; decide, by rw [hs]; decide⟩ dX6_init_12 (fun a4 C => ?_)
  have C : CXok X (KL D t [a0, a1, a2, a3, a4]) nl6 _ _ _ _ _ := C
  change PW X (KL D t [a0, a1, a2, a3, a4]) nl6 _ (1, 40) _ _ [some (Value.ref a3)] [Value.ref a4, Value.ref a3] _
  refine pw_putR C (k := 3) (show nl6[3]? = some (0, 6, [0, 1, 1]) from rfl) kc_6 gT_wsX60 tyX6 tyX6_ok nmX6 1 (by decide) 4 rfl hN rfl rfl rfl (by decide) fl_X6_15 dX6_init_14 (fun C => ?_)
  have C : CXok X (KL D t [a0, a1, a2, a3, a4]) nl7 _ _ _ _ _ := C
  change PW X (KL D t [a0, a1, a2, a3, a4]) nl7 _ (1, 40) _ _ [some (Value.ref a3)] [] _
  refine pv_aload C (i := 0) (b := a3) rfl dX6_init_17 ?_
  refine pw_bipush C dX6_init_18 (by decide) ?_
  refine pw_newb C (n := 40) rfl rfl (up2_z (a := 5) (k := 3) (by decide) (nmz_1 5 (by decide))) (by decide) ac__byte ⟨by rw [hc]; decide, by rw [hs]; decide⟩ dX6_init_20 (fun a5 C => ?_)
  have C : CXok X (KL D t [a0, a1, a2, a3, a4, a5]) nl8 _ _ _ _ _ := C
  change PW X (KL D t [a0, a1, a2, a3, a4, a5]) nl8 _ (2, 80) _ _ [some (Value.ref a3)] [Value.ref a5, Value.ref a3] _
  refine pw_putR C (k := 3) (show nl8[3]? = some (0, 6, [0, 6, 1]) from rfl) kc_6 gT_wsX60 tyX6 tyX6_ok nmX6 2 (by decide) 5 rfl hN rfl rfl rfl (by decide) fl_X6_19 dX6_init_22 (fun C => ?_)
  have C : CXok X (KL D t [a0, a1, a2, a3, a4, a5]) nl9 _ _ _ _ _ := C
  change PW X (KL D t [a0, a1, a2, a3, a4, a5]) nl9 _ (2, 80) _ _ [some (Value.ref a3)] [] _
  exact pw_vretN [a4, a5] C rfl rfl (by decide) (by decide) dX6_init_25
set_option maxHeartbeats 4000000 in
theorem n_X9_init_1 (l : Launch) (D : va_G) (t : ClassId × ClassId × ClassId × ClassId) (a0 a1 a2 a3 a4 a5 a6 : Nat) : NC l D t [a0, a1, a2, a3, a4, a5, a6] nl11 nl15 nm2 nm3 (fun _ => True) yX9_init cX9_init 1 1 2 64 [Value.ref a6] := by
  refine nc_intro RX9 rfl (by decide +kernel) [some (Value.ref a6)] rfl (cat_R cat_nil) (Nat.le_of_ble_eq_true rfl) (fun X hX C hN hc hs hB => ?_)
  have hN := hN rfl
  refine pv_aload C (i := 0) (b := a6) rfl dX9_init_0 ?_
  refine pw_obj C ml_X9_3 dX9_init_1 (Nat.le_of_ble_eq_true rfl) (by decide) ?_
  refine pv_aload C (i := 0) (b := a6) rfl dX9_init_4 ?_
  refine pw_iconst C dX9_init_5 ?_
  refine pw_put0 C (k := 6) (show nl11[6]? = some (0, 9, [0, 0, 1, 1]) from rfl) kc_9 gT_wsX90 tyX9 tyX9_ok nmX9 0 (by decide) rfl rfl rfl rfl fl_X9_9 dX9_init_6 ?_
  refine pv_aload C (i := 0) (b := a6) rfl dX9_init_9 ?_
  refine pw_iconst C dX9_init_10 ?_
  refine pw_put0 C (k := 6) (show nl11[6]? = some (0, 9, [0, 0, 1, 1]) from rfl) kc_9 gT_wsX90 tyX9 tyX9_ok nmX9 1 (by decide) rfl rfl rfl rfl fl_X9_15 dX9_init_11 ?_
  refine pv_aload C (i := 0) (b := a6) rfl dX9_init_14 ?_
  refine pw_bipush C dX9_init_15 (by decide) ?_
  refine pw_newi C (n := 56) rfl rfl (up2_z (a := 7) (k := 6) (by decide) (up2_z (a := 7) (k := 6) (by decide) (nmz_2 7 (by decide)))) (by decide) ac__int ⟨by rw [hc]; decide, by rw [hs]; decide⟩ dX9_init_17 (fun a7 C => ?_)
  have C : CXok X (KL D t [a0, a1, a2, a3, a4, a5, a6, a7]) nl12 _ _ _ _ _ := C
  change PW X (KL D t [a0, a1, a2, a3, a4, a5, a6, a7]) nl12 _ (1, 56) _ _ [some (Value.ref a6)] [Value.ref a7, Value.ref a6] _
  refine pw_putR C (k := 6) (show nl12[6]? = some (0, 9, [0, 0, 1, 1]) from rfl) kc_9 gT_wsX90 tyX9 tyX9_ok nmX9 2 (by decide) 7 rfl hN rfl rfl rfl (by decide) fl_X9_18 dX9_init_19 (fun C => ?_)
  have C : CXok X (KL D t [a0, a1, a2, a3, a4, a5, a6, a7]) nl13 _ _ _ _ _ := C
  change PW X (KL D t [a0, a1, a2, a3, a4, a5, a6, a7]) nl13 _ (1, 56) _ _ [some (Value.ref a6)] [] _
  refine pv_aload C (i := 0) (b := a6) rfl dX9_init_22 ?_
  refine pw_bipush C dX9_init_23 (by decide) ?_
  refine pw_newi C (n := 8) rfl rfl (up2_z (a := 8) (k := 6) (by decide) (up2_z (a := 8) (k := 6) (by decide) (nmz_2 8 (by decide)))) (by decide) ac__int ⟨by rw [hc]; decide, by rw [hs]; decide⟩ dX9_init_25 (fun a8 C => ?_)
  have C : CXok X (KL D t [a0, a1, a2, a3, a4, a5, a6, a7, a8]) nl14 _ _ _ _ _ := C
  change PW X (KL D t [a0, a1, a2, a3, a4, a5, a6, a7, a8]) nl14 _ (2, 64) _ _ [some (Value.ref a6)] [Value.ref a8, Value.ref a6] _
  refine pw_putR C (k := 6) (show nl14[6]? = some (0, 9, [0, 0, 9, 1]) from rfl) kc_9 gT_wsX90 tyX9 tyX9_ok nmX9 3 (by decide) 8 rfl hN rfl rfl rfl (by decide) fl_X9_22 dX9_init_27 (fun C => ?_)
  have C : CXok X (KL D t [a0, a1, a2, a3, a4, a5, a6, a7, a8]) nl15 _ _ _ _ _ := C
  change PW X (KL D t [a0, a1, a2, a3, a4, a5, a6, a7, a8]) nl15 _ (2, 64) _ _ [some (Value.ref a6)] [] _
  exact pw_vretN [a7, a8] C rfl rfl (by decide) (by decide) dX9_init_30
set_option maxHeartbeats 4000000 in
theorem n_X7_init_1 (l : Launch) (D : va_G) (t : ClassId × ClassId × ClassId × ClassId) (a0 a1 a2 a3 a4 a5 a6 a7 a8 a9 : Nat) : NC l D t [a0, a1, a2, a3, a4, a5, a6, a7, a8, a9] nl17 nl21 nm3 nm4 (fun _ => True) yX7_init cX7_init 1 1 2 125 [Value.ref a9] := by
  refine nc_intro RX7 rfl (by decide +kernel) [some (Value.ref a9)] rfl (cat_R cat_nil) (Nat.le_of_ble_eq_true rfl) (fun X hX C hN hc hs hB => ?_)
  have hN := hN rfl
  refine pv_aload C (i := 0) (b := a9) rfl dX7_init_0 ?_
  refine pw_obj C ml_X7_3 dX7_init_1 (Nat.le_of_ble_eq_true rfl) (by decide) ?_
  refine pv_aload C (i := 0) (b := a9) rfl dX7_init_4 ?_
  refine pw_iconst C dX7_init_5 ?_
  refine pw_put0 C (k := 9) (show nl17[9]? = some (0, 7, [0, 1, 1]) from rfl) kc_7 gT_wsX70 tyX7 tyX7_ok nmX7 0 (by decide) rfl rfl rfl rfl fl_X7_9 dX7_init_6 ?_
  refine pv_aload C (i := 0) (b := a9) rfl dX7_init_9 ?_
  refine pw_bipush C dX7_init_10 (by decide) ?_
  refine pw_newi C (n := 120) rfl rfl (up2_z (a := 10) (k := 9) (by decide) (nmz_3 10 (by decide))) (by decide) ac__int ⟨by rw [hc]; decide, by rw [hs]; decide⟩ dX7_init_12 (fun a10 C => ?_)
  have C : CXok X (KL D t [a0, a1, a2, a3, a4, a5, a6, a7, a8, a9, a10]) nl18 _ _ _ _ _ := C
  change PW X (KL D t [a0, a1, a2, a3, a4, a5, a6, a7, a8, a9, a10]) nl18 _ (1, 120) _ _ [some (Value.ref a9)] [Value.ref a10, Value.ref a9] _
  refine pw_putR C (k := 9) (show nl18[9]? = some (0, 7, [0, 1, 1]) from rfl) kc_7 gT_wsX70 tyX7 tyX7_ok nmX7 1 (by decide) 10 rfl hN rfl rfl rfl (by decide) fl_X7_15 dX7_init_14 (fun C => ?_)
  have C : CXok X (KL D t [a0, a1, a2, a3, a4, a5, a6, a7, a8, a9, a10]) nl19 _ _ _ _ _ := C
  change PW X (KL D t [a0, a1, a2, a3, a4, a5, a6, a7, a8, a9, a10]) nl19 _ (1, 120) _ _ [some (Value.ref a9)] [] _
  refine pv_aload C (i := 0) (b := a9) rfl dX7_init_17 ?_
  refine pw_iconst C dX7_init_18 ?_
  refine pw_newi C (n := 5) rfl rfl (up2_z (a := 11) (k := 9) (by decide) (nmz_3 11 (by decide))) (by decide) ac__int ⟨by rw [hc]; decide, by rw [hs]; decide⟩ dX7_init_19 (fun a11 C => ?_)
  have C : CXok X (KL D t [a0, a1, a2, a3, a4, a5, a6, a7, a8, a9, a10, a11]) nl20 _ _ _ _ _ := C
  change PW X (KL D t [a0, a1, a2, a3, a4, a5, a6, a7, a8, a9, a10, a11]) nl20 _ (2, 125) _ _ [some (Value.ref a9)] [Value.ref a11, Value.ref a9] _
  refine pw_putR C (k := 9) (show nl20[9]? = some (0, 7, [0, 12, 1]) from rfl) kc_7 gT_wsX70 tyX7 tyX7_ok nmX7 2 (by decide) 11 rfl hN rfl rfl rfl (by decide) fl_X7_19 dX7_init_21 (fun C => ?_)
  have C : CXok X (KL D t [a0, a1, a2, a3, a4, a5, a6, a7, a8, a9, a10, a11]) nl21 _ _ _ _ _ := C
  change PW X (KL D t [a0, a1, a2, a3, a4, a5, a6, a7, a8, a9, a10, a11]) nl21 _ (2, 125) _ _ [some (Value.ref a9)] [] _
  exact pw_vretN [a10, a11] C rfl rfl (by decide) (by decide) dX7_init_24
set_option maxHeartbeats 4000000 in
theorem n_X8_init_1 (l : Launch) (D : va_G) (t : ClassId × ClassId × ClassId × ClassId) (a0 a1 a2 a3 a4 a5 a6 a7 a8 a9 a10 a11 a12 a13 a14 a15 : Nat) : NC l D t [a0, a1, a2, a3, a4, a5, a6, a7, a8, a9, a10, a11, a12, a13, a14, a15] nl30 nl41 nm5 nm6 (fun _ => True) yX8_init cX8_init 4 1 5 143 [Value.ref a15, Value.ref a1, iV 7, iV 8] := by
  refine nc_intro RX8 rfl (by decide +kernel) [some (Value.ref a15), some (Value.ref a1), some (iV 7), some (iV 8)] rfl (cat_R (cat_R (cat_i (cat_i cat_nil)))) (Nat.le_of_ble_eq_true rfl) (fun X hX C hN hc hs hB => ?_)
  have hN := hN rfl
  refine pv_aload C (i := 0) (b := a15) rfl dX8_init_0 ?_
  refine pw_obj C ml_X8_3 dX8_init_1 (Nat.le_of_ble_eq_true rfl) (by decide) ?_
  refine pv_aload C (i := 0) (b := a15) rfl dX8_init_4 ?_
  refine pw_iconst C dX8_init_5 ?_
  refine pw_put0 C (k := 15) (show nl30[15]? = some (0, 8, [0, 0, 1, 1, 0, 1, 1, 1, 1]) from rfl) kc_8 gT_wsX80 tyX8 tyX8_ok nmX8 0 (by decide) rfl rfl rfl rfl fl_X8_9 dX8_init_6 ?_
  refine pv_aload C (i := 0) (b := a15) rfl dX8_init_9 ?_
  refine pw_iconst C dX8_init_10 ?_
  refine pw_put0 C (k := 15) (show nl30[15]? = some (0, 8, [0, 0, 1, 1, 0, 1, 1, 1, 1]) from rfl) kc_8 gT_wsX80 tyX8 tyX8_ok nmX8 1 (by decide) rfl rfl rfl rfl fl_X8_15 dX8_init_11 ?_
  refine pv_aload C (i := 0) (b := a15) rfl dX8_init_14 ?_
  refine pv_aload C (i := 1) (b := a1) rfl dX8_init_15 ?_
  refine pw_putR C (k := 15) (show nl30[15]? = some (0, 8, [0, 0, 1, 1, 0, 1, 1, 1, 1]) from rfl) kc_8 gT_wsX80 tyX8 tyX8_ok nmX8 5 (by decide) 1 rfl hN rfl rfl rfl (by decide) fl_X8_18 dX8_init_16 (fun C => ?_)
  have C : CXok X (KL D t [a0, a1, a2, a3, a4, a5, a6, a7, a8, a9, a10, a11, a12, a13, a14, a15]) nl31 _ _ _ _ _ := C
  change PW X (KL D t [a0, a1, a2, a3, a4, a5, a6, a7, a8, a9, a10, a11, a12, a13, a14, a15]) nl31 _ (0, 0) _ _ [some (Value.ref a15), some (Value.ref a1), some (iV 7), some (iV 8)] [] _
  refine pv_aload C (i := 0) (b := a15) rfl dX8_init_19 ?_
  refine pw_iload3 C dX8_init_20 ?_
  refine pw_putFI C (k := 15) (show nl31[15]? = some (0, 8, [0, 0, 1, 1, 0, 3, 1, 1, 1]) from rfl) kc_8 gT_wsX80 tyX8 tyX8_ok nmX8 4 (by decide) rfl rfl hN rfl rfl rfl fl_X8_22 dX8_init_21 ?_
  refine pv_aload C (i := 0) (b := a15) rfl dX8_init_24 ?_
  refine pw_iload2 C dX8_init_25 ?_
  refine pw_newi C (n := 7) rfl rfl (up2_z (a := 16) (k := 15) (by decide) (up2_z (a := 16) (k := 15) (by decide) (up2_z (a := 16) (k := 15) (by decide) (nmz_5 16 (by decide))))) (by decide) ac__int ⟨by rw [hc]; decide, by rw [hs]; decide⟩ dX8_init_26 (fun a16 C => ?_)
  have C : CXok X (KL D t [a0, a1, a2, a3, a4, a5, a6, a7, a8, a9, a10, a11, a12, a13, a14, a15, a16]) nl32 _ _ _ _ _ := C
  change PW X (KL D t [a0, a1, a2, a3, a4, a5, a6, a7, a8, a9, a10, a11, a12, a13, a14, a15, a16]) nl32 _ (1, 7) _ _ [some (Value.ref a15), some (Value.ref a1), some (iV 7), some (iV 8)] [Value.ref a16, Value.ref a15] _
  refine pw_putR C (k := 15) (show nl32[15]? = some (0, 8, [0, 0, 1, 1, 0, 3, 1, 1, 1]) from rfl) kc_8 gT_wsX80 tyX8 tyX8_ok nmX8 2 (by decide) 16 rfl hN rfl rfl rfl (by decide) fl_X8_25 dX8_init_28 (fun C => ?_)
  have C : CXok X (KL D t [a0, a1, a2, a3, a4, a5, a6, a7, a8, a9, a10, a11, a12, a13, a14, a15, a16]) nl33 _ _ _ _ _ := C
  change PW X (KL D t [a0, a1, a2, a3, a4, a5, a6, a7, a8, a9, a10, a11, a12, a13, a14, a15, a16]) nl33 _ (1, 7) _ _ [some (Value.ref a15), some (Value.ref a1), some (iV 7), some (iV 8)] [] _
  refine pv_aload C (i := 0) (b := a15) rfl dX8_init_31 ?_
  refine pw_iload2 C dX8_init_32 ?_
  refine pw_iconst C dX8_init_33 ?_
  refine pw_iadd C dX8_init_34 ?_
  refine pw_top C 8 (by decide) ?_
  refine pw_iload3 C dX8_init_35 ?_
  refine pw_imul C dX8_init_36 ?_
  refine pw_top C 64 (by decide) ?_
  refine pw_newi C (n := 64) rfl rfl (up2_z (a := 17) (k := 15) (by decide) (up2_z (a := 17) (k := 15) (by decide) (up2_z (a := 17) (k := 15) (by decide) (nmz_5 17 (by decide))))) (by decide) ac__int ⟨by rw [hc]; decide, by rw [hs]; decide⟩ dX8_init_37 (fun a17 C => ?_)
  have C : CXok X (KL D t [a0, a1, a2, a3, a4, a5, a6, a7, a8, a9, a10, a11, a12, a13, a14, a15, a16, a17]) nl34 _ _ _ _ _ := C
  change PW X (KL D t [a0, a1, a2, a3, a4, a5, a6, a7, a8, a9, a10, a11, a12, a13, a14, a15, a16, a17]) nl34 _ (2, 71) _ _ [some (Value.ref a15), some (Value.ref a1), some (iV 7), some (iV 8)] [Value.ref a17, Value.ref a15] _
  refine pw_putR C (k := 15) (show nl34[15]? = some (0, 8, [0, 0, 18, 1, 0, 3, 1, 1, 1]) from rfl) kc_8 gT_wsX80 tyX8 tyX8_ok nmX8 3 (by decide) 17 rfl hN rfl rfl rfl (by decide) fl_X8_29 dX8_init_39 (fun C => ?_)
  have C : CXok X (KL D t [a0, a1, a2, a3, a4, a5, a6, a7, a8, a9, a10, a11, a12, a13, a14, a15, a16, a17]) nl35 _ _ _ _ _ := C
  change PW X (KL D t [a0, a1, a2, a3, a4, a5, a6, a7, a8, a9, a10, a11, a12, a13, a14, a15, a16, a17]) nl35 _ (2, 71) _ _ [some (Value.ref a15), some (Value.ref a1), some (iV 7), some (iV 8)] [] _
  refine pv_aload C (i := 0) (b := a15) rfl dX8_init_42 ?_
  refine pw_iload2 C dX8_init_43 ?_
  refine pw_iload3 C dX8_init_44 ?_
  refine pw_imul C dX8_init_45 ?_
  refine pw_top C 56 (by decide) ?_
  refine pw_newi C (n := 56) rfl rfl (up2_z (a := 18) (k := 15) (by decide) (up2_z (a := 18) (k := 15) (by decide) (up2_z (a := 18) (k := 15) (by decide) (nmz_5 18 (by decide))))) (by decide) ac__int ⟨by rw [hc]; decide, by rw [hs]; decide⟩ dX8_init_46 (fun a18 C => ?_)
  have C : CXok X (KL D t [a0, a1, a2, a3, a4, a5, a6, a7, a8, a9, a10, a11, a12, a13, a14, a15, a16, a17, a18]) nl36 _ _ _ _ _ := C
  change PW X (KL D t [a0, a1, a2, a3, a4, a5, a6, a7, a8, a9, a10, a11, a12, a13, a14, a15, a16, a17, a18]) nl36 _ (3, 127) _ _ [some (Value.ref a15), some (Value.ref a1), some (iV 7), some (iV 8)] [Value.ref a18, Value.ref a15] _
  refine pw_putR C (k := 15) (show nl36[15]? = some (0, 8, [0, 0, 18, 19, 0, 3, 1, 1, 1]) from rfl) kc_8 gT_wsX80 tyX8 tyX8_ok nmX8 6 (by decide) 18 rfl hN rfl rfl rfl (by decide) fl_X8_32 dX8_init_48 (fun C => ?_)
  have C : CXok X (KL D t [a0, a1, a2, a3, a4, a5, a6, a7, a8, a9, a10, a11, a12, a13, a14, a15, a16, a17, a18]) nl37 _ _ _ _ _ := C
  change PW X (KL D t [a0, a1, a2, a3, a4, a5, a6, a7, a8, a9, a10, a11, a12, a13, a14, a15, a16, a17, a18]) nl37 _ (3, 127) _ _ [some (Value.ref a15), some (Value.ref a1), some (iV 7), some (iV 8)] [] _
  refine pv_aload C (i := 0) (b := a15) rfl dX8_init_51 ?_
  refine pw_iload2 C dX8_init_52 ?_
  refine pw_iconst C dX8_init_53 ?_
  refine pw_iadd C dX8_init_54 ?_
  refine pw_top C 8 (by decide) ?_
  refine pw_newi C (n := 8) rfl rfl (up2_z (a := 19) (k := 15) (by decide) (up2_z (a := 19) (k := 15) (by decide) (up2_z (a := 19) (k := 15) (by decide) (nmz_5 19 (by decide))))) (by decide) ac__int ⟨by rw [hc]; decide, by rw [hs]; decide⟩ dX8_init_55 (fun a19 C => ?_)
  have C : CXok X (KL D t [a0, a1, a2, a3, a4, a5, a6, a7, a8, a9, a10, a11, a12, a13, a14, a15, a16, a17, a18, a19]) nl38 _ _ _ _ _ := C
  change PW X (KL D t [a0, a1, a2, a3, a4, a5, a6, a7, a8, a9, a10, a11, a12, a13, a14, a15, a16, a17, a18, a19]) nl38 _ (4, 135) _ _ [some (Value.ref a15), some (Value.ref a1), some (iV 7), some (iV 8)] [Value.ref a19, Value.ref a15] _
  refine pw_putR C (k := 15) (show nl38[15]? = some (0, 8, [0, 0, 18, 19, 0, 3, 20, 1, 1]) from rfl) kc_8 gT_wsX80 tyX8 tyX8_ok nmX8 7 (by decide) 19 rfl hN rfl rfl rfl (by decide) fl_X8_35 dX8_init_57 (fun C => ?_)
  have C : CXok X (KL D t [a0, a1, a2, a3, a4, a5, a6, a7, a8, a9, a10, a11, a12, a13, a14, a15, a16, a17, a18, a19]) nl39 _ _ _ _ _ := C
  change PW X (KL D t [a0, a1, a2, a3, a4, a5, a6, a7, a8, a9, a10, a11, a12, a13, a14, a15, a16, a17, a18, a19]) nl39 _ (4, 135) _ _ [some (Value.ref a15), some (Value.ref a1), some (iV 7), some (iV 8)] [] _
  refine pv_aload C (i := 0) (b := a15) rfl dX8_init_60 ?_
  refine pw_iload2 C dX8_init_61 ?_
  refine pw_iconst C dX8_init_62 ?_
  refine pw_iadd C dX8_init_63 ?_
  refine pw_top C 8 (by decide) ?_
  refine pw_newi C (n := 8) rfl rfl (up2_z (a := 20) (k := 15) (by decide) (up2_z (a := 20) (k := 15) (by decide) (up2_z (a := 20) (k := 15) (by decide) (nmz_5 20 (by decide))))) (by decide) ac__int ⟨by rw [hc]; decide, by rw [hs]; decide⟩ dX8_init_64 (fun a20 C => ?_)
  have C : CXok X (KL D t [a0, a1, a2, a3, a4, a5, a6, a7, a8, a9, a10, a11, a12, a13, a14, a15, a16, a17, a18, a19, a20]) nl40 _ _ _ _ _ := C
  change PW X (KL D t [a0, a1, a2, a3, a4, a5, a6, a7, a8, a9, a10, a11, a12, a13, a14, a15, a16, a17, a18, a19, a20]) nl40 _ (5, 143) _ _ [some (Value.ref a15), some (Value.ref a1), some (iV 7), some (iV 8)] [Value.ref a20, Value.ref a15] _
  refine pw_putR C (k := 15) (show nl40[15]? = some (0, 8, [0, 0, 18, 19, 0, 3, 20, 21, 1]) from rfl) kc_8 gT_wsX80 tyX8 tyX8_ok nmX8 8 (by decide) 20 rfl hN rfl rfl rfl (by decide) fl_X8_38 dX8_init_66 (fun C => ?_)
  have C : CXok X (KL D t [a0, a1, a2, a3, a4, a5, a6, a7, a8, a9, a10, a11, a12, a13, a14, a15, a16, a17, a18, a19, a20]) nl41 _ _ _ _ _ := C
  change PW X (KL D t [a0, a1, a2, a3, a4, a5, a6, a7, a8, a9, a10, a11, a12, a13, a14, a15, a16, a17, a18, a19, a20]) nl41 _ (5, 143) _ _ [some (Value.ref a15), some (Value.ref a1), some (iV 7), some (iV 8)] [] _
  exact pw_vretN [a16, a17, a18, a19, a20] C rfl rfl (by decide) (by decide) dX8_init_69
set_option maxHeartbeats 4000000 in
theorem n_X0_init_1 (l : Launch) (D : va_G) (t : ClassId × ClassId × ClassId × ClassId) (a0 a1 a2 a3 a4 a5 a6 a7 a8 a9 a10 a11 a12 : Nat) : NC l D t [a0, a1, a2, a3, a4, a5, a6, a7, a8, a9, a10, a11, a12] nl23 nl42 nm4 nm6 (fun _ => True) yX0_init cX0_init 3 2 8 167 [Value.ref a12, Value.ref a1, Value.ref a6] := by
  refine nc_intro RX0 rfl (by decide +kernel) [some (Value.ref a12), some (Value.ref a1), some (Value.ref a6)] rfl (cat_R (cat_R (cat_R cat_nil))) (Nat.le_of_ble_eq_true rfl) (fun X hX C hN hc hs hB => ?_)
  have hN := hN rfl
  refine pv_aload C (i := 0) (b := a12) rfl dX0_init_0 ?_
  refine pw_obj C ml_X0_3 dX0_init_1 (Nat.le_of_ble_eq_true rfl) (by decide) ?_
  refine pv_aload C (i := 0) (b := a12) rfl dX0_init_4 ?_
  refine pw_iconst C dX0_init_5 ?_
  refine pw_put0 C (k := 12) (show nl23[12]? = some (0, 0, [1, 1, 0, 1, 1, 1]) from rfl) kc_0 gT_wsX00 tyX0 tyX0_ok nmX0 2 (by decide) rfl rfl rfl rfl fl_X0_9 dX0_init_6 ?_
  refine pv_aload C (i := 0) (b := a12) rfl dX0_init_9 ?_
  refine pw_bipush C dX0_init_10 (by decide) ?_
  refine pw_newi C (n := 8) rfl rfl (up2_z (a := 13) (k := 12) (by decide) (nmz_4 13 (by decide))) (by decide) ac__int ⟨by rw [hc]; decide, by rw [hs]; decide⟩ dX0_init_12 (fun a13 C => ?_)
  have C : CXok X (KL D t [a0, a1, a2, a3, a4, a5, a6, a7, a8, a9, a10, a11, a12, a13]) nl24 _ _ _ _ _ := C
  change PW X (KL D t [a0, a1, a2, a3, a4, a5, a6, a7, a8, a9, a10, a11, a12, a13]) nl24 _ (1, 8) _ _ [some (Value.ref a12), some (Value.ref a1), some (Value.ref a6)] [Value.ref a13, Value.ref a12] _
  refine pw_putR C (k := 12) (show nl24[12]? = some (0, 0, [1, 1, 0, 1, 1, 1]) from rfl) kc_0 gT_wsX00 tyX0 tyX0_ok nmX0 3 (by decide) 13 rfl hN rfl rfl rfl (by decide) fl_X0_15 dX0_init_14 (fun C => ?_)
  have C : CXok X (KL D t [a0, a1, a2, a3, a4, a5, a6, a7, a8, a9, a10, a11, a12, a13]) nl25 _ _ _ _ _ := C
  change PW X (KL D t [a0, a1, a2, a3, a4, a5, a6, a7, a8, a9, a10, a11, a12, a13]) nl25 _ (1, 8) _ _ [some (Value.ref a12), some (Value.ref a1), some (Value.ref a6)] [] _
  refine pv_aload C (i := 0) (b := a12) rfl dX0_init_17 ?_
  refine pw_bipush C dX0_init_18 (by decide) ?_
  refine pw_newi C (n := 7) rfl rfl (up2_z (a := 14) (k := 12) (by decide) (nmz_4 14 (by decide))) (by decide) ac__int ⟨by rw [hc]; decide, by rw [hs]; decide⟩ dX0_init_20 (fun a14 C => ?_)
  have C : CXok X (KL D t [a0, a1, a2, a3, a4, a5, a6, a7, a8, a9, a10, a11, a12, a13, a14]) nl26 _ _ _ _ _ := C
  change PW X (KL D t [a0, a1, a2, a3, a4, a5, a6, a7, a8, a9, a10, a11, a12, a13, a14]) nl26 _ (2, 15) _ _ [some (Value.ref a12), some (Value.ref a1), some (Value.ref a6)] [Value.ref a14, Value.ref a12] _
  refine pw_putR C (k := 12) (show nl26[12]? = some (0, 0, [1, 1, 0, 15, 1, 1]) from rfl) kc_0 gT_wsX00 tyX0 tyX0_ok nmX0 5 (by decide) 14 rfl hN rfl rfl rfl (by decide) fl_X0_19 dX0_init_22 (fun C => ?_)
  have C : CXok X (KL D t [a0, a1, a2, a3, a4, a5, a6, a7, a8, a9, a10, a11, a12, a13, a14]) nl27 _ _ _ _ _ := C
  change PW X (KL D t [a0, a1, a2, a3, a4, a5, a6, a7, a8, a9, a10, a11, a12, a13, a14]) nl27 _ (2, 15) _ _ [some (Value.ref a12), some (Value.ref a1), some (Value.ref a6)] [] _
  refine pv_aload C (i := 0) (b := a12) rfl dX0_init_25 ?_
  refine pv_aload C (i := 1) (b := a1) rfl dX0_init_26 ?_
  refine pw_putR C (k := 12) (show nl27[12]? = some (0, 0, [1, 1, 0, 15, 1, 16]) from rfl) kc_0 gT_wsX00 tyX0 tyX0_ok nmX0 4 (by decide) 1 rfl hN rfl rfl rfl (by decide) fl_X0_22 dX0_init_27 (fun C => ?_)
  have C : CXok X (KL D t [a0, a1, a2, a3, a4, a5, a6, a7, a8, a9, a10, a11, a12, a13, a14]) nl28 _ _ _ _ _ := C
  change PW X (KL D t [a0, a1, a2, a3, a4, a5, a6, a7, a8, a9, a10, a11, a12, a13, a14]) nl28 _ (2, 15) _ _ [some (Value.ref a12), some (Value.ref a1), some (Value.ref a6)] [] _
  refine pv_aload C (i := 0) (b := a12) rfl dX0_init_30 ?_
  refine pv_aload C (i := 2) (b := a6) rfl dX0_init_31 ?_
  refine pw_putR C (k := 12) (show nl28[12]? = some (0, 0, [1, 1, 0, 15, 3, 16]) from rfl) kc_0 gT_wsX00 tyX0 tyX0_ok nmX0 0 (by decide) 6 rfl hN rfl rfl rfl (by decide) fl_X0_26 dX0_init_32 (fun C => ?_)
  have C : CXok X (KL D t [a0, a1, a2, a3, a4, a5, a6, a7, a8, a9, a10, a11, a12, a13, a14]) nl29 _ _ _ _ _ := C
  change PW X (KL D t [a0, a1, a2, a3, a4, a5, a6, a7, a8, a9, a10, a11, a12, a13, a14]) nl29 _ (2, 15) _ _ [some (Value.ref a12), some (Value.ref a1), some (Value.ref a6)] [] _
  refine pv_aload C (i := 0) (b := a12) rfl dX0_init_35 ?_
  refine pw_newo C (codes := [0, 0, 1, 1, 0, 1, 1, 1, 1]) kc_8 gT_wsX80 tyX8 tyX8_ok rfl rfl rfl (up2_z (a := 15) (k := 12) (by decide) (nmz_4 15 (by decide))) dv_X8 cl_X0_30 it_RX8 in_RX8 ⟨by rw [hc]; decide, by rw [hs]; decide⟩ dX0_init_36 (fun a15 C => ?_)
  have C : CXok X (KL D t [a0, a1, a2, a3, a4, a5, a6, a7, a8, a9, a10, a11, a12, a13, a14, a15]) nl30 _ _ _ _ _ := C
  change PW X (KL D t [a0, a1, a2, a3, a4, a5, a6, a7, a8, a9, a10, a11, a12, a13, a14, a15]) nl30 _ (3, 24) _ _ [some (Value.ref a12), some (Value.ref a1), some (Value.ref a6)] [Value.ref a15, Value.ref a12] _
  refine pw_dup C rfl dX0_init_39 ?_
  refine pv_aload C (i := 1) (b := a1) rfl dX0_init_40 ?_
  refine pw_bipush C dX0_init_41 (by decide) ?_
  refine pw_bipush C dX0_init_43 (by decide) ?_
  refine pw_callN C a15 [Value.ref a1, iV 7, iV 8] [Value.ref a15, Value.ref a12] (n_X8_init_1 _ D t a0 a1 a2 a3 a4 a5 a6 a7 a8 a9 a10 a11 a12 a13 a14 a15) cbi_X8_init (fun _ _ _ _ => trivial) BS_true ml_X0_32 dX0_init_45 (by decide) ⟨by rw [hc]; decide, by rw [hs]; decide⟩ rfl (Nat.le_of_ble_eq_true rfl) rfl (fun bs hbs C => ?_)
  obtain ⟨a16, a17, a18, a19, a20, rfl⟩ := len5 hbs
  have C : CXok X (KL D t [a0, a1, a2, a3, a4, a5, a6, a7, a8, a9, a10, a11, a12, a13, a14, a15, a16, a17, a18, a19, a20]) nl41 _ _ _ _ _ := C
  change PW X (KL D t [a0, a1, a2, a3, a4, a5, a6, a7, a8, a9, a10, a11, a12, a13, a14, a15, a16, a17, a18, a19, a20]) nl41 _ (8, 167) _ _ [some (Value.ref a12), some (Value.ref a1), some (Value.ref a6)] [Value.ref a15, Value.ref a12] _
  refine pw_putR C (k := 12) (show nl41[12]? = some (0, 0, [8, 1, 0, 15, 3, 16]) from rfl) kc_0 gT_wsX00 tyX0 tyX0_ok nmX0 1 (by decide) 15 rfl hN rfl rfl rfl (by decide) fl_X0_35 dX0_init_48 (fun C => ?_)
  have C : CXok X (KL D t [a0, a1, a2, a3, a4, a5, a6, a7, a8, a9, a10, a11, a12, a13, a14, a15, a16, a17, a18, a19, a20]) nl42 _ _ _ _ _ := C
  change PW X (KL D t [a0, a1, a2, a3, a4, a5, a6, a7, a8, a9, a10, a11, a12, a13, a14, a15, a16, a17, a18, a19, a20]) nl42 _ (8, 167) _ _ [some (Value.ref a12), some (Value.ref a1), some (Value.ref a6)] [] _
  exact pw_vretN [a13, a14, a15, a16, a17, a18, a19, a20] C rfl rfl (by decide) (by decide) dX0_init_51
set_option maxHeartbeats 4000000 in
theorem n_X5_init_1 (l : Launch) (D : va_G) (t : ClassId × ClassId × ClassId × ClassId) (a0 a1 a2 a3 a4 a5 a6 a7 a8 a9 a10 a11 a12 a13 a14 a15 a16 a17 a18 a19 a20 a21 : Nat) : NC l D t [a0, a1, a2, a3, a4, a5, a6, a7, a8, a9, a10, a11, a12, a13, a14, a15, a16, a17, a18, a19, a20, a21] nl44 nl49 nm6 nm7 (fun _ => True) yX5_init cX5_init 2 1 2 128 [Value.ref a21, Value.ref a12] := by
  refine nc_intro RX5 rfl (by decide +kernel) [some (Value.ref a21), some (Value.ref a12)] rfl (cat_R (cat_R cat_nil)) (Nat.le_of_ble_eq_true rfl) (fun X hX C hN hc hs hB => ?_)
  have hN := hN rfl
  refine pv_aload C (i := 0) (b := a21) rfl dX5_init_0 ?_
  refine pw_obj C ml_X5_3 dX5_init_1 (Nat.le_of_ble_eq_true rfl) (by decide) ?_
  refine pv_aload C (i := 0) (b := a21) rfl dX5_init_4 ?_
  refine pw_iconst C dX5_init_5 ?_
  refine pw_put0 C (k := 21) (show nl44[21]? = some (0, 5, [0, 0, 0, 0, 0, 0, 1, 1, 1]) from rfl) kc_5 gT_wsX50 tyX5 tyX5_ok nmX5 0 (by decide) rfl rfl rfl rfl fl_X5_9 dX5_init_6 ?_
  refine pv_aload C (i := 0) (b := a21) rfl dX5_init_9 ?_
  refine pw_iconst C dX5_init_10 ?_
  refine pw_put0 C (k := 21) (show nl44[21]? = some (0, 5, [0, 0, 0, 0, 0, 0, 1, 1, 1]) from rfl) kc_5 gT_wsX50 tyX5 tyX5_ok nmX5 1 (by decide) rfl rfl rfl rfl fl_X5_15 dX5_init_11 ?_
  refine pv_aload C (i := 0) (b := a21) rfl dX5_init_14 ?_
  refine pw_iconst C dX5_init_15 ?_
  refine pw_put0 C (k := 21) (show nl44[21]? = some (0, 5, [0, 0, 0, 0, 0, 0, 1, 1, 1]) from rfl) kc_5 gT_wsX50 tyX5 tyX5_ok nmX5 2 (by decide) rfl rfl rfl rfl fl_X5_19 dX5_init_16 ?_
  refine pv_aload C (i := 0) (b := a21) rfl dX5_init_19 ?_
  refine pw_iconst C dX5_init_20 ?_
  refine pw_put0 C (k := 21) (show nl44[21]? = some (0, 5, [0, 0, 0, 0, 0, 0, 1, 1, 1]) from rfl) kc_5 gT_wsX50 tyX5 tyX5_ok nmX5 3 (by decide) rfl rfl rfl rfl fl_X5_22 dX5_init_21 ?_
  refine pv_aload C (i := 0) (b := a21) rfl dX5_init_24 ?_
  refine pw_iconst C dX5_init_25 ?_
  refine pw_put0 C (k := 21) (show nl44[21]? = some (0, 5, [0, 0, 0, 0, 0, 0, 1, 1, 1]) from rfl) kc_5 gT_wsX50 tyX5 tyX5_ok nmX5 4 (by decide) rfl rfl rfl rfl fl_X5_25 dX5_init_26 ?_
  refine pv_aload C (i := 0) (b := a21) rfl dX5_init_29 ?_
  refine pw_iconst C dX5_init_30 ?_
  refine pw_put0 C (k := 21) (show nl44[21]? = some (0, 5, [0, 0, 0, 0, 0, 0, 1, 1, 1]) from rfl) kc_5 gT_wsX50 tyX5 tyX5_ok nmX5 5 (by decide) rfl rfl rfl rfl fl_X5_28 dX5_init_31 ?_
  refine pv_aload C (i := 0) (b := a21) rfl dX5_init_34 ?_
  refine pw_bipush C dX5_init_35 (by decide) ?_
  refine pw_newi C (n := 64) rfl rfl (up2_z (a := 22) (k := 21) (by decide) (up2_z (a := 22) (k := 21) (by decide) (up2_z (a := 22) (k := 21) (by decide) (up2_z (a := 22) (k := 21) (by decide) (up2_z (a := 22) (k := 21) (by decide) (up2_z (a := 22) (k := 21) (by decide) (nmz_6 22 (by decide)))))))) (by decide) ac__int ⟨by rw [hc]; decide, by rw [hs]; decide⟩ dX5_init_37 (fun a22 C => ?_)
  have C : CXok X (KL D t [a0, a1, a2, a3, a4, a5, a6, a7, a8, a9, a10, a11, a12, a13, a14, a15, a16, a17, a18, a19, a20, a21, a22]) nl45 _ _ _ _ _ := C
  change PW X (KL D t [a0, a1, a2, a3, a4, a5, a6, a7, a8, a9, a10, a11, a12, a13, a14, a15, a16, a17, a18, a19, a20, a21, a22]) nl45 _ (1, 64) _ _ [some (Value.ref a21), some (Value.ref a12)] [Value.ref a22, Value.ref a21] _
  refine pw_putR C (k := 21) (show nl45[21]? = some (0, 5, [0, 0, 0, 0, 0, 0, 1, 1, 1]) from rfl) kc_5 gT_wsX50 tyX5 tyX5_ok nmX5 6 (by decide) 22 rfl hN rfl rfl rfl (by decide) fl_X5_31 dX5_init_39 (fun C => ?_)
  have C : CXok X (KL D t [a0, a1, a2, a3, a4, a5, a6, a7, a8, a9, a10, a11, a12, a13, a14, a15, a16, a17, a18, a19, a20, a21, a22]) nl46 _ _ _ _ _ := C
  change PW X (KL D t [a0, a1, a2, a3, a4, a5, a6, a7, a8, a9, a10, a11, a12, a13, a14, a15, a16, a17, a18, a19, a20, a21, a22]) nl46 _ (1, 64) _ _ [some (Value.ref a21), some (Value.ref a12)] [] _
  refine pv_aload C (i := 0) (b := a21) rfl dX5_init_42 ?_
  refine pw_bipush C dX5_init_43 (by decide) ?_
  refine pw_newi C (n := 64) rfl rfl (up2_z (a := 23) (k := 21) (by decide) (up2_z (a := 23) (k := 21) (by decide) (up2_z (a := 23) (k := 21) (by decide) (up2_z (a := 23) (k := 21) (by decide) (up2_z (a := 23) (k := 21) (by decide) (up2_z (a := 23) (k := 21) (by decide) (nmz_6 23 (by decide)))))))) (by decide) ac__int ⟨by rw [hc]; decide, by rw [hs]; decide⟩ dX5_init_45 (fun a23 C => ?_)
  have C : CXok X (KL D t [a0, a1, a2, a3, a4, a5, a6, a7, a8, a9, a10, a11, a12, a13, a14, a15, a16, a17, a18, a19, a20, a21, a22, a23]) nl47 _ _ _ _ _ := C
  change PW X (KL D t [a0, a1, a2, a3, a4, a5, a6, a7, a8, a9, a10, a11, a12, a13, a14, a15, a16, a17, a18, a19, a20, a21, a22, a23]) nl47 _ (2, 128) _ _ [some (Value.ref a21), some (Value.ref a12)] [Value.ref a23, Value.ref a21] _
  refine pw_putR C (k := 21) (show nl47[21]? = some (0, 5, [0, 0, 0, 0, 0, 0, 24, 1, 1]) from rfl) kc_5 gT_wsX50 tyX5 tyX5_ok nmX5 7 (by decide) 23 rfl hN rfl rfl rfl (by decide) fl_X5_35 dX5_init_47 (fun C => ?_)
  have C : CXok X (KL D t [a0, a1, a2, a3, a4, a5, a6, a7, a8, a9, a10, a11, a12, a13, a14, a15, a16, a17, a18, a19, a20, a21, a22, a23]) nl48 _ _ _ _ _ := C
  change PW X (KL D t [a0, a1, a2, a3, a4, a5, a6, a7, a8, a9, a10, a11, a12, a13, a14, a15, a16, a17, a18, a19, a20, a21, a22, a23]) nl48 _ (2, 128) _ _ [some (Value.ref a21), some (Value.ref a12)] [] _
  refine pv_aload C (i := 0) (b := a21) rfl dX5_init_50 ?_
  refine pv_aload C (i := 1) (b := a12) rfl dX5_init_51 ?_
  refine pw_putR C (k := 21) (show nl48[21]? = some (0, 5, [0, 0, 0, 0, 0, 0, 24, 25, 1]) from rfl) kc_5 gT_wsX50 tyX5 tyX5_ok nmX5 8 (by decide) 12 rfl hN rfl rfl rfl (by decide) fl_X5_38 dX5_init_52 (fun C => ?_)
  have C : CXok X (KL D t [a0, a1, a2, a3, a4, a5, a6, a7, a8, a9, a10, a11, a12, a13, a14, a15, a16, a17, a18, a19, a20, a21, a22, a23]) nl49 _ _ _ _ _ := C
  change PW X (KL D t [a0, a1, a2, a3, a4, a5, a6, a7, a8, a9, a10, a11, a12, a13, a14, a15, a16, a17, a18, a19, a20, a21, a22, a23]) nl49 _ (2, 128) _ _ [some (Value.ref a21), some (Value.ref a12)] [] _
  exact pw_vretN [a22, a23] C rfl rfl (by decide) (by decide) dX5_init_55
set_option maxHeartbeats 4000000 in
theorem n_X4_init_1 (l : Launch) (D : va_G) (t : ClassId × ClassId × ClassId × ClassId) (a0 a1 a2 a3 a4 a5 a6 a7 a8 a9 a10 a11 a12 a13 a14 a15 a16 a17 a18 a19 a20 a21 a22 a23 a24 : Nat) : NC l D t [a0, a1, a2, a3, a4, a5, a6, a7, a8, a9, a10, a11, a12, a13, a14, a15, a16, a17, a18, a19, a20, a21, a22, a23, a24] nl51 nl60 nm7 nm8 (fun _ => True) yX4_init cX4_init 2 1 4 529 [Value.ref a24, Value.ref a12] := by
  refine nc_intro RX4 rfl (by decide +kernel) [some (Value.ref a24), some (Value.ref a12)] rfl (cat_R (cat_R cat_nil)) (Nat.le_of_ble_eq_true rfl) (fun X hX C hN hc hs hB => ?_)
  have hN := hN rfl
  refine pv_aload C (i := 0) (b := a24) rfl dX4_init_0 ?_
  refine pw_obj C ml_X4_3 dX4_init_1 (Nat.le_of_ble_eq_true rfl) (by decide) ?_
  refine pv_aload C (i := 0) (b := a24) rfl dX4_init_4 ?_
  refine pw_iconst C dX4_init_5 ?_
  refine pw_put0 C (k := 24) (show nl51[24]? = some (0, 4, [0, 1, 1, 1, 1, 1, 0]) from rfl) kc_4 gT_wsX40 tyX4 tyX4_ok nmX4 0 (by decide) rfl rfl rfl rfl fl_X4_9 dX4_init_6 ?_
  refine pv_aload C (i := 0) (b := a24) rfl dX4_init_9 ?_
  refine pw_bipush C dX4_init_10 (by decide) ?_
  refine pw_newi C (n := 9) rfl rfl (up2_z (a := 25) (k := 24) (by decide) (nmz_7 25 (by decide))) (by decide) ac__int ⟨by rw [hc]; decide, by rw [hs]; decide⟩ dX4_init_12 (fun a25 C => ?_)
  have C : CXok X (KL D t [a0, a1, a2, a3, a4, a5, a6, a7, a8, a9, a10, a11, a12, a13, a14, a15, a16, a17, a18, a19, a20, a21, a22, a23, a24, a25]) nl52 _ _ _ _ _ := C
  change PW X (KL D t [a0, a1, a2, a3, a4, a5, a6, a7, a8, a9, a10, a11, a12, a13, a14, a15, a16, a17, a18, a19, a20, a21, a22, a23, a24, a25]) nl52 _ (1, 9) _ _ [some (Value.ref a24), some (Value.ref a12)] [Value.ref a25, Value.ref a24] _
  refine pw_putR C (k := 24) (show nl52[24]? = some (0, 4, [0, 1, 1, 1, 1, 1, 0]) from rfl) kc_4 gT_wsX40 tyX4 tyX4_ok nmX4 1 (by decide) 25 rfl hN rfl rfl rfl (by decide) fl_X4_15 dX4_init_14 (fun C => ?_)
  have C : CXok X (KL D t [a0, a1, a2, a3, a4, a5, a6, a7, a8, a9, a10, a11, a12, a13, a14, a15, a16, a17, a18, a19, a20, a21, a22, a23, a24, a25]) nl53 _ _ _ _ _ := C
  change PW X (KL D t [a0, a1, a2, a3, a4, a5, a6, a7, a8, a9, a10, a11, a12, a13, a14, a15, a16, a17, a18, a19, a20, a21, a22, a23, a24, a25]) nl53 _ (1, 9) _ _ [some (Value.ref a24), some (Value.ref a12)] [] _
  refine pv_aload C (i := 0) (b := a24) rfl dX4_init_17 ?_
  refine pw_sipush C dX4_init_18 (by decide) ?_
  refine pw_newi C (n := 256) rfl rfl (up2_z (a := 26) (k := 24) (by decide) (nmz_7 26 (by decide))) (by decide) ac__int ⟨by rw [hc]; decide, by rw [hs]; decide⟩ dX4_init_21 (fun a26 C => ?_)
  have C : CXok X (KL D t [a0, a1, a2, a3, a4, a5, a6, a7, a8, a9, a10, a11, a12, a13, a14, a15, a16, a17, a18, a19, a20, a21, a22, a23, a24, a25, a26]) nl54 _ _ _ _ _ := C
  change PW X (KL D t [a0, a1, a2, a3, a4, a5, a6, a7, a8, a9, a10, a11, a12, a13, a14, a15, a16, a17, a18, a19, a20, a21, a22, a23, a24, a25, a26]) nl54 _ (2, 265) _ _ [some (Value.ref a24), some (Value.ref a12)] [Value.ref a26, Value.ref a24] _
  refine pw_putR C (k := 24) (show nl54[24]? = some (0, 4, [0, 27, 1, 1, 1, 1, 0]) from rfl) kc_4 gT_wsX40 tyX4 tyX4_ok nmX4 3 (by decide) 26 rfl hN rfl rfl rfl (by decide) fl_X4_19 dX4_init_23 (fun C => ?_)
  have C : CXok X (KL D t [a0, a1, a2, a3, a4, a5, a6, a7, a8, a9, a10, a11, a12, a13, a14, a15, a16, a17, a18, a19, a20, a21, a22, a23, a24, a25, a26]) nl55 _ _ _ _ _ := C
  change PW X (KL D t [a0, a1, a2, a3, a4, a5, a6, a7, a8, a9, a10, a11, a12, a13, a14, a15, a16, a17, a18, a19, a20, a21, a22, a23, a24, a25, a26]) nl55 _ (2, 265) _ _ [some (Value.ref a24), some (Value.ref a12)] [] _
  refine pv_aload C (i := 0) (b := a24) rfl dX4_init_26 ?_
  refine pw_sipush C dX4_init_27 (by decide) ?_
  refine pw_newi C (n := 256) rfl rfl (up2_z (a := 27) (k := 24) (by decide) (nmz_7 27 (by decide))) (by decide) ac__int ⟨by rw [hc]; decide, by rw [hs]; decide⟩ dX4_init_30 (fun a27 C => ?_)
  have C : CXok X (KL D t [a0, a1, a2, a3, a4, a5, a6, a7, a8, a9, a10, a11, a12, a13, a14, a15, a16, a17, a18, a19, a20, a21, a22, a23, a24, a25, a26, a27]) nl56 _ _ _ _ _ := C
  change PW X (KL D t [a0, a1, a2, a3, a4, a5, a6, a7, a8, a9, a10, a11, a12, a13, a14, a15, a16, a17, a18, a19, a20, a21, a22, a23, a24, a25, a26, a27]) nl56 _ (3, 521) _ _ [some (Value.ref a24), some (Value.ref a12)] [Value.ref a27, Value.ref a24] _
  refine pw_putR C (k := 24) (show nl56[24]? = some (0, 4, [0, 27, 1, 28, 1, 1, 0]) from rfl) kc_4 gT_wsX40 tyX4 tyX4_ok nmX4 4 (by decide) 27 rfl hN rfl rfl rfl (by decide) fl_X4_22 dX4_init_32 (fun C => ?_)
  have C : CXok X (KL D t [a0, a1, a2, a3, a4, a5, a6, a7, a8, a9, a10, a11, a12, a13, a14, a15, a16, a17, a18, a19, a20, a21, a22, a23, a24, a25, a26, a27]) nl57 _ _ _ _ _ := C
  change PW X (KL D t [a0, a1, a2, a3, a4, a5, a6, a7, a8, a9, a10, a11, a12, a13, a14, a15, a16, a17, a18, a19, a20, a21, a22, a23, a24, a25, a26, a27]) nl57 _ (3, 521) _ _ [some (Value.ref a24), some (Value.ref a12)] [] _
  refine pv_aload C (i := 0) (b := a24) rfl dX4_init_35 ?_
  refine pw_bipush C dX4_init_36 (by decide) ?_
  refine pw_newi C (n := 8) rfl rfl (up2_z (a := 28) (k := 24) (by decide) (nmz_7 28 (by decide))) (by decide) ac__int ⟨by rw [hc]; decide, by rw [hs]; decide⟩ dX4_init_38 (fun a28 C => ?_)
  have C : CXok X (KL D t [a0, a1, a2, a3, a4, a5, a6, a7, a8, a9, a10, a11, a12, a13, a14, a15, a16, a17, a18, a19, a20, a21, a22, a23, a24, a25, a26, a27, a28]) nl58 _ _ _ _ _ := C
  change PW X (KL D t [a0, a1, a2, a3, a4, a5, a6, a7, a8, a9, a10, a11, a12, a13, a14, a15, a16, a17, a18, a19, a20, a21, a22, a23, a24, a25, a26, a27, a28]) nl58 _ (4, 529) _ _ [some (Value.ref a24), some (Value.ref a12)] [Value.ref a28, Value.ref a24] _
  refine pw_putR C (k := 24) (show nl58[24]? = some (0, 4, [0, 27, 1, 28, 29, 1, 0]) from rfl) kc_4 gT_wsX40 tyX4 tyX4_ok nmX4 5 (by decide) 28 rfl hN rfl rfl rfl (by decide) fl_X4_25 dX4_init_40 (fun C => ?_)
  have C : CXok X (KL D t [a0, a1, a2, a3, a4, a5, a6, a7, a8, a9, a10, a11, a12, a13, a14, a15, a16, a17, a18, a19, a20, a21, a22, a23, a24, a25, a26, a27, a28]) nl59 _ _ _ _ _ := C
  change PW X (KL D t [a0, a1, a2, a3, a4, a5, a6, a7, a8, a9, a10, a11, a12, a13, a14, a15, a16, a17, a18, a19, a20, a21, a22, a23, a24, a25, a26, a27, a28]) nl59 _ (4, 529) _ _ [some (Value.ref a24), some (Value.ref a12)] [] _
  refine pv_aload C (i := 0) (b := a24) rfl dX4_init_43 ?_
  refine pw_iconst C dX4_init_44 ?_
  refine pw_put0 C (k := 24) (show nl59[24]? = some (0, 4, [0, 27, 1, 28, 29, 30, 0]) from rfl) kc_4 gT_wsX40 tyX4 tyX4_ok nmX4 6 (by decide) rfl rfl rfl rfl fl_X4_28 dX4_init_45 ?_
  refine pv_aload C (i := 0) (b := a24) rfl dX4_init_48 ?_
  refine pv_aload C (i := 1) (b := a12) rfl dX4_init_49 ?_
  refine pw_putR C (k := 24) (show nl59[24]? = some (0, 4, [0, 27, 1, 28, 29, 30, 0]) from rfl) kc_4 gT_wsX40 tyX4 tyX4_ok nmX4 2 (by decide) 12 rfl hN rfl rfl rfl (by decide) fl_X4_32 dX4_init_50 (fun C => ?_)
  have C : CXok X (KL D t [a0, a1, a2, a3, a4, a5, a6, a7, a8, a9, a10, a11, a12, a13, a14, a15, a16, a17, a18, a19, a20, a21, a22, a23, a24, a25, a26, a27, a28]) nl60 _ _ _ _ _ := C
  change PW X (KL D t [a0, a1, a2, a3, a4, a5, a6, a7, a8, a9, a10, a11, a12, a13, a14, a15, a16, a17, a18, a19, a20, a21, a22, a23, a24, a25, a26, a27, a28]) nl60 _ (4, 529) _ _ [some (Value.ref a24), some (Value.ref a12)] [] _
  exact pw_vretN [a25, a26, a27, a28] C rfl rfl (by decide) (by decide) dX4_init_53
set_option maxHeartbeats 4000000 in
theorem n_X1_init_1 (l : Launch) (D : va_G) (t : ClassId × ClassId × ClassId × ClassId) (a0 a1 a2 a3 a4 a5 a6 a7 a8 a9 a10 a11 a12 a13 a14 a15 a16 a17 a18 a19 a20 a21 a22 a23 a24 a25 a26 a27 a28 a29 : Nat) : NC l D t [a0, a1, a2, a3, a4, a5, a6, a7, a8, a9, a10, a11, a12, a13, a14, a15, a16, a17, a18, a19, a20, a21, a22, a23, a24, a25, a26, a27, a28, a29] nl62 nl70 nm8 nm9 (fun _ => True) yX1_init cX1_init 3 1 3 592 [Value.ref a29, Value.ref a1, Value.ref a6] := by
  refine nc_intro RX1 rfl (by decide +kernel) [some (Value.ref a29), some (Value.ref a1), some (Value.ref a6)] rfl (cat_R (cat_R (cat_R cat_nil))) (Nat.le_of_ble_eq_true rfl) (fun X hX C hN hc hs hB => ?_)
  have hN := hN rfl
  refine pv_aload C (i := 0) (b := a29) rfl dX1_init_0 ?_
  refine pw_obj C ml_X1_5 dX1_init_1 (Nat.le_of_ble_eq_true rfl) (by decide) ?_
  refine pv_aload C (i := 0) (b := a29) rfl dX1_init_4 ?_
  refine pw_iconst C dX1_init_5 ?_
  refine pw_put0 C (k := 29) (show nl62[29]? = some (0, 1, [0, 0, 0, 1, 1, 1, 1, 1]) from rfl) kc_1 gT_wsX10 tyX1 tyX1_ok nmX1 0 (by decide) rfl rfl rfl rfl fl_X1_11 dX1_init_6 ?_
  refine pv_aload C (i := 0) (b := a29) rfl dX1_init_9 ?_
  refine pw_iconst C dX1_init_10 ?_
  refine pw_put0 C (k := 29) (show nl62[29]? = some (0, 1, [0, 0, 0, 1, 1, 1, 1, 1]) from rfl) kc_1 gT_wsX10 tyX1 tyX1_ok nmX1 1 (by decide) rfl rfl rfl rfl fl_X1_15 dX1_init_11 ?_
  refine pv_aload C (i := 0) (b := a29) rfl dX1_init_14 ?_
  refine pw_iconst C dX1_init_15 ?_
  refine pw_put0 C (k := 29) (show nl62[29]? = some (0, 1, [0, 0, 0, 1, 1, 1, 1, 1]) from rfl) kc_1 gT_wsX10 tyX1 tyX1_ok nmX1 2 (by decide) rfl rfl rfl rfl fl_X1_19 dX1_init_16 ?_
  refine pv_aload C (i := 0) (b := a29) rfl dX1_init_19 ?_
  refine pw_bipush C dX1_init_20 (by decide) ?_
  refine pw_newi C (n := 8) rfl rfl (up2_z (a := 30) (k := 29) (by decide) (up2_z (a := 30) (k := 29) (by decide) (up2_z (a := 30) (k := 29) (by decide) (nmz_8 30 (by decide))))) (by decide) ac__int ⟨by rw [hc]; decide, by rw [hs]; decide⟩ dX1_init_22 (fun a30 C => ?_)
  have C : CXok X (KL D t [a0, a1, a2, a3, a4, a5, a6, a7, a8, a9, a10, a11, a12, a13, a14, a15, a16, a17, a18, a19, a20, a21, a22, a23, a24, a25, a26, a27, a28, a29, a30]) nl63 _ _ _ _ _ := C
  change PW X (KL D t [a0, a1, a2, a3, a4, a5, a6, a7, a8, a9, a10, a11, a12, a13, a14, a15, a16, a17, a18, a19, a20, a21, a22, a23, a24, a25, a26, a27, a28, a29, a30]) nl63 _ (1, 8) _ _ [some (Value.ref a29), some (Value.ref a1), some (Value.ref a6)] [Value.ref a30, Value.ref a29] _
  refine pw_putR C (k := 29) (show nl63[29]? = some (0, 1, [0, 0, 0, 1, 1, 1, 1, 1]) from rfl) kc_1 gT_wsX10 tyX1 tyX1_ok nmX1 3 (by decide) 30 rfl hN rfl rfl rfl (by decide) fl_X1_22 dX1_init_24 (fun C => ?_)
  have C : CXok X (KL D t [a0, a1, a2, a3, a4, a5, a6, a7, a8, a9, a10, a11, a12, a13, a14, a15, a16, a17, a18, a19, a20, a21, a22, a23, a24, a25, a26, a27, a28, a29, a30]) nl64 _ _ _ _ _ := C
  change PW X (KL D t [a0, a1, a2, a3, a4, a5, a6, a7, a8, a9, a10, a11, a12, a13, a14, a15, a16, a17, a18, a19, a20, a21, a22, a23, a24, a25, a26, a27, a28, a29, a30]) nl64 _ (1, 8) _ _ [some (Value.ref a29), some (Value.ref a1), some (Value.ref a6)] [] _
  refine pv_aload C (i := 0) (b := a29) rfl dX1_init_27 ?_
  refine pw_bipush C dX1_init_28 (by decide) ?_
  refine pw_newi C (n := 8) rfl rfl (up2_z (a := 31) (k := 29) (by decide) (up2_z (a := 31) (k := 29) (by decide) (up2_z (a := 31) (k := 29) (by decide) (nmz_8 31 (by decide))))) (by decide) ac__int ⟨by rw [hc]; decide, by rw [hs]; decide⟩ dX1_init_30 (fun a31 C => ?_)
  have C : CXok X (KL D t [a0, a1, a2, a3, a4, a5, a6, a7, a8, a9, a10, a11, a12, a13, a14, a15, a16, a17, a18, a19, a20, a21, a22, a23, a24, a25, a26, a27, a28, a29, a30, a31]) nl65 _ _ _ _ _ := C
  change PW X (KL D t [a0, a1, a2, a3, a4, a5, a6, a7, a8, a9, a10, a11, a12, a13, a14, a15, a16, a17, a18, a19, a20, a21, a22, a23, a24, a25, a26, a27, a28, a29, a30, a31]) nl65 _ (2, 16) _ _ [some (Value.ref a29), some (Value.ref a1), some (Value.ref a6)] [Value.ref a31, Value.ref a29] _
  refine pw_putR C (k := 29) (show nl65[29]? = some (0, 1, [0, 0, 0, 32, 1, 1, 1, 1]) from rfl) kc_1 gT_wsX10 tyX1 tyX1_ok nmX1 6 (by decide) 31 rfl hN rfl rfl rfl (by decide) fl_X1_26 dX1_init_32 (fun C => ?_)
  have C : CXok X (KL D t [a0, a1, a2, a3, a4, a5, a6, a7, a8, a9, a10, a11, a12, a13, a14, a15, a16, a17, a18, a19, a20, a21, a22, a23, a24, a25, a26, a27, a28, a29, a30, a31]) nl66 _ _ _ _ _ := C
  change PW X (KL D t [a0, a1, a2, a3, a4, a5, a6, a7, a8, a9, a10, a11, a12, a13, a14, a15, a16, a17, a18, a19, a20, a21, a22, a23, a24, a25, a26, a27, a28, a29, a30, a31]) nl66 _ (2, 16) _ _ [some (Value.ref a29), some (Value.ref a1), some (Value.ref a6)] [] _
  refine pv_aload C (i := 0) (b := a29) rfl dX1_init_35 ?_
  refine pw_sipush C dX1_init_36 (by decide) ?_
  refine pw_newi C (n := 576) rfl rfl (up2_z (a := 32) (k := 29) (by decide) (up2_z (a := 32) (k := 29) (by decide) (up2_z (a := 32) (k := 29) (by decide) (nmz_8 32 (by decide))))) (by decide) ac__int ⟨by rw [hc]; decide, by rw [hs]; decide⟩ dX1_init_39 (fun a32 C => ?_)
  have C : CXok X (KL D t [a0, a1, a2, a3, a4, a5, a6, a7, a8, a9, a10, a11, a12, a13, a14, a15, a16, a17, a18, a19, a20, a21, a22, a23, a24, a25, a26, a27, a28, a29, a30, a31, a32]) nl67 _ _ _ _ _ := C
  change PW X (KL D t [a0, a1, a2, a3, a4, a5, a6, a7, a8, a9, a10, a11, a12, a13, a14, a15, a16, a17, a18, a19, a20, a21, a22, a23, a24, a25, a26, a27, a28, a29, a30, a31, a32]) nl67 _ (3, 592) _ _ [some (Value.ref a29), some (Value.ref a1), some (Value.ref a6)] [Value.ref a32, Value.ref a29] _
  refine pw_putR C (k := 29) (show nl67[29]? = some (0, 1, [0, 0, 0, 32, 1, 1, 33, 1]) from rfl) kc_1 gT_wsX10 tyX1 tyX1_ok nmX1 7 (by decide) 32 rfl hN rfl rfl rfl (by decide) fl_X1_29 dX1_init_41 (fun C => ?_)
  have C : CXok X (KL D t [a0, a1, a2, a3, a4, a5, a6, a7, a8, a9, a10, a11, a12, a13, a14, a15, a16, a17, a18, a19, a20, a21, a22, a23, a24, a25, a26, a27, a28, a29, a30, a31, a32]) nl68 _ _ _ _ _ := C
  change PW X (KL D t [a0, a1, a2, a3, a4, a5, a6, a7, a8, a9, a10, a11, a12, a13, a14, a15, a16, a17, a18, a19, a20, a21, a22, a23, a24, a25, a26, a27, a28, a29, a30, a31, a32]) nl68 _ (3, 592) _ _ [some (Value.ref a29), some (Value.ref a1), some (Value.ref a6)] [] _
  refine pv_aload C (i := 0) (b := a29) rfl dX1_init_44 ?_
  refine pv_aload C (i := 1) (b := a1) rfl dX1_init_45 ?_
  refine pw_putR C (k := 29) (show nl68[29]? = some (0, 1, [0, 0, 0, 32, 1, 1, 33, 34]) from rfl) kc_1 gT_wsX10 tyX1 tyX1_ok nmX1 4 (by decide) 1 rfl hN rfl rfl rfl (by decide) fl_X1_32 dX1_init_46 (fun C => ?_)
  have C : CXok X (KL D t [a0, a1, a2, a3, a4, a5, a6, a7, a8, a9, a10, a11, a12, a13, a14, a15, a16, a17, a18, a19, a20, a21, a22, a23, a24, a25, a26, a27, a28, a29, a30, a31, a32]) nl69 _ _ _ _ _ := C
  change PW X (KL D t [a0, a1, a2, a3, a4, a5, a6, a7, a8, a9, a10, a11, a12, a13, a14, a15, a16, a17, a18, a19, a20, a21, a22, a23, a24, a25, a26, a27, a28, a29, a30, a31, a32]) nl69 _ (3, 592) _ _ [some (Value.ref a29), some (Value.ref a1), some (Value.ref a6)] [] _
  refine pv_aload C (i := 0) (b := a29) rfl dX1_init_49 ?_
  refine pv_aload C (i := 2) (b := a6) rfl dX1_init_50 ?_
  refine pw_putR C (k := 29) (show nl69[29]? = some (0, 1, [0, 0, 0, 32, 3, 1, 33, 34]) from rfl) kc_1 gT_wsX10 tyX1 tyX1_ok nmX1 5 (by decide) 6 rfl hN rfl rfl rfl (by decide) fl_X1_36 dX1_init_51 (fun C => ?_)
  have C : CXok X (KL D t [a0, a1, a2, a3, a4, a5, a6, a7, a8, a9, a10, a11, a12, a13, a14, a15, a16, a17, a18, a19, a20, a21, a22, a23, a24, a25, a26, a27, a28, a29, a30, a31, a32]) nl70 _ _ _ _ _ := C
  change PW X (KL D t [a0, a1, a2, a3, a4, a5, a6, a7, a8, a9, a10, a11, a12, a13, a14, a15, a16, a17, a18, a19, a20, a21, a22, a23, a24, a25, a26, a27, a28, a29, a30, a31, a32]) nl70 _ (3, 592) _ _ [some (Value.ref a29), some (Value.ref a1), some (Value.ref a6)] [] _
  exact pw_vretN [a30, a31, a32] C rfl rfl (by decide) (by decide) dX1_init_54
set_option maxHeartbeats 4000000 in
theorem n_X8_init_2 (l : Launch) (D : va_G) (t : ClassId × ClassId × ClassId × ClassId) (a0 a1 a2 a3 a4 a5 a6 a7 a8 a9 a10 a11 a12 a13 a14 a15 a16 a17 a18 a19 a20 a21 a22 a23 a24 a25 a26 a27 a28 a29 a30 a31 a32 a33 a34 a35 a36 a37 : Nat) : NC l D t [a0, a1, a2, a3, a4, a5, a6, a7, a8, a9, a10, a11, a12, a13, a14, a15, a16, a17, a18, a19, a20, a21, a22, a23, a24, a25, a26, a27, a28, a29, a30, a31, a32, a33, a34, a35, a36, a37] nl81 nl92 nm9 nm10 (fun _ => True) yX8_init cX8_init 4 1 5 1580 [Value.ref a37, Value.ref a1, iV 6, iV 120] := by
  refine nc_intro RX8 rfl (by decide +kernel) [some (Value.ref a37), some (Value.ref a1), some (iV 6), some (iV 120)] rfl (cat_R (cat_R (cat_i (cat_i cat_nil)))) (Nat.le_of_ble_eq_true rfl) (fun X hX C hN hc hs hB => ?_)
  have hN := hN rfl
  refine pv_aload C (i := 0) (b := a37) rfl dX8_init_0 ?_
  refine pw_obj C ml_X8_3 dX8_init_1 (Nat.le_of_ble_eq_true rfl) (by decide) ?_
  refine pv_aload C (i := 0) (b := a37) rfl dX8_init_4 ?_
  refine pw_iconst C dX8_init_5 ?_
  refine pw_put0 C (k := 37) (show nl81[37]? = some (0, 8, [0, 0, 1, 1, 0, 1, 1, 1, 1]) from rfl) kc_8 gT_wsX80 tyX8 tyX8_ok nmX8 0 (by decide) rfl rfl rfl rfl fl_X8_9 dX8_init_6 ?_
  refine pv_aload C (i := 0) (b := a37) rfl dX8_init_9 ?_
  refine pw_iconst C dX8_init_10 ?_
  refine pw_put0 C (k := 37) (show nl81[37]? = some (0, 8, [0, 0, 1, 1, 0, 1, 1, 1, 1]) from rfl) kc_8 gT_wsX80 tyX8 tyX8_ok nmX8 1 (by decide) rfl rfl rfl rfl fl_X8_15 dX8_init_11 ?_
  refine pv_aload C (i := 0) (b := a37) rfl dX8_init_14 ?_
  refine pv_aload C (i := 1) (b := a1) rfl dX8_init_15 ?_
  refine pw_putR C (k := 37) (show nl81[37]? = some (0, 8, [0, 0, 1, 1, 0, 1, 1, 1, 1]) from rfl) kc_8 gT_wsX80 tyX8 tyX8_ok nmX8 5 (by decide) 1 rfl hN rfl rfl rfl (by decide) fl_X8_18 dX8_init_16 (fun C => ?_)
  have C : CXok X (KL D t [a0, a1, a2, a3, a4, a5, a6, a7, a8, a9, a10, a11, a12, a13, a14, a15, a16, a17, a18, a19, a20, a21, a22, a23, a24, a25, a26, a27, a28, a29, a30, a31, a32, a33, a34, a35, a36, a37]) nl82 _ _ _ _ _ := C
  change PW X (KL D t [a0, a1, a2, a3, a4, a5, a6, a7, a8, a9, a10, a11, a12, a13, a14, a15, a16, a17, a18, a19, a20, a21, a22, a23, a24, a25, a26, a27, a28, a29, a30, a31, a32, a33, a34, a35, a36, a37]) nl82 _ (0, 0) _ _ [some (Value.ref a37), some (Value.ref a1), some (iV 6), some (iV 120)] [] _
  refine pv_aload C (i := 0) (b := a37) rfl dX8_init_19 ?_
  refine pw_iload3 C dX8_init_20 ?_
  refine pw_putFI C (k := 37) (show nl82[37]? = some (0, 8, [0, 0, 1, 1, 0, 3, 1, 1, 1]) from rfl) kc_8 gT_wsX80 tyX8 tyX8_ok nmX8 4 (by decide) rfl rfl hN rfl rfl rfl fl_X8_22 dX8_init_21 ?_
  refine pv_aload C (i := 0) (b := a37) rfl dX8_init_24 ?_
  refine pw_iload2 C dX8_init_25 ?_
  refine pw_newi C (n := 6) rfl rfl (up2_z (a := 38) (k := 37) (by decide) (up2_z (a := 38) (k := 37) (by decide) (up2_z (a := 38) (k := 37) (by decide) (nmz_9 38 (by decide))))) (by decide) ac__int ⟨by rw [hc]; decide, by rw [hs]; decide⟩ dX8_init_26 (fun a38 C => ?_)
  have C : CXok X (KL D t [a0, a1, a2, a3, a4, a5, a6, a7, a8, a9, a10, a11, a12, a13, a14, a15, a16, a17, a18, a19, a20, a21, a22, a23, a24, a25, a26, a27, a28, a29, a30, a31, a32, a33, a34, a35, a36, a37, a38]) nl83 _ _ _ _ _ := C
  change PW X (KL D t [a0, a1, a2, a3, a4, a5, a6, a7, a8, a9, a10, a11, a12, a13, a14, a15, a16, a17, a18, a19, a20, a21, a22, a23, a24, a25, a26, a27, a28, a29, a30, a31, a32, a33, a34, a35, a36, a37, a38]) nl83 _ (1, 6) _ _ [some (Value.ref a37), some (Value.ref a1), some (iV 6), some (iV 120)] [Value.ref a38, Value.ref a37] _
  refine pw_putR C (k := 37) (show nl83[37]? = some (0, 8, [0, 0, 1, 1, 0, 3, 1, 1, 1]) from rfl) kc_8 gT_wsX80 tyX8 tyX8_ok nmX8 2 (by decide) 38 rfl hN rfl rfl rfl (by decide) fl_X8_25 dX8_init_28 (fun C => ?_)
  have C : CXok X (KL D t [a0, a1, a2, a3, a4, a5, a6, a7, a8, a9, a10, a11, a12, a13, a14, a15, a16, a17, a18, a19, a20, a21, a22, a23, a24, a25, a26, a27, a28, a29, a30, a31, a32, a33, a34, a35, a36, a37, a38]) nl84 _ _ _ _ _ := C
  change PW X (KL D t [a0, a1, a2, a3, a4, a5, a6, a7, a8, a9, a10, a11, a12, a13, a14, a15, a16, a17, a18, a19, a20, a21, a22, a23, a24, a25, a26, a27, a28, a29, a30, a31, a32, a33, a34, a35, a36, a37, a38]) nl84 _ (1, 6) _ _ [some (Value.ref a37), some (Value.ref a1), some (iV 6), some (iV 120)] [] _
  refine pv_aload C (i := 0) (b := a37) rfl dX8_init_31 ?_
  refine pw_iload2 C dX8_init_32 ?_
  refine pw_iconst C dX8_init_33 ?_
  refine pw_iadd C dX8_init_34 ?_
  refine pw_top C 7 (by decide) ?_
  refine pw_iload3 C dX8_init_35 ?_
  refine pw_imul C dX8_init_36 ?_
  refine pw_top C 840 (by decide) ?_
  refine pw_newi C (n := 840) rfl rfl (up2_z (a := 39) (k := 37) (by decide) (up2_z (a := 39) (k := 37) (by decide) (up2_z (a := 39) (k := 37) (by decide) (nmz_9 39 (by decide))))) (by decide) ac__int ⟨by rw [hc]; decide, by rw [hs]; decide⟩ dX8_init_37 (fun a39 C => ?_)
  have C : CXok X (KL D t [a0, a1, a2, a3, a4, a5, a6, a7, a8, a9, a10, a11, a12, a13, a14, a15, a16, a17, a18, a19, a20, a21, a22, a23, a24, a25, a26, a27, a28, a29, a30, a31, a32, a33, a34, a35, a36, a37, a38, a39]) nl85 _ _ _ _ _ := C
  change PW X (KL D t [a0, a1, a2, a3, a4, a5, a6, a7, a8, a9, a10, a11, a12, a13, a14, a15, a16, a17, a18, a19, a20, a21, a22, a23, a24, a25, a26, a27, a28, a29, a30, a31, a32, a33, a34, a35, a36, a37, a38, a39]) nl85 _ (2, 846) _ _ [some (Value.ref a37), some (Value.ref a1), some (iV 6), some (iV 120)] [Value.ref a39, Value.ref a37] _
  refine pw_putR C (k := 37) (show nl85[37]? = some (0, 8, [0, 0, 40, 1, 0, 3, 1, 1, 1]) from rfl) kc_8 gT_wsX80 tyX8 tyX8_ok nmX8 3 (by decide) 39 rfl hN rfl rfl rfl (by decide) fl_X8_29 dX8_init_39 (fun C => ?_)
  have C : CXok X (KL D t [a0, a1, a2, a3, a4, a5, a6, a7, a8, a9, a10, a11, a12, a13, a14, a15, a16, a17, a18, a19, a20, a21, a22, a23, a24, a25, a26, a27, a28, a29, a30, a31, a32, a33, a34, a35, a36, a37, a38, a39]) nl86 _ _ _ _ _ := C
  change PW X (KL D t [a0, a1, a2, a3, a4, a5, a6, a7, a8, a9, a10, a11, a12, a13, a14, a15, a16, a17, a18, a19, a20, a21, a22, a23, a24, a25, a26, a27, a28, a29, a30, a31, a32, a33, a34, a35, a36, a37, a38, a39]) nl86 _ (2, 846) _ _ [some (Value.ref a37), some (Value.ref a1), some (iV 6), some (iV 120)] [] _
  refine pv_aload C (i := 0) (b := a37) rfl dX8_init_42 ?_
  refine pw_iload2 C dX8_init_43 ?_
  refine pw_iload3 C dX8_init_44 ?_
  refine pw_imul C dX8_init_45 ?_
  refine pw_top C 720 (by decide) ?_
  refine pw_newi C (n := 720) rfl rfl (up2_z (a := 40) (k := 37) (by decide) (up2_z (a := 40) (k := 37) (by decide) (up2_z (a := 40) (k := 37) (by decide) (nmz_9 40 (by decide))))) (by decide) ac__int ⟨by rw [hc]; decide, by rw [hs]; decide⟩ dX8_init_46 (fun a40 C => ?_)
  have C : CXok X (KL D t [a0, a1, a2, a3, a4, a5, a6, a7, a8, a9, a10, a11, a12, a13, a14, a15, a16, a17, a18, a19, a20, a21, a22, a23, a24, a25, a26, a27, a28, a29, a30, a31, a32, a33, a34, a35, a36, a37, a38, a39, a40]) nl87 _ _ _ _ _ := C
  change PW X (KL D t [a0, a1, a2, a3, a4, a5, a6, a7, a8, a9, a10, a11, a12, a13, a14, a15, a16, a17, a18, a19, a20, a21, a22, a23, a24, a25, a26, a27, a28, a29, a30, a31, a32, a33, a34, a35, a36, a37, a38, a39, a40]) nl87 _ (3, 1566) _ _ [some (Value.ref a37), some (Value.ref a1), some (iV 6), some (iV 120)] [Value.ref a40, Value.ref a37] _
  refine pw_putR C (k := 37) (show nl87[37]? = some (0, 8, [0, 0, 40, 41, 0, 3, 1, 1, 1]) from rfl) kc_8 gT_wsX80 tyX8 tyX8_ok nmX8 6 (by decide) 40 rfl hN rfl rfl rfl (by decide) fl_X8_32 dX8_init_48 (fun C => ?_)
  have C : CXok X (KL D t [a0, a1, a2, a3, a4, a5, a6, a7, a8, a9, a10, a11, a12, a13, a14, a15, a16, a17, a18, a19, a20, a21, a22, a23, a24, a25, a26, a27, a28, a29, a30, a31, a32, a33, a34, a35, a36, a37, a38, a39, a40]) nl88 _ _ _ _ _ := C
  change PW X (KL D t [a0, a1, a2, a3, a4, a5, a6, a7, a8, a9, a10, a11, a12, a13, a14, a15, a16, a17, a18, a19, a20, a21, a22, a23, a24, a25, a26, a27, a28, a29, a30, a31, a32, a33, a34, a35, a36, a37, a38, a39, a40]) nl88 _ (3, 1566) _ _ [some (Value.ref a37), some (Value.ref a1), some (iV 6), some (iV 120)] [] _
  refine pv_aload C (i := 0) (b := a37) rfl dX8_init_51 ?_
  refine pw_iload2 C dX8_init_52 ?_
  refine pw_iconst C dX8_init_53 ?_
  refine pw_iadd C dX8_init_54 ?_
  refine pw_top C 7 (by decide) ?_
  refine pw_newi C (n := 7) rfl rfl (up2_z (a := 41) (k := 37) (by decide) (up2_z (a := 41) (k := 37) (by decide) (up2_z (a := 41) (k := 37) (by decide) (nmz_9 41 (by decide))))) (by decide) ac__int ⟨by rw [hc]; decide, by rw [hs]; decide⟩ dX8_init_55 (fun a41 C => ?_)
  have C : CXok X (KL D t [a0, a1, a2, a3, a4, a5, a6, a7, a8, a9, a10, a11, a12, a13, a14, a15, a16, a17, a18, a19, a20, a21, a22, a23, a24, a25, a26, a27, a28, a29, a30, a31, a32, a33, a34, a35, a36, a37, a38, a39, a40, a41]) nl89 _ _ _ _ _ := C
  change PW X (KL D t [a0, a1, a2, a3, a4, a5, a6, a7, a8, a9, a10, a11, a12, a13, a14, a15, a16, a17, a18, a19, a20, a21, a22, a23, a24, a25, a26, a27, a28, a29, a30, a31, a32, a33, a34, a35, a36, a37, a38, a39, a40, a41]) nl89 _ (4, 1573) _ _ [some (Value.ref a37), some (Value.ref a1), some (iV 6), some (iV 120)] [Value.ref a41, Value.ref a37] _
  refine pw_putR C (k := 37) (show nl89[37]? = some (0, 8, [0, 0, 40, 41, 0, 3, 42, 1, 1]) from rfl) kc_8 gT_wsX80 tyX8 tyX8_ok nmX8 7 (by decide) 41 rfl hN rfl rfl rfl (by decide) fl_X8_35 dX8_init_57 (fun C => ?_)
  have C : CXok X (KL D t [a0, a1, a2, a3, a4, a5, a6, a7, a8, a9, a10, a11, a12, a13, a14, a15, a16, a17, a18, a19, a20, a21, a22, a23, a24, a25, a26, a27, a28, a29, a30, a31, a32, a33, a34, a35, a36, a37, a38, a39, a40, a41]) nl90 _ _ _ _ _ := C
  change PW X (KL D t [a0, a1, a2, a3, a4, a5, a6, a7, a8, a9, a10, a11, a12, a13, a14, a15, a16, a17, a18, a19, a20, a21, a22, a23, a24, a25, a26, a27, a28, a29, a30, a31, a32, a33, a34, a35, a36, a37, a38, a39, a40, a41]) nl90 _ (4, 1573) _ _ [some (Value.ref a37), some (Value.ref a1), some (iV 6), some (iV 120)] [] _
  refine pv_aload C (i := 0) (b := a37) rfl dX8_init_60 ?_
  refine pw_iload2 C dX8_init_61 ?_
  refine pw_iconst C dX8_init_62 ?_
  refine pw_iadd C dX8_init_63 ?_
  refine pw_top C 7 (by decide) ?_
  refine pw_newi C (n := 7) rfl rfl (up2_z (a := 42) (k := 37) (by decide) (up2_z (a := 42) (k := 37) (by decide) (up2_z (a := 42) (k := 37) (by decide) (nmz_9 42 (by decide))))) (by decide) ac__int ⟨by rw [hc]; decide, by rw [hs]; decide⟩ dX8_init_64 (fun a42 C => ?_)
  have C : CXok X (KL D t [a0, a1, a2, a3, a4, a5, a6, a7, a8, a9, a10, a11, a12, a13, a14, a15, a16, a17, a18, a19, a20, a21, a22, a23, a24, a25, a26, a27, a28, a29, a30, a31, a32, a33, a34, a35, a36, a37, a38, a39, a40, a41, a42]) nl91 _ _ _ _ _ := C
  change PW X (KL D t [a0, a1, a2, a3, a4, a5, a6, a7, a8, a9, a10, a11, a12, a13, a14, a15, a16, a17, a18, a19, a20, a21, a22, a23, a24, a25, a26, a27, a28, a29, a30, a31, a32, a33, a34, a35, a36, a37, a38, a39, a40, a41, a42]) nl91 _ (5, 1580) _ _ [some (Value.ref a37), some (Value.ref a1), some (iV 6), some (iV 120)] [Value.ref a42, Value.ref a37] _
  refine pw_putR C (k := 37) (show nl91[37]? = some (0, 8, [0, 0, 40, 41, 0, 3, 42, 43, 1]) from rfl) kc_8 gT_wsX80 tyX8 tyX8_ok nmX8 8 (by decide) 42 rfl hN rfl rfl rfl (by decide) fl_X8_38 dX8_init_66 (fun C => ?_)
  have C : CXok X (KL D t [a0, a1, a2, a3, a4, a5, a6, a7, a8, a9, a10, a11, a12, a13, a14, a15, a16, a17, a18, a19, a20, a21, a22, a23, a24, a25, a26, a27, a28, a29, a30, a31, a32, a33, a34, a35, a36, a37, a38, a39, a40, a41, a42]) nl92 _ _ _ _ _ := C
  change PW X (KL D t [a0, a1, a2, a3, a4, a5, a6, a7, a8, a9, a10, a11, a12, a13, a14, a15, a16, a17, a18, a19, a20, a21, a22, a23, a24, a25, a26, a27, a28, a29, a30, a31, a32, a33, a34, a35, a36, a37, a38, a39, a40, a41, a42]) nl92 _ (5, 1580) _ _ [some (Value.ref a37), some (Value.ref a1), some (iV 6), some (iV 120)] [] _
  exact pw_vretN [a38, a39, a40, a41, a42] C rfl rfl (by decide) (by decide) dX8_init_69
set_option maxHeartbeats 4000000 in
theorem n_X2_forget (l : Launch) (D : va_G) (t : ClassId × ClassId × ClassId × ClassId) (a0 a1 a2 a3 a4 a5 a6 a7 a8 a9 a10 a11 a12 a13 a14 a15 a16 a17 a18 a19 a20 a21 a22 a23 a24 a25 a26 a27 a28 a29 a30 a31 a32 a33 a34 a35 a36 a37 a38 a39 a40 a41 a42 : Nat) : MCv l (KL D t [a0, a1, a2, a3, a4, a5, a6, a7, a8, a9, a10, a11, a12, a13, a14, a15, a16, a17, a18, a19, a20, a21, a22, a23, a24, a25, a26, a27, a28, a29, a30, a31, a32, a33, a34, a35, a36, a37, a38, a39, a40, a41, a42]) nl93 yX2_forget cX2_forget 2 none 1 [rV (KL D t [a0, a1, a2, a3, a4, a5, a6, a7, a8, a9, a10, a11, a12, a13, a14, a15, a16, a17, a18, a19, a20, a21, a22, a23, a24, a25, a26, a27, a28, a29, a30, a31, a32, a33, a34, a35, a36, a37, a38, a39, a40, a41, a42]) 33] nm10 (fun M9 => M9 = nm11) := by
  refine mcv_intro RX2 rfl [some (Value.ref a33), none] rfl (by decide +kernel) (cat_r cat_nil) (Nat.le_of_ble_eq_true rfl) (fun X hX C => ?_)
  refine pw_iconst C dX2_forget_0 ?_
  refine pw_istore1 C (by decide) dX2_forget_1 ?_
  refine pw_iload1 C dX2_forget_2 ?_
  refine pw_bipush C dX2_forget_3 (by decide) ?_
  refine pw_icmp_gt (tgt := 22) C dX2_forget_5 (by decide) (by decide) (by decide) (fun h => absurd h (by decide)) (fun h => ?_)
  refine pv_aload C (i := 0) (b := a33) rfl dX2_forget_8 ?_
  refine pw_get0 C (k := 33) (show nl93[33]? = some (0, 2, [36, 37, 3, 11, 39, 38]) from rfl) kc_2 gT_wsX20 0 (by decide) rfl fl_X2_9 dX2_forget_9 ?_
  have C : CXok X (KL D t [a0, a1, a2, a3, a4, a5, a6, a7, a8, a9, a10, a11, a12, a13, a14, a15, a16, a17, a18, a19, a20, a21, a22, a23, a24, a25, a26, a27, a28, a29, a30, a31, a32, a33, a34, a35, a36, a37, a38, a39, a40, a41, a42]) nl93 _ _ _ _ _ := C
  change PW X (KL D t [a0, a1, a2, a3, a4, a5, a6, a7, a8, a9, a10, a11, a12, a13, a14, a15, a16, a17, a18, a19, a20, a21, a22, a23, a24, a25, a26, a27, a28, a29, a30, a31, a32, a33, a34, a35, a36, a37, a38, a39, a40, a41, a42]) nl93 _ (0, 0) _ _ [some (Value.ref a33), some (iV 0)] [Value.ref a34] _
  refine pw_iload1 C dX2_forget_12 ?_
  refine pw_bipush C dX2_forget_13 (by decide) ?_
  refine pw_iastore C (k := 34) (show nl93[34]? = some (1, 7, []) from rfl) (by decide) (by decide) dX2_forget_15 ?_
  refine pw_iinc1 C (by decide) dX2_forget_16 ?_
  refine pw_goto (tgt := 2) C dX2_forget_19 (by decide) ?_
  refine pw_iload1 C dX2_forget_2 ?_
  refine pw_bipush C dX2_forget_3 (by decide) ?_
  refine pw_icmp_gt (tgt := 22) C dX2_forget_5 (by decide) (by decide) (by decide) (fun h => absurd h (by decide)) (fun h => ?_)
  refine pv_aload C (i := 0) (b := a33) rfl dX2_forget_8 ?_
  refine pw_get0 C (k := 33) (show nl93[33]? = some (0, 2, [36, 37, 3, 11, 39, 38]) from rfl) kc_2 gT_wsX20 0 (by decide) rfl fl_X2_9 dX2_forget_9 ?_
  have C : CXok X (KL D t [a0, a1, a2, a3, a4, a5, a6, a7, a8, a9, a10, a11, a12, a13, a14, a15, a16, a17, a18, a19, a20, a21, a22, a23, a24, a25, a26, a27, a28, a29, a30, a31, a32, a33, a34, a35, a36, a37, a38, a39, a40, a41, a42]) nl93 _ _ _ _ _ := C
  change PW X (KL D t [a0, a1, a2, a3, a4, a5, a6, a7, a8, a9, a10, a11, a12, a13, a14, a15, a16, a17, a18, a19, a20, a21, a22, a23, a24, a25, a26, a27, a28, a29, a30, a31, a32, a33, a34, a35, a36, a37, a38, a39, a40, a41, a42]) nl93 _ (0, 0) _ _ [some (Value.ref a33), some (iV (0 + 1))] [Value.ref a34] _
  refine pw_iload1 C dX2_forget_12 ?_
  refine pw_bipush C dX2_forget_13 (by decide) ?_
  refine pw_iastore C (k := 34) (show nl93[34]? = some (1, 7, []) from rfl) (by decide) (by decide) dX2_forget_15 ?_
  refine pw_iinc1 C (by decide) dX2_forget_16 ?_
  refine pw_goto (tgt := 2) C dX2_forget_19 (by decide) ?_
  refine pw_iload1 C dX2_forget_2 ?_
  refine pw_bipush C dX2_forget_3 (by decide) ?_
  refine pw_icmp_gt (tgt := 22) C dX2_forget_5 (by decide) (by decide) (by decide) (fun h => absurd h (by decide)) (fun h => ?_)
  refine pv_aload C (i := 0) (b := a33) rfl dX2_forget_8 ?_
  refine pw_get0 C (k := 33) (show nl93[33]? = some (0, 2, [36, 37, 3, 11, 39, 38]) from rfl) kc_2 gT_wsX20 0 (by decide) rfl fl_X2_9 dX2_forget_9 ?_
  have C : CXok X (KL D t [a0, a1, a2, a3, a4, a5, a6, a7, a8, a9, a10, a11, a12, a13, a14, a15, a16, a17, a18, a19, a20, a21, a22, a23, a24, a25, a26, a27, a28, a29, a30, a31, a32, a33, a34, a35, a36, a37, a38, a39, a40, a41, a42]) nl93 _ _ _ _ _ := C
  change PW X (KL D t [a0, a1, a2, a3, a4, a5, a6, a7, a8, a9, a10, a11, a12, a13, a14, a15, a16, a17, a18, a19, a20, a21, a22, a23, a24, a25, a26, a27, a28, a29, a30, a31, a32, a33, a34, a35, a36, a37, a38, a39, a40, a41, a42]) nl93 _ (0, 0) _ _ [some (Value.ref a33), some (iV ((0 + 1) + 1))] [Value.ref a34] _
  refine pw_iload1 C dX2_forget_12 ?_
  refine pw_bipush C dX2_forget_13 (by decide) ?_
  refine pw_iastore C (k := 34) (show nl93[34]? = some (1, 7, []) from rfl) (by decide) (by decide) dX2_forget_15 ?_
  refine pw_iinc1 C (by decide) dX2_forget_16 ?_
  refine pw_goto (tgt := 2) C dX2_forget_19 (by decide) ?_
  refine pw_iload1 C dX2_forget_2 ?_
  refine pw_bipush C dX2_forget_3 (by decide) ?_
  refine pw_icmp_gt (tgt := 22) C dX2_forget_5 (by decide) (by decide) (by decide) (fun h => absurd h (by decide)) (fun h => ?_)
  refine pv_aload C (i := 0) (b := a33) rfl dX2_forget_8 ?_
  refine pw_get0 C (k := 33) (show nl93[33]? = some (0, 2, [36, 37, 3, 11, 39, 38]) from rfl) kc_2 gT_wsX20 0 (by decide) rfl fl_X2_9 dX2_forget_9 ?_
  have C : CXok X (KL D t [a0, a1, a2, a3, a4, a5, a6, a7, a8, a9, a10, a11, a12, a13, a14, a15, a16, a17, a18, a19, a20, a21, a22, a23, a24, a25, a26, a27, a28, a29, a30, a31, a32, a33, a34, a35, a36, a37, a38, a39, a40, a41, a42]) nl93 _ _ _ _ _ := C
  change PW X (KL D t [a0, a1, a2, a3, a4, a5, a6, a7, a8, a9, a10, a11, a12, a13, a14, a15, a16, a17, a18, a19, a20, a21, a22, a23, a24, a25, a26, a27, a28, a29, a30, a31, a32, a33, a34, a35, a36, a37, a38, a39, a40, a41, a42]) nl93 _ (0, 0) _ _ [some (Value.ref a33), some (iV (((0 + 1) + 1) + 1))] [Value.ref a34] _
  refine pw_iload1 C dX2_forget_12 ?_
  refine pw_bipush C dX2_forget_13 (by decide) ?_
  refine pw_iastore C (k := 34) (show nl93[34]? = some (1, 7, []) from rfl) (by decide) (by decide) dX2_forget_15 ?_
  refine pw_iinc1 C (by decide) dX2_forget_16 ?_
  refine pw_goto (tgt := 2) C dX2_forget_19 (by decide) ?_
  refine pw_iload1 C dX2_forget_2 ?_
  refine pw_bipush C dX2_forget_3 (by decide) ?_
  refine pw_icmp_gt (tgt := 22) C dX2_forget_5 (by decide) (by decide) (by decide) (fun h => absurd h (by decide)) (fun h => ?_)
  refine pv_aload C (i := 0) (b := a33) rfl dX2_forget_8 ?_
  refine pw_get0 C (k := 33) (show nl93[33]? = some (0, 2, [36, 37, 3, 11, 39, 38]) from rfl) kc_2 gT_wsX20 0 (by decide) rfl fl_X2_9 dX2_forget_9 ?_
  have C : CXok X (KL D t [a0, a1, a2, a3, a4, a5, a6, a7, a8, a9, a10, a11, a12, a13, a14, a15, a16, a17, a18, a19, a20, a21, a22, a23, a24, a25, a26, a27, a28, a29, a30, a31, a32, a33, a34, a35, a36, a37, a38, a39, a40, a41, a42]) nl93 _ _ _ _ _ := C
  change PW X (KL D t [a0, a1, a2, a3, a4, a5, a6, a7, a8, a9, a10, a11, a12, a13, a14, a15, a16, a17, a18, a19, a20, a21, a22, a23, a24, a25, a26, a27, a28, a29, a30, a31, a32, a33, a34, a35, a36, a37, a38, a39, a40, a41, a42]) nl93 _ (0, 0) _ _ [some (Value.ref a33), some (iV ((((0 + 1) + 1) + 1) + 1))] [Value.ref a34] _
  refine pw_iload1 C dX2_forget_12 ?_
  refine pw_bipush C dX2_forget_13 (by decide) ?_
  refine pw_iastore C (k := 34) (show nl93[34]? = some (1, 7, []) from rfl) (by decide) (by decide) dX2_forget_15 ?_
  refine pw_iinc1 C (by decide) dX2_forget_16 ?_
  refine pw_goto (tgt := 2) C dX2_forget_19 (by decide) ?_
  refine pw_iload1 C dX2_forget_2 ?_
  refine pw_bipush C dX2_forget_3 (by decide) ?_
  refine pw_icmp_gt (tgt := 22) C dX2_forget_5 (by decide) (by decide) (by decide) (fun h => absurd h (by decide)) (fun h => ?_)
  refine pv_aload C (i := 0) (b := a33) rfl dX2_forget_8 ?_
  refine pw_get0 C (k := 33) (show nl93[33]? = some (0, 2, [36, 37, 3, 11, 39, 38]) from rfl) kc_2 gT_wsX20 0 (by decide) rfl fl_X2_9 dX2_forget_9 ?_
  have C : CXok X (KL D t [a0, a1, a2, a3, a4, a5, a6, a7, a8, a9, a10, a11, a12, a13, a14, a15, a16, a17, a18, a19, a20, a21, a22, a23, a24, a25, a26, a27, a28, a29, a30, a31, a32, a33, a34, a35, a36, a37, a38, a39, a40, a41, a42]) nl93 _ _ _ _ _ := C
  change PW X (KL D t [a0, a1, a2, a3, a4, a5, a6, a7, a8, a9, a10, a11, a12, a13, a14, a15, a16, a17, a18, a19, a20, a21, a22, a23, a24, a25, a26, a27, a28, a29, a30, a31, a32, a33, a34, a35, a36, a37, a38, a39, a40, a41, a42]) nl93 _ (0, 0) _ _ [some (Value.ref a33), some (iV (((((0 + 1) + 1) + 1) + 1) + 1))] [Value.ref a34] _
  refine pw_iload1 C dX2_forget_12 ?_
  refine pw_bipush C dX2_forget_13 (by decide) ?_
  refine pw_iastore C (k := 34) (show nl93[34]? = some (1, 7, []) from rfl) (by decide) (by decide) dX2_forget_15 ?_
  refine pw_iinc1 C (by decide) dX2_forget_16 ?_
  refine pw_goto (tgt := 2) C dX2_forget_19 (by decide) ?_
  refine pw_iload1 C dX2_forget_2 ?_
  refine pw_bipush C dX2_forget_3 (by decide) ?_
  refine pw_icmp_gt (tgt := 22) C dX2_forget_5 (by decide) (by decide) (by decide) (fun h => absurd h (by decide)) (fun h => ?_)
  refine pv_aload C (i := 0) (b := a33) rfl dX2_forget_8 ?_
  refine pw_get0 C (k := 33) (show nl93[33]? = some (0, 2, [36, 37, 3, 11, 39, 38]) from rfl) kc_2 gT_wsX20 0 (by decide) rfl fl_X2_9 dX2_forget_9 ?_
  have C : CXok X (KL D t [a0, a1, a2, a3, a4, a5, a6, a7, a8, a9, a10, a11, a12, a13, a14, a15, a16, a17, a18, a19, a20, a21, a22, a23, a24, a25, a26, a27, a28, a29, a30, a31, a32, a33, a34, a35, a36, a37, a38, a39, a40, a41, a42]) nl93 _ _ _ _ _ := C
  change PW X (KL D t [a0, a1, a2, a3, a4, a5, a6, a7, a8, a9, a10, a11, a12, a13, a14, a15, a16, a17, a18, a19, a20, a21, a22, a23, a24, a25, a26, a27, a28, a29, a30, a31, a32, a33, a34, a35, a36, a37, a38, a39, a40, a41, a42]) nl93 _ (0, 0) _ _ [some (Value.ref a33), some (iV ((((((0 + 1) + 1) + 1) + 1) + 1) + 1))] [Value.ref a34] _
  refine pw_iload1 C dX2_forget_12 ?_
  refine pw_bipush C dX2_forget_13 (by decide) ?_
  refine pw_iastore C (k := 34) (show nl93[34]? = some (1, 7, []) from rfl) (by decide) (by decide) dX2_forget_15 ?_
  refine pw_iinc1 C (by decide) dX2_forget_16 ?_
  refine pw_goto (tgt := 2) C dX2_forget_19 (by decide) ?_
  refine pw_iload1 C dX2_forget_2 ?_
  refine pw_bipush C dX2_forget_3 (by decide) ?_
  refine pw_icmp_gt (tgt := 22) C dX2_forget_5 (by decide) (by decide) (by decide) (fun h => ?_) (fun h => absurd h (by decide))
  exact pw_vretV C dX2_forget_22 rfl
set_option maxHeartbeats 4000000 in
theorem n_X2_init_1 (l : Launch) (D : va_G) (t : ClassId × ClassId × ClassId × ClassId) (a0 a1 a2 a3 a4 a5 a6 a7 a8 a9 a10 a11 a12 a13 a14 a15 a16 a17 a18 a19 a20 a21 a22 a23 a24 a25 a26 a27 a28 a29 a30 a31 a32 a33 : Nat) : NC l D t [a0, a1, a2, a3, a4, a5, a6, a7, a8, a9, a10, a11, a12, a13, a14, a15, a16, a17, a18, a19, a20, a21, a22, a23, a24, a25, a26, a27, a28, a29, a30, a31, a32, a33] nl72 nl93 nm9 nm11 (fun _ => True) yX2_init cX2_init 3 2 9 1609 [Value.ref a33, Value.ref a1, Value.ref a9] := by
  refine nc_intro RX2 rfl (by decide +kernel) [some (Value.ref a33), some (Value.ref a1), some (Value.ref a9)] rfl (cat_R (cat_R (cat_R cat_nil))) (Nat.le_of_ble_eq_true rfl) (fun X hX C hN hc hs hB => ?_)
  have hN := hN rfl
  refine pv_aload C (i := 0) (b := a33) rfl dX2_init_0 ?_
  refine pw_obj C ml_X2_3 dX2_init_1 (Nat.le_of_ble_eq_true rfl) (by decide) ?_
  refine pv_aload C (i := 0) (b := a33) rfl dX2_init_4 ?_
  refine pw_bipush C dX2_init_5 (by decide) ?_
  refine pw_newi C (n := 7) rfl rfl (nmz_9 34 (by decide)) (by decide) ac__int ⟨by rw [hc]; decide, by rw [hs]; decide⟩ dX2_init_7 (fun a34 C => ?_)
  have C : CXok X (KL D t [a0, a1, a2, a3, a4, a5, a6, a7, a8, a9, a10, a11, a12, a13, a14, a15, a16, a17, a18, a19, a20, a21, a22, a23, a24, a25, a26, a27, a28, a29, a30, a31, a32, a33, a34]) nl73 _ _ _ _ _ := C
  change PW X (KL D t [a0, a1, a2, a3, a4, a5, a6, a7, a8, a9, a10, a11, a12, a13, a14, a15, a16, a17, a18, a19, a20, a21, a22, a23, a24, a25, a26, a27, a28, a29, a30, a31, a32, a33, a34]) nl73 _ (1, 7) _ _ [some (Value.ref a33), some (Value.ref a1), some (Value.ref a9)] [Value.ref a34, Value.ref a33] _
  refine pw_putR C (k := 33) (show nl73[33]? = some (0, 2, [1, 1, 1, 1, 1, 1]) from rfl) kc_2 gT_wsX20 tyX2 tyX2_ok nmX2 0 (by decide) 34 rfl hN rfl rfl rfl (by decide) fl_X2_9 dX2_init_9 (fun C => ?_)
  have C : CXok X (KL D t [a0, a1, a2, a3, a4, a5, a6, a7, a8, a9, a10, a11, a12, a13, a14, a15, a16, a17, a18, a19, a20, a21, a22, a23, a24, a25, a26, a27, a28, a29, a30, a31, a32, a33, a34]) nl74 _ _ _ _ _ := C
  change PW X (KL D t [a0, a1, a2, a3, a4, a5, a6, a7, a8, a9, a10, a11, a12, a13, a14, a15, a16, a17, a18, a19, a20, a21, a22, a23, a24, a25, a26, a27, a28, a29, a30, a31, a32, a33, a34]) nl74 _ (1, 7) _ _ [some (Value.ref a33), some (Value.ref a1), some (Value.ref a9)] [] _
  refine pv_aload C (i := 0) (b := a33) rfl dX2_init_12 ?_
  refine pw_bipush C dX2_init_13 (by decide) ?_
  refine pw_newi C (n := 7) rfl rfl (nmz_9 35 (by decide)) (by decide) ac__int ⟨by rw [hc]; decide, by rw [hs]; decide⟩ dX2_init_15 (fun a35 C => ?_)
  have C : CXok X (KL D t [a0, a1, a2, a3, a4, a5, a6, a7, a8, a9, a10, a11, a12, a13, a14, a15, a16, a17, a18, a19, a20, a21, a22, a23, a24, a25, a26, a27, a28, a29, a30, a31, a32, a33, a34, a35]) nl75 _ _ _ _ _ := C
  change PW X (KL D t [a0, a1, a2, a3, a4, a5, a6, a7, a8, a9, a10, a11, a12, a13, a14, a15, a16, a17, a18, a19, a20, a21, a22, a23, a24, a25, a26, a27, a28, a29, a30, a31, a32, a33, a34, a35]) nl75 _ (2, 14) _ _ [some (Value.ref a33), some (Value.ref a1), some (Value.ref a9)] [Value.ref a35, Value.ref a33] _
  refine pw_putR C (k := 33) (show nl75[33]? = some (0, 2, [36, 1, 1, 1, 1, 1]) from rfl) kc_2 gT_wsX20 tyX2 tyX2_ok nmX2 1 (by decide) 35 rfl hN rfl rfl rfl (by decide) fl_X2_15 dX2_init_17 (fun C => ?_)
  have C : CXok X (KL D t [a0, a1, a2, a3, a4, a5, a6, a7, a8, a9, a10, a11, a12, a13, a14, a15, a16, a17, a18, a19, a20, a21, a22, a23, a24, a25, a26, a27, a28, a29, a30, a31, a32, a33, a34, a35]) nl76 _ _ _ _ _ := C
  change PW X (KL D t [a0, a1, a2, a3, a4, a5, a6, a7, a8, a9, a10, a11, a12, a13, a14, a15, a16, a17, a18, a19, a20, a21, a22, a23, a24, a25, a26, a27, a28, a29, a30, a31, a32, a33, a34, a35]) nl76 _ (2, 14) _ _ [some (Value.ref a33), some (Value.ref a1), some (Value.ref a9)] [] _
  refine pv_aload C (i := 0) (b := a33) rfl dX2_init_20 ?_
  refine pw_bipush C dX2_init_21 (by decide) ?_
  refine pw_newi C (n := 6) rfl rfl (nmz_9 36 (by decide)) (by decide) ac__int ⟨by rw [hc]; decide, by rw [hs]; decide⟩ dX2_init_23 (fun a36 C => ?_)
  have C : CXok X (KL D t [a0, a1, a2, a3, a4, a5, a6, a7, a8, a9, a10, a11, a12, a13, a14, a15, a16, a17, a18, a19, a20, a21, a22, a23, a24, a25, a26, a27, a28, a29, a30, a31, a32, a33, a34, a35, a36]) nl77 _ _ _ _ _ := C
  change PW X (KL D t [a0, a1, a2, a3, a4, a5, a6, a7, a8, a9, a10, a11, a12, a13, a14, a15, a16, a17, a18, a19, a20, a21, a22, a23, a24, a25, a26, a27, a28, a29, a30, a31, a32, a33, a34, a35, a36]) nl77 _ (3, 20) _ _ [some (Value.ref a33), some (Value.ref a1), some (Value.ref a9)] [Value.ref a36, Value.ref a33] _
  refine pw_putR C (k := 33) (show nl77[33]? = some (0, 2, [36, 37, 1, 1, 1, 1]) from rfl) kc_2 gT_wsX20 tyX2 tyX2_ok nmX2 5 (by decide) 36 rfl hN rfl rfl rfl (by decide) fl_X2_18 dX2_init_25 (fun C => ?_)
  have C : CXok X (KL D t [a0, a1, a2, a3, a4, a5, a6, a7, a8, a9, a10, a11, a12, a13, a14, a15, a16, a17, a18, a19, a20, a21, a22, a23, a24, a25, a26, a27, a28, a29, a30, a31, a32, a33, a34, a35, a36]) nl78 _ _ _ _ _ := C
  change PW X (KL D t [a0, a1, a2, a3, a4, a5, a6, a7, a8, a9, a10, a11, a12, a13, a14, a15, a16, a17, a18, a19, a20, a21, a22, a23, a24, a25, a26, a27, a28, a29, a30, a31, a32, a33, a34, a35, a36]) nl78 _ (3, 20) _ _ [some (Value.ref a33), some (Value.ref a1), some (Value.ref a9)] [] _
  refine pv_aload C (i := 0) (b := a33) rfl dX2_init_28 ?_
  refine pv_aload C (i := 1) (b := a1) rfl dX2_init_29 ?_
  refine pw_putR C (k := 33) (show nl78[33]? = some (0, 2, [36, 37, 1, 1, 1, 38]) from rfl) kc_2 gT_wsX20 tyX2 tyX2_ok nmX2 2 (by decide) 1 rfl hN rfl rfl rfl (by decide) fl_X2_21 dX2_init_30 (fun C => ?_)
  have C : CXok X (KL D t [a0, a1, a2, a3, a4, a5, a6, a7, a8, a9, a10, a11, a12, a13, a14, a15, a16, a17, a18, a19, a20, a21, a22, a23, a24, a25, a26, a27, a28, a29, a30, a31, a32, a33, a34, a35, a36]) nl79 _ _ _ _ _ := C
  change PW X (KL D t [a0, a1, a2, a3, a4, a5, a6, a7, a8, a9, a10, a11, a12, a13, a14, a15, a16, a17, a18, a19, a20, a21, a22, a23, a24, a25, a26, a27, a28, a29, a30, a31, a32, a33, a34, a35, a36]) nl79 _ (3, 20) _ _ [some (Value.ref a33), some (Value.ref a1), some (Value.ref a9)] [] _
  refine pv_aload C (i := 0) (b := a33) rfl dX2_init_33 ?_
  refine pv_aload C (i := 2) (b := a9) rfl dX2_init_34 ?_
  refine pw_putR C (k := 33) (show nl79[33]? = some (0, 2, [36, 37, 3, 1, 1, 38]) from rfl) kc_2 gT_wsX20 tyX2 tyX2_ok nmX2 3 (by decide) 9 rfl hN rfl rfl rfl (by decide) fl_X2_25 dX2_init_35 (fun C => ?_)
  have C : CXok X (KL D t [a0, a1, a2, a3, a4, a5, a6, a7, a8, a9, a10, a11, a12, a13, a14, a15, a16, a17, a18, a19, a20, a21, a22, a23, a24, a25, a26, a27, a28, a29, a30, a31, a32, a33, a34, a35, a36]) nl80 _ _ _ _ _ := C
  change PW X (KL D t [a0, a1, a2, a3, a4, a5, a6, a7, a8, a9, a10, a11, a12, a13, a14, a15, a16, a17, a18, a19, a20, a21, a22, a23, a24, a25, a26, a27, a28, a29, a30, a31, a32, a33, a34, a35, a36]) nl80 _ (3, 20) _ _ [some (Value.ref a33), some (Value.ref a1), some (Value.ref a9)] [] _
  refine pv_aload C (i := 0) (b := a33) rfl dX2_init_38 ?_
  refine pw_newo C (codes := [0, 0, 1, 1, 0, 1, 1, 1, 1]) kc_8 gT_wsX80 tyX8 tyX8_ok rfl rfl rfl (nmz_9 37 (by decide)) dv_X8 cl_X2_29 it_RX8 in_RX8 ⟨by rw [hc]; decide, by rw [hs]; decide⟩ dX2_init_39 (fun a37 C => ?_)
  have C : CXok X (KL D t [a0, a1, a2, a3, a4, a5, a6, a7, a8, a9, a10, a11, a12, a13, a14, a15, a16, a17, a18, a19, a20, a21, a22, a23, a24, a25, a26, a27, a28, a29, a30, a31, a32, a33, a34, a35, a36, a37]) nl81 _ _ _ _ _ := C
  change PW X (KL D t [a0, a1, a2, a3, a4, a5, a6, a7, a8, a9, a10, a11, a12, a13, a14, a15, a16, a17, a18, a19, a20, a21, a22, a23, a24, a25, a26, a27, a28, a29, a30, a31, a32, a33, a34, a35, a36, a37]) nl81 _ (4, 29) _ _ [some (Value.ref a33), some (Value.ref a1), some (Value.ref a9)] [Value.ref a37, Value.ref a33] _
  refine pw_dup C rfl dX2_init_42 ?_
  refine pv_aload C (i := 1) (b := a1) rfl dX2_init_43 ?_
  refine pw_bipush C dX2_init_44 (by decide) ?_
  refine pw_bipush C dX2_init_46 (by decide) ?_
  refine pw_callN C a37 [Value.ref a1, iV 6, iV 120] [Value.ref a37, Value.ref a33] (n_X8_init_2 _ D t a0 a1 a2 a3 a4 a5 a6 a7 a8 a9 a10 a11 a12 a13 a14 a15 a16 a17 a18 a19 a20 a21 a22 a23 a24 a25 a26 a27 a28 a29 a30 a31 a32 a33 a34 a35 a36 a37) cbi_X8_init (fun _ _ _ _ => trivial) BS_true ml_X2_31 dX2_init_48 (by decide) ⟨by rw [hc]; decide, by rw [hs]; decide⟩ rfl (Nat.le_of_ble_eq_true rfl) rfl (fun bs hbs C => ?_)
  obtain ⟨a38, a39, a40, a41, a42, rfl⟩ := len5 hbs
  have C : CXok X (KL D t [a0, a1, a2, a3, a4, a5, a6, a7, a8, a9, a10, a11, a12, a13, a14, a15, a16, a17, a18, a19, a20, a21, a22, a23, a24, a25, a26, a27, a28, a29, a30, a31, a32, a33, a34, a35, a36, a37, a38, a39, a40, a41, a42]) nl92 _ _ _ _ _ := C
  change PW X (KL D t [a0, a1, a2, a3, a4, a5, a6, a7, a8, a9, a10, a11, a12, a13, a14, a15, a16, a17, a18, a19, a20, a21, a22, a23, a24, a25, a26, a27, a28, a29, a30, a31, a32, a33, a34, a35, a36, a37, a38, a39, a40, a41, a42]) nl92 _ (9, 1609) _ _ [some (Value.ref a33), some (Value.ref a1), some (Value.ref a9)] [Value.ref a37, Value.ref a33] _
  refine pw_putR C (k := 33) (show nl92[33]? = some (0, 2, [36, 37, 3, 11, 1, 38]) from rfl) kc_2 gT_wsX20 tyX2 tyX2_ok nmX2 4 (by decide) 37 rfl hN rfl rfl rfl (by decide) fl_X2_34 dX2_init_51 (fun C => ?_)
  have C : CXok X (KL D t [a0, a1, a2, a3, a4, a5, a6, a7, a8, a9, a10, a11, a12, a13, a14, a15, a16, a17, a18, a19, a20, a21, a22, a23, a24, a25, a26, a27, a28, a29, a30, a31, a32, a33, a34, a35, a36, a37, a38, a39, a40, a41, a42]) nl93 _ _ _ _ _ := C
  change PW X (KL D t [a0, a1, a2, a3, a4, a5, a6, a7, a8, a9, a10, a11, a12, a13, a14, a15, a16, a17, a18, a19, a20, a21, a22, a23, a24, a25, a26, a27, a28, a29, a30, a31, a32, a33, a34, a35, a36, a37, a38, a39, a40, a41, a42]) nl93 _ (9, 1609) _ _ [some (Value.ref a33), some (Value.ref a1), some (Value.ref a9)] [] _
  refine pv_aload C (i := 0) (b := a33) rfl dX2_init_54 ?_
  refine pw_callV C (k := 33) (As := []) (rest := []) (n_X2_forget _ D t a0 a1 a2 a3 a4 a5 a6 a7 a8 a9 a10 a11 a12 a13 a14 a15 a16 a17 a18 a19 a20 a21 a22 a23 a24 a25 a26 a27 a28 a29 a30 a31 a32 a33 a34 a35 a36 a37 a38 a39 a40 a41 a42) cb_X2_forget (show nl93[33]? = some (0, 2, [36, 37, 3, 11, 39, 38]) from rfl) kc_2 rfl ml_X2_38 dX2_init_55 (by decide) ⟨by rw [hc]; decide, by rw [hs]; decide⟩ rfl (Nat.le_of_ble_eq_true rfl) rfl (fun v M9 hq => ?_)
  obtain ⟨rfl, rfl⟩ := hq
  have C : CXok X (KL D t [a0, a1, a2, a3, a4, a5, a6, a7, a8, a9, a10, a11, a12, a13, a14, a15, a16, a17, a18, a19, a20, a21, a22, a23, a24, a25, a26, a27, a28, a29, a30, a31, a32, a33, a34, a35, a36, a37, a38, a39, a40, a41, a42]) nl93 _ _ _ _ _ := C
  change PW X (KL D t [a0, a1, a2, a3, a4, a5, a6, a7, a8, a9, a10, a11, a12, a13, a14, a15, a16, a17, a18, a19, a20, a21, a22, a23, a24, a25, a26, a27, a28, a29, a30, a31, a32, a33, a34, a35, a36, a37, a38, a39, a40, a41, a42]) nl93 _ (9, 1609) _ _ [some (Value.ref a33), some (Value.ref a1), some (Value.ref a9)] [] _
  exact pw_vretN [a34, a35, a36, a37, a38, a39, a40, a41, a42] C rfl rfl (by decide) (by decide) dX2_init_58
