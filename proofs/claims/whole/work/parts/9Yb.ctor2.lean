set_option maxHeartbeats 4000000 in
theorem n_X10_init_1 (l : Launch) (D : va_G) (t : ClassId × ClassId × ClassId × ClassId) (a0 : Nat) : NC l D t [a0] nl0 nl94 nm0 nm11 NB yX10_init cX10_init 1 3 42 3361 [Value.ref a0] := by
  refine nc_intro RX10 rfl (by decide +kernel) [some (Value.ref a0)] rfl (cat_R cat_nil) (Nat.le_of_ble_eq_true rfl) (fun X hX C hN hc hs hB => ?_)
  have hN := hN rfl
  refine pv_aload C (i := 0) (b := a0) rfl dX10_init_0 ?_
  refine pw_obj C ml_X10_1 dX10_init_1 (Nat.le_of_ble_eq_true rfl) (by decide) ?_
  refine pv_aload C (i := 0) (b := a0) rfl dX10_init_4 ?_
  refine pw_newo C (codes := [0, 0, 0, 0, 1]) kc_3 gT_wsX30 tyX3 tyX3_ok rfl rfl rfl (nmz_0 1 (by decide)) dv_X3 cl_X10_7 it_RX3 in_RX3 ⟨by rw [hc]; decide, by rw [hs]; decide⟩ dX10_init_5 (fun a1 C => ?_)
  have C : CXok X (KL D t [a0, a1]) nl1 _ _ _ _ _ := C
  change PW X (KL D t [a0, a1]) nl1 _ (1, 5) _ _ [some (Value.ref a0)] [Value.ref a1, Value.ref a0] _
  refine pw_dup C rfl dX10_init_8 ?_
  refine pw_callN C a1 [] [Value.ref a1, Value.ref a0] (n_X3_init_1 _ D t a0 a1) cbi_X3_init (fun _ _ _ _ => trivial) BS_true ml_X10_9 dX10_init_9 (by decide) ⟨by rw [hc]; decide, by rw [hs]; decide⟩ rfl (Nat.le_of_ble_eq_true rfl) rfl (fun bs hbs C => ?_)
  obtain ⟨a2, rfl⟩ := len1 hbs
  have C : CXok X (KL D t [a0, a1, a2]) nl3 _ _ _ _ _ := C
  change PW X (KL D t [a0, a1, a2]) nl3 _ (2, 21) _ _ [some (Value.ref a0)] [Value.ref a1, Value.ref a0] _
  refine pw_putR C (k := 0) (show nl3[0]? = some (0, 10, [1, 1, 1, 1, 1, 1, 1, 1, 1]) from rfl) kc_10 gT_wsX100 tyX10 tyX10_ok nmX10 0 (by decide) 1 rfl hN rfl rfl rfl (by decide) fl_X10_10 dX10_init_12 (fun C => ?_)
  have C : CXok X (KL D t [a0, a1, a2]) nl4 _ _ _ _ _ := C
  change PW X (KL D t [a0, a1, a2]) nl4 _ (2, 21) _ _ [some (Value.ref a0)] [] _
  refine pv_aload C (i := 0) (b := a0) rfl dX10_init_15 ?_
  refine pw_newo C (codes := [0, 1, 1]) kc_6 gT_wsX60 tyX6 tyX6_ok rfl rfl rfl (nmz_1 3 (by decide)) dv_X6 cl_X10_16 it_RX6 in_RX6 ⟨by rw [hc]; decide, by rw [hs]; decide⟩ dX10_init_16 (fun a3 C => ?_)
  have C : CXok X (KL D t [a0, a1, a2, a3]) nl5 _ _ _ _ _ := C
  change PW X (KL D t [a0, a1, a2, a3]) nl5 _ (3, 24) _ _ [some (Value.ref a0)] [Value.ref a3, Value.ref a0] _
  refine pw_dup C rfl dX10_init_19 ?_
  refine pw_callNN C a3 [] [Value.ref a3, Value.ref a0] (n_X6_init_1 _ D t a0 a1 a2 a3) cbi_X6_init (fun _ _ _ _ => trivial) BS_true (BS_sub (fun _ h => h.1) hB) dX10_init_20 (by decide) ⟨by rw [hc]; decide, by rw [hs]; decide⟩ rfl (Nat.le_of_ble_eq_true rfl) rfl (fun bs hbs C => ?_)
  obtain ⟨a4, a5, rfl⟩ := len2 hbs
  have C : CXok X (KL D t [a0, a1, a2, a3, a4, a5]) nl9 _ _ _ _ _ := C
  change PW X (KL D t [a0, a1, a2, a3, a4, a5]) nl9 _ (5, 104) _ _ [some (Value.ref a0)] [Value.ref a3, Value.ref a0] _
  refine pw_putR C (k := 0) (show nl9[0]? = some (0, 10, [3, 1, 1, 1, 1, 1, 1, 1, 1]) from rfl) kc_10 gT_wsX100 tyX10 tyX10_ok nmX10 1 (by decide) 3 rfl hN rfl rfl rfl (by decide) fl_X10_19 dX10_init_23 (fun C => ?_)
  have C : CXok X (KL D t [a0, a1, a2, a3, a4, a5]) nl10 _ _ _ _ _ := C
  change PW X (KL D t [a0, a1, a2, a3, a4, a5]) nl10 _ (5, 104) _ _ [some (Value.ref a0)] [] _
  refine pv_aload C (i := 0) (b := a0) rfl dX10_init_26 ?_
  refine pw_newo C (codes := [0, 0, 1, 1]) kc_9 gT_wsX90 tyX9 tyX9_ok rfl rfl rfl (nmz_2 6 (by decide)) dv_X9 cl_X10_23 it_RX9 in_RX9 ⟨by rw [hc]; decide, by rw [hs]; decide⟩ dX10_init_27 (fun a6 C => ?_)
  have C : CXok X (KL D t [a0, a1, a2, a3, a4, a5, a6]) nl11 _ _ _ _ _ := C
  change PW X (KL D t [a0, a1, a2, a3, a4, a5, a6]) nl11 _ (6, 108) _ _ [some (Value.ref a0)] [Value.ref a6, Value.ref a0] _
  refine pw_dup C rfl dX10_init_30 ?_
  refine pw_callNN C a6 [] [Value.ref a6, Value.ref a0] (n_X9_init_1 _ D t a0 a1 a2 a3 a4 a5 a6) cbi_X9_init (fun _ _ _ _ => trivial) BS_true (BS_sub (fun _ h => h.2.1) hB) dX10_init_31 (by decide) ⟨by rw [hc]; decide, by rw [hs]; decide⟩ rfl (Nat.le_of_ble_eq_true rfl) rfl (fun bs hbs C => ?_)
  obtain ⟨a7, a8, rfl⟩ := len2 hbs
  have C : CXok X (KL D t [a0, a1, a2, a3, a4, a5, a6, a7, a8]) nl15 _ _ _ _ _ := C
  change PW X (KL D t [a0, a1, a2, a3, a4, a5, a6, a7, a8]) nl15 _ (8, 172) _ _ [some (Value.ref a0)] [Value.ref a6, Value.ref a0] _
  refine pw_putR C (k := 0) (show nl15[0]? = some (0, 10, [3, 5, 1, 1, 1, 1, 1, 1, 1]) from rfl) kc_10 gT_wsX100 tyX10 tyX10_ok nmX10 2 (by decide) 6 rfl hN rfl rfl rfl (by decide) fl_X10_26 dX10_init_34 (fun C => ?_)
  have C : CXok X (KL D t [a0, a1, a2, a3, a4, a5, a6, a7, a8]) nl16 _ _ _ _ _ := C
  change PW X (KL D t [a0, a1, a2, a3, a4, a5, a6, a7, a8]) nl16 _ (8, 172) _ _ [some (Value.ref a0)] [] _
  refine pv_aload C (i := 0) (b := a0) rfl dX10_init_37 ?_
  refine pw_newo C (codes := [0, 1, 1]) kc_7 gT_wsX70 tyX7 tyX7_ok rfl rfl rfl (nmz_3 9 (by decide)) dv_X7 cl_X10_30 it_RX7 in_RX7 ⟨by rw [hc]; decide, by rw [hs]; decide⟩ dX10_init_38 (fun a9 C => ?_)
  have C : CXok X (KL D t [a0, a1, a2, a3, a4, a5, a6, a7, a8, a9]) nl17 _ _ _ _ _ := C
  change PW X (KL D t [a0, a1, a2, a3, a4, a5, a6, a7, a8, a9]) nl17 _ (9, 175) _ _ [some (Value.ref a0)] [Value.ref a9, Value.ref a0] _
  refine pw_dup C rfl dX10_init_41 ?_
  refine pw_callNN C a9 [] [Value.ref a9, Value.ref a0] (n_X7_init_1 _ D t a0 a1 a2 a3 a4 a5 a6 a7 a8 a9) cbi_X7_init (fun _ _ _ _ => trivial) BS_true (BS_sub (fun _ h => h.2.2) hB) dX10_init_42 (by decide) ⟨by rw [hc]; decide, by rw [hs]; decide⟩ rfl (Nat.le_of_ble_eq_true rfl) rfl (fun bs hbs C => ?_)
  obtain ⟨a10, a11, rfl⟩ := len2 hbs
  have C : CXok X (KL D t [a0, a1, a2, a3, a4, a5, a6, a7, a8, a9, a10, a11]) nl21 _ _ _ _ _ := C
  change PW X (KL D t [a0, a1, a2, a3, a4, a5, a6, a7, a8, a9, a10, a11]) nl21 _ (11, 300) _ _ [some (Value.ref a0)] [Value.ref a9, Value.ref a0] _
  refine pw_putR C (k := 0) (show nl21[0]? = some (0, 10, [3, 5, 8, 1, 1, 1, 1, 1, 1]) from rfl) kc_10 gT_wsX100 tyX10 tyX10_ok nmX10 3 (by decide) 9 rfl hN rfl rfl rfl (by decide) fl_X10_33 dX10_init_45 (fun C => ?_)
  have C : CXok X (KL D t [a0, a1, a2, a3, a4, a5, a6, a7, a8, a9, a10, a11]) nl22 _ _ _ _ _ := C
  change PW X (KL D t [a0, a1, a2, a3, a4, a5, a6, a7, a8, a9, a10, a11]) nl22 _ (11, 300) _ _ [some (Value.ref a0)] [] _
  refine pv_aload C (i := 0) (b := a0) rfl dX10_init_48 ?_
  refine pw_newo C (codes := [1, 1, 0, 1, 1, 1]) kc_0 gT_wsX00 tyX0 tyX0_ok rfl rfl rfl (nmz_4 12 (by decide)) dv_X0 cl_X10_37 it_RX0 in_RX0 ⟨by rw [hc]; decide, by rw [hs]; decide⟩ dX10_init_49 (fun a12 C => ?_)
  have C : CXok X (KL D t [a0, a1, a2, a3, a4, a5, a6, a7, a8, a9, a10, a11, a12]) nl23 _ _ _ _ _ := C
  change PW X (KL D t [a0, a1, a2, a3, a4, a5, a6, a7, a8, a9, a10, a11, a12]) nl23 _ (12, 306) _ _ [some (Value.ref a0)] [Value.ref a12, Value.ref a0] _
  refine pw_dup C rfl dX10_init_52 ?_
  refine pv_aload C (i := 0) (b := a0) rfl dX10_init_53 ?_
  refine pw_get0 C (k := 0) (show nl23[0]? = some (0, 10, [3, 5, 8, 11, 1, 1, 1, 1, 1]) from rfl) kc_10 gT_wsX100 0 (by decide) rfl fl_X10_10 dX10_init_54 ?_
  have C : CXok X (KL D t [a0, a1, a2, a3, a4, a5, a6, a7, a8, a9, a10, a11, a12]) nl23 _ _ _ _ _ := C
  change PW X (KL D t [a0, a1, a2, a3, a4, a5, a6, a7, a8, a9, a10, a11, a12]) nl23 _ (12, 306) _ _ [some (Value.ref a0)] [Value.ref a1, Value.ref a12, Value.ref a12, Value.ref a0] _
  refine pv_aload C (i := 0) (b := a0) rfl dX10_init_57 ?_
  refine pw_get0 C (k := 0) (show nl23[0]? = some (0, 10, [3, 5, 8, 11, 1, 1, 1, 1, 1]) from rfl) kc_10 gT_wsX100 2 (by decide) rfl fl_X10_26 dX10_init_58 ?_
  have C : CXok X (KL D t [a0, a1, a2, a3, a4, a5, a6, a7, a8, a9, a10, a11, a12]) nl23 _ _ _ _ _ := C
  change PW X (KL D t [a0, a1, a2, a3, a4, a5, a6, a7, a8, a9, a10, a11, a12]) nl23 _ (12, 306) _ _ [some (Value.ref a0)] [Value.ref a6, Value.ref a1, Value.ref a12, Value.ref a12, Value.ref a0] _
  refine pw_callN C a12 [Value.ref a1, Value.ref a6] [Value.ref a12, Value.ref a0] (n_X0_init_1 _ D t a0 a1 a2 a3 a4 a5 a6 a7 a8 a9 a10 a11 a12) cbi_X0_init (fun _ _ _ _ => trivial) BS_true ml_X10_39 dX10_init_61 (by decide) ⟨by rw [hc]; decide, by rw [hs]; decide⟩ rfl (Nat.le_of_ble_eq_true rfl) rfl (fun bs hbs C => ?_)
  obtain ⟨a13, a14, a15, a16, a17, a18, a19, a20, rfl⟩ := len8 hbs
  have C : CXok X (KL D t [a0, a1, a2, a3, a4, a5, a6, a7, a8, a9, a10, a11, a12, a13, a14, a15, a16, a17, a18, a19, a20]) nl42 _ _ _ _ _ := C
  change PW X (KL D t [a0, a1, a2, a3, a4, a5, a6, a7, a8, a9, a10, a11, a12, a13, a14, a15, a16, a17, a18, a19, a20]) nl42 _ (20, 473) _ _ [some (Value.ref a0)] [Value.ref a12, Value.ref a0] _
  refine pw_putR C (k := 0) (show nl42[0]? = some (0, 10, [3, 5, 8, 11, 1, 1, 1, 1, 1]) from rfl) kc_10 gT_wsX100 tyX10 tyX10_ok nmX10 4 (by decide) 12 rfl hN rfl rfl rfl (by decide) fl_X10_42 dX10_init_64 (fun C => ?_)
  have C : CXok X (KL D t [a0, a1, a2, a3, a4, a5, a6, a7, a8, a9, a10, a11, a12, a13, a14, a15, a16, a17, a18, a19, a20]) nl43 _ _ _ _ _ := C
  change PW X (KL D t [a0, a1, a2, a3, a4, a5, a6, a7, a8, a9, a10, a11, a12, a13, a14, a15, a16, a17, a18, a19, a20]) nl43 _ (20, 473) _ _ [some (Value.ref a0)] [] _
  refine pv_aload C (i := 0) (b := a0) rfl dX10_init_67 ?_
  refine pw_newo C (codes := [0, 0, 0, 0, 0, 0, 1, 1, 1]) kc_5 gT_wsX50 tyX5 tyX5_ok rfl rfl rfl (nmz_6 21 (by decide)) dv_X5 cl_X10_46 it_RX5 in_RX5 ⟨by rw [hc]; decide, by rw [hs]; decide⟩ dX10_init_68 (fun a21 C => ?_)
  have C : CXok X (KL D t [a0, a1, a2, a3, a4, a5, a6, a7, a8, a9, a10, a11, a12, a13, a14, a15, a16, a17, a18, a19, a20, a21]) nl44 _ _ _ _ _ := C
  change PW X (KL D t [a0, a1, a2, a3, a4, a5, a6, a7, a8, a9, a10, a11, a12, a13, a14, a15, a16, a17, a18, a19, a20, a21]) nl44 _ (21, 482) _ _ [some (Value.ref a0)] [Value.ref a21, Value.ref a0] _
  refine pw_dup C rfl dX10_init_71 ?_
  refine pv_aload C (i := 0) (b := a0) rfl dX10_init_72 ?_
  refine pw_get0 C (k := 0) (show nl44[0]? = some (0, 10, [3, 5, 8, 11, 14, 1, 1, 1, 1]) from rfl) kc_10 gT_wsX100 4 (by decide) rfl fl_X10_42 dX10_init_73 ?_
  have C : CXok X (KL D t [a0, a1, a2, a3, a4, a5, a6, a7, a8, a9, a10, a11, a12, a13, a14, a15, a16, a17, a18, a19, a20, a21]) nl44 _ _ _ _ _ := C
  change PW X (KL D t [a0, a1, a2, a3, a4, a5, a6, a7, a8, a9, a10, a11, a12, a13, a14, a15, a16, a17, a18, a19, a20, a21]) nl44 _ (21, 482) _ _ [some (Value.ref a0)] [Value.ref a12, Value.ref a21, Value.ref a21, Value.ref a0] _
  refine pw_callN C a21 [Value.ref a12] [Value.ref a21, Value.ref a0] (n_X5_init_1 _ D t a0 a1 a2 a3 a4 a5 a6 a7 a8 a9 a10 a11 a12 a13 a14 a15 a16 a17 a18 a19 a20 a21) cbi_X5_init (fun _ _ _ _ => trivial) BS_true ml_X10_48 dX10_init_76 (by decide) ⟨by rw [hc]; decide, by rw [hs]; decide⟩ rfl (Nat.le_of_ble_eq_true rfl) rfl (fun bs hbs C => ?_)
  obtain ⟨a22, a23, rfl⟩ := len2 hbs
  have C : CXok X (KL D t [a0, a1, a2, a3, a4, a5, a6, a7, a8, a9, a10, a11, a12, a13, a14, a15, a16, a17, a18, a19, a20, a21, a22, a23]) nl49 _ _ _ _ _ := C
  change PW X (KL D t [a0, a1, a2, a3, a4, a5, a6, a7, a8, a9, a10, a11, a12, a13, a14, a15, a16, a17, a18, a19, a20, a21, a22, a23]) nl49 _ (23, 610) _ _ [some (Value.ref a0)] [Value.ref a21, Value.ref a0] _
  refine pw_putR C (k := 0) (show nl49[0]? = some (0, 10, [3, 5, 8, 11, 14, 1, 1, 1, 1]) from rfl) kc_10 gT_wsX100 tyX10 tyX10_ok nmX10 5 (by decide) 21 rfl hN rfl rfl rfl (by decide) fl_X10_51 dX10_init_79 (fun C => ?_)
  have C : CXok X (KL D t [a0, a1, a2, a3, a4, a5, a6, a7, a8, a9, a10, a11, a12, a13, a14, a15, a16, a17, a18, a19, a20, a21, a22, a23]) nl50 _ _ _ _ _ := C
  change PW X (KL D t [a0, a1, a2, a3, a4, a5, a6, a7, a8, a9, a10, a11, a12, a13, a14, a15, a16, a17, a18, a19, a20, a21, a22, a23]) nl50 _ (23, 610) _ _ [some (Value.ref a0)] [] _
  refine pv_aload C (i := 0) (b := a0) rfl dX10_init_82 ?_
  refine pw_newo C (codes := [0, 1, 1, 1, 1, 1, 0]) kc_4 gT_wsX40 tyX4 tyX4_ok rfl rfl rfl (nmz_7 24 (by decide)) dv_X4 cl_X10_55 it_RX4 in_RX4 ⟨by rw [hc]; decide, by rw [hs]; decide⟩ dX10_init_83 (fun a24 C => ?_)
  have C : CXok X (KL D t [a0, a1, a2, a3, a4, a5, a6, a7, a8, a9, a10, a11, a12, a13, a14, a15, a16, a17, a18, a19, a20, a21, a22, a23, a24]) nl51 _ _ _ _ _ := C
  change PW X (KL D t [a0, a1, a2, a3, a4, a5, a6, a7, a8, a9, a10, a11, a12, a13, a14, a15, a16, a17, a18, a19, a20, a21, a22, a23, a24]) nl51 _ (24, 617) _ _ [some (Value.ref a0)] [Value.ref a24, Value.ref a0] _
  refine pw_dup C rfl dX10_init_86 ?_
  refine pv_aload C (i := 0) (b := a0) rfl dX10_init_87 ?_
  refine pw_get0 C (k := 0) (show nl51[0]? = some (0, 10, [3, 5, 8, 11, 14, 23, 1, 1, 1]) from rfl) kc_10 gT_wsX100 4 (by decide) rfl fl_X10_42 dX10_init_88 ?_
  have C : CXok X (KL D t [a0, a1, a2, a3, a4, a5, a6, a7, a8, a9, a10, a11, a12, a13, a14, a15, a16, a17, a18, a19, a20, a21, a22, a23, a24]) nl51 _ _ _ _ _ := C
  change PW X (KL D t [a0, a1, a2, a3, a4, a5, a6, a7, a8, a9, a10, a11, a12, a13, a14, a15, a16, a17, a18, a19, a20, a21, a22, a23, a24]) nl51 _ (24, 617) _ _ [some (Value.ref a0)] [Value.ref a12, Value.ref a24, Value.ref a24, Value.ref a0] _
  refine pw_callN C a24 [Value.ref a12] [Value.ref a24, Value.ref a0] (n_X4_init_1 _ D t a0 a1 a2 a3 a4 a5 a6 a7 a8 a9 a10 a11 a12 a13 a14 a15 a16 a17 a18 a19 a20 a21 a22 a23 a24) cbi_X4_init (fun _ _ _ _ => trivial) BS_true ml_X10_57 dX10_init_91 (by decide) ⟨by rw [hc]; decide, by rw [hs]; decide⟩ rfl (Nat.le_of_ble_eq_true rfl) rfl (fun bs hbs C => ?_)
  obtain ⟨a25, a26, a27, a28, rfl⟩ := len4 hbs
  have C : CXok X (KL D t [a0, a1, a2, a3, a4, a5, a6, a7, a8, a9, a10, a11, a12, a13, a14, a15, a16, a17, a18, a19, a20, a21, a22, a23, a24, a25, a26, a27, a28]) nl60 _ _ _ _ _ := C
  change PW X (KL D t [a0, a1, a2, a3, a4, a5, a6, a7, a8, a9, a10, a11, a12, a13, a14, a15, a16, a17, a18, a19, a20, a21, a22, a23, a24, a25, a26, a27, a28]) nl60 _ (28, 1146) _ _ [some (Value.ref a0)] [Value.ref a24, Value.ref a0] _
  refine pw_putR C (k := 0) (show nl60[0]? = some (0, 10, [3, 5, 8, 11, 14, 23, 1, 1, 1]) from rfl) kc_10 gT_wsX100 tyX10 tyX10_ok nmX10 6 (by decide) 24 rfl hN rfl rfl rfl (by decide) fl_X10_58 dX10_init_94 (fun C => ?_)
  have C : CXok X (KL D t [a0, a1, a2, a3, a4, a5, a6, a7, a8, a9, a10, a11, a12, a13, a14, a15, a16, a17, a18, a19, a20, a21, a22, a23, a24, a25, a26, a27, a28]) nl61 _ _ _ _ _ := C
  change PW X (KL D t [a0, a1, a2, a3, a4, a5, a6, a7, a8, a9, a10, a11, a12, a13, a14, a15, a16, a17, a18, a19, a20, a21, a22, a23, a24, a25, a26, a27, a28]) nl61 _ (28, 1146) _ _ [some (Value.ref a0)] [] _
  refine pv_aload C (i := 0) (b := a0) rfl dX10_init_97 ?_
  refine pw_newo C (codes := [0, 0, 0, 1, 1, 1, 1, 1]) kc_1 gT_wsX10 tyX1 tyX1_ok rfl rfl rfl (nmz_8 29 (by decide)) dv_X1 cl_X10_62 it_RX1 in_RX1 ⟨by rw [hc]; decide, by rw [hs]; decide⟩ dX10_init_98 (fun a29 C => ?_)
  have C : CXok X (KL D t [a0, a1, a2, a3, a4, a5, a6, a7, a8, a9, a10, a11, a12, a13, a14, a15, a16, a17, a18, a19, a20, a21, a22, a23, a24, a25, a26, a27, a28, a29]) nl62 _ _ _ _ _ := C
  change PW X (KL D t [a0, a1, a2, a3, a4, a5, a6, a7, a8, a9, a10, a11, a12, a13, a14, a15, a16, a17, a18, a19, a20, a21, a22, a23, a24, a25, a26, a27, a28, a29]) nl62 _ (29, 1154) _ _ [some (Value.ref a0)] [Value.ref a29, Value.ref a0] _
  refine pw_dup C rfl dX10_init_101 ?_
  refine pv_aload C (i := 0) (b := a0) rfl dX10_init_102 ?_
  refine pw_get0 C (k := 0) (show nl62[0]? = some (0, 10, [3, 5, 8, 11, 14, 23, 26, 1, 1]) from rfl) kc_10 gT_wsX100 0 (by decide) rfl fl_X10_10 dX10_init_103 ?_
  have C : CXok X (KL D t [a0, a1, a2, a3, a4, a5, a6, a7, a8, a9, a10, a11, a12, a13, a14, a15, a16, a17, a18, a19, a20, a21, a22, a23, a24, a25, a26, a27, a28, a29]) nl62 _ _ _ _ _ := C
  change PW X (KL D t [a0, a1, a2, a3, a4, a5, a6, a7, a8, a9, a10, a11, a12, a13, a14, a15, a16, a17, a18, a19, a20, a21, a22, a23, a24, a25, a26, a27, a28, a29]) nl62 _ (29, 1154) _ _ [some (Value.ref a0)] [Value.ref a1, Value.ref a29, Value.ref a29, Value.ref a0] _
  refine pv_aload C (i := 0) (b := a0) rfl dX10_init_106 ?_
  refine pw_get0 C (k := 0) (show nl62[0]? = some (0, 10, [3, 5, 8, 11, 14, 23, 26, 1, 1]) from rfl) kc_10 gT_wsX100 2 (by decide) rfl fl_X10_26 dX10_init_107 ?_
  have C : CXok X (KL D t [a0, a1, a2, a3, a4, a5, a6, a7, a8, a9, a10, a11, a12, a13, a14, a15, a16, a17, a18, a19, a20, a21, a22, a23, a24, a25, a26, a27, a28, a29]) nl62 _ _ _ _ _ := C
  change PW X (KL D t [a0, a1, a2, a3, a4, a5, a6, a7, a8, a9, a10, a11, a12, a13, a14, a15, a16, a17, a18, a19, a20, a21, a22, a23, a24, a25, a26, a27, a28, a29]) nl62 _ (29, 1154) _ _ [some (Value.ref a0)] [Value.ref a6, Value.ref a1, Value.ref a29, Value.ref a29, Value.ref a0] _
  refine pw_callN C a29 [Value.ref a1, Value.ref a6] [Value.ref a29, Value.ref a0] (n_X1_init_1 _ D t a0 a1 a2 a3 a4 a5 a6 a7 a8 a9 a10 a11 a12 a13 a14 a15 a16 a17 a18 a19 a20 a21 a22 a23 a24 a25 a26 a27 a28 a29) cbi_X1_init (fun _ _ _ _ => trivial) BS_true ml_X10_64 dX10_init_110 (by decide) ⟨by rw [hc]; decide, by rw [hs]; decide⟩ rfl (Nat.le_of_ble_eq_true rfl) rfl (fun bs hbs C => ?_)
  obtain ⟨a30, a31, a32, rfl⟩ := len3 hbs
  have C : CXok X (KL D t [a0, a1, a2, a3, a4, a5, a6, a7, a8, a9, a10, a11, a12, a13, a14, a15, a16, a17, a18, a19, a20, a21, a22, a23, a24, a25, a26, a27, a28, a29, a30, a31, a32]) nl70 _ _ _ _ _ := C
  change PW X (KL D t [a0, a1, a2, a3, a4, a5, a6, a7, a8, a9, a10, a11, a12, a13, a14, a15, a16, a17, a18, a19, a20, a21, a22, a23, a24, a25, a26, a27, a28, a29, a30, a31, a32]) nl70 _ (32, 1746) _ _ [some (Value.ref a0)] [Value.ref a29, Value.ref a0] _
  refine pw_putR C (k := 0) (show nl70[0]? = some (0, 10, [3, 5, 8, 11, 14, 23, 26, 1, 1]) from rfl) kc_10 gT_wsX100 tyX10 tyX10_ok nmX10 7 (by decide) 29 rfl hN rfl rfl rfl (by decide) fl_X10_65 dX10_init_113 (fun C => ?_)
  have C : CXok X (KL D t [a0, a1, a2, a3, a4, a5, a6, a7, a8, a9, a10, a11, a12, a13, a14, a15, a16, a17, a18, a19, a20, a21, a22, a23, a24, a25, a26, a27, a28, a29, a30, a31, a32]) nl71 _ _ _ _ _ := C
  change PW X (KL D t [a0, a1, a2, a3, a4, a5, a6, a7, a8, a9, a10, a11, a12, a13, a14, a15, a16, a17, a18, a19, a20, a21, a22, a23, a24, a25, a26, a27, a28, a29, a30, a31, a32]) nl71 _ (32, 1746) _ _ [some (Value.ref a0)] [] _
  refine pv_aload C (i := 0) (b := a0) rfl dX10_init_116 ?_
  refine pw_newo C (codes := [1, 1, 1, 1, 1, 1]) kc_2 gT_wsX20 tyX2 tyX2_ok rfl rfl rfl (nmz_9 33 (by decide)) dv_X2 cl_X10_69 it_RX2 in_RX2 ⟨by rw [hc]; decide, by rw [hs]; decide⟩ dX10_init_117 (fun a33 C => ?_)
  have C : CXok X (KL D t [a0, a1, a2, a3, a4, a5, a6, a7, a8, a9, a10, a11, a12, a13, a14, a15, a16, a17, a18, a19, a20, a21, a22, a23, a24, a25, a26, a27, a28, a29, a30, a31, a32, a33]) nl72 _ _ _ _ _ := C
  change PW X (KL D t [a0, a1, a2, a3, a4, a5, a6, a7, a8, a9, a10, a11, a12, a13, a14, a15, a16, a17, a18, a19, a20, a21, a22, a23, a24, a25, a26, a27, a28, a29, a30, a31, a32, a33]) nl72 _ (33, 1752) _ _ [some (Value.ref a0)] [Value.ref a33, Value.ref a0] _
  refine pw_dup C rfl dX10_init_120 ?_
  refine pv_aload C (i := 0) (b := a0) rfl dX10_init_121 ?_
  refine pw_get0 C (k := 0) (show nl72[0]? = some (0, 10, [3, 5, 8, 11, 14, 23, 26, 31, 1]) from rfl) kc_10 gT_wsX100 0 (by decide) rfl fl_X10_10 dX10_init_122 ?_
  have C : CXok X (KL D t [a0, a1, a2, a3, a4, a5, a6, a7, a8, a9, a10, a11, a12, a13, a14, a15, a16, a17, a18, a19, a20, a21, a22, a23, a24, a25, a26, a27, a28, a29, a30, a31, a32, a33]) nl72 _ _ _ _ _ := C
  change PW X (KL D t [a0, a1, a2, a3, a4, a5, a6, a7, a8, a9, a10, a11, a12, a13, a14, a15, a16, a17, a18, a19, a20, a21, a22, a23, a24, a25, a26, a27, a28, a29, a30, a31, a32, a33]) nl72 _ (33, 1752) _ _ [some (Value.ref a0)] [Value.ref a1, Value.ref a33, Value.ref a33, Value.ref a0] _
  refine pv_aload C (i := 0) (b := a0) rfl dX10_init_125 ?_
  refine pw_get0 C (k := 0) (show nl72[0]? = some (0, 10, [3, 5, 8, 11, 14, 23, 26, 31, 1]) from rfl) kc_10 gT_wsX100 3 (by decide) rfl fl_X10_33 dX10_init_126 ?_
  have C : CXok X (KL D t [a0, a1, a2, a3, a4, a5, a6, a7, a8, a9, a10, a11, a12, a13, a14, a15, a16, a17, a18, a19, a20, a21, a22, a23, a24, a25, a26, a27, a28, a29, a30, a31, a32, a33]) nl72 _ _ _ _ _ := C
  change PW X (KL D t [a0, a1, a2, a3, a4, a5, a6, a7, a8, a9, a10, a11, a12, a13, a14, a15, a16, a17, a18, a19, a20, a21, a22, a23, a24, a25, a26, a27, a28, a29, a30, a31, a32, a33]) nl72 _ (33, 1752) _ _ [some (Value.ref a0)] [Value.ref a9, Value.ref a1, Value.ref a33, Value.ref a33, Value.ref a0] _
  refine pw_callN C a33 [Value.ref a1, Value.ref a9] [Value.ref a33, Value.ref a0] (n_X2_init_1 _ D t a0 a1 a2 a3 a4 a5 a6 a7 a8 a9 a10 a11 a12 a13 a14 a15 a16 a17 a18 a19 a20 a21 a22 a23 a24 a25 a26 a27 a28 a29 a30 a31 a32 a33) cbi_X2_init (fun _ _ _ _ => trivial) BS_true ml_X10_71 dX10_init_129 (by decide) ⟨by rw [hc]; decide, by rw [hs]; decide⟩ rfl (Nat.le_of_ble_eq_true rfl) rfl (fun bs hbs C => ?_)
  obtain ⟨a34, a35, a36, a37, a38, a39, a40, a41, a42, rfl⟩ := len9 hbs
  have C : CXok X (KL D t [a0, a1, a2, a3, a4, a5, a6, a7, a8, a9, a10, a11, a12, a13, a14, a15, a16, a17, a18, a19, a20, a21, a22, a23, a24, a25, a26, a27, a28, a29, a30, a31, a32, a33, a34, a35, a36, a37, a38, a39, a40, a41, a42]) nl93 _ _ _ _ _ := C
  change PW X (KL D t [a0, a1, a2, a3, a4, a5, a6, a7, a8, a9, a10, a11, a12, a13, a14, a15, a16, a17, a18, a19, a20, a21, a22, a23, a24, a25, a26, a27, a28, a29, a30, a31, a32, a33, a34, a35, a36, a37, a38, a39, a40, a41, a42]) nl93 _ (42, 3361) _ _ [some (Value.ref a0)] [Value.ref a33, Value.ref a0] _
  refine pw_putR C (k := 0) (show nl93[0]? = some (0, 10, [3, 5, 8, 11, 14, 23, 26, 31, 1]) from rfl) kc_10 gT_wsX100 tyX10 tyX10_ok nmX10 8 (by decide) 33 rfl hN rfl rfl rfl (by decide) fl_X10_74 dX10_init_132 (fun C => ?_)
  have C : CXok X (KL D t [a0, a1, a2, a3, a4, a5, a6, a7, a8, a9, a10, a11, a12, a13, a14, a15, a16, a17, a18, a19, a20, a21, a22, a23, a24, a25, a26, a27, a28, a29, a30, a31, a32, a33, a34, a35, a36, a37, a38, a39, a40, a41, a42]) nl94 _ _ _ _ _ := C
  change PW X (KL D t [a0, a1, a2, a3, a4, a5, a6, a7, a8, a9, a10, a11, a12, a13, a14, a15, a16, a17, a18, a19, a20, a21, a22, a23, a24, a25, a26, a27, a28, a29, a30, a31, a32, a33, a34, a35, a36, a37, a38, a39, a40, a41, a42]) nl94 _ (42, 3361) _ _ [some (Value.ref a0)] [] _
  exact pw_vretN [a1, a2, a3, a4, a5, a6, a7, a8, a9, a10, a11, a12, a13, a14, a15, a16, a17, a18, a19, a20, a21, a22, a23, a24, a25, a26, a27, a28, a29, a30, a31, a32, a33, a34, a35, a36, a37, a38, a39, a40, a41, a42] C rfl rfl (by decide) (by decide) dX10_init_135
set_option maxHeartbeats 4000000 in
theorem n_X11_init_1 (l : Launch) (D : va_G) (t : ClassId × ClassId × ClassId × ClassId) (a0 a1 a2 a3 a4 a5 a6 a7 a8 a9 a10 a11 a12 a13 a14 a15 a16 a17 a18 a19 a20 a21 a22 a23 a24 a25 a26 a27 a28 a29 a30 a31 a32 a33 a34 a35 a36 a37 a38 a39 a40 a41 a42 a43 : Nat) : NC l D t [a0, a1, a2, a3, a4, a5, a6, a7, a8, a9, a10, a11, a12, a13, a14, a15, a16, a17, a18, a19, a20, a21, a22, a23, a24, a25, a26, a27, a28, a29, a30, a31, a32, a33, a34, a35, a36, a37, a38, a39, a40, a41, a42, a43] nl95 nl127 nm11 nm12 (fun _ => True) yX11_init cX11_init 2 1 16 132630 [Value.ref a43] := by
  refine nc_intro RX11 rfl (by decide +kernel) [some (Value.ref a43), none] rfl (cat_R cat_nil) (Nat.le_of_ble_eq_true rfl) (fun X hX C hN hc hs hB => ?_)
  have hN := hN rfl
  refine pv_aload C (i := 0) (b := a43) rfl dX11_init_0 ?_
  refine pw_obj C ml_X11_7 dX11_init_1 (Nat.le_of_ble_eq_true rfl) (by decide) ?_
  refine pv_aload C (i := 0) (b := a43) rfl dX11_init_4 ?_
  refine pw_iconst C dX11_init_5 ?_
  refine pw_put0 C (k := 43) (show nl95[43]? = some (0, 11, [0, 0, 1, 0, 0, 0, 0, 0, 1, 1, 0, 1, 1, 0, 0, 0, 1, 0, 1, 0, 1, 1, 1, 1, 1, 0, 1, 1, 1, 0, 0, 1, 0, 0]) from rfl) kc_11 gT_wsX110 tyX11 tyX11_ok nmX11 1 (by decide) rfl rfl rfl rfl fl_X11_13 dX11_init_6 ?_
  refine pv_aload C (i := 0) (b := a43) rfl dX11_init_9 ?_
  refine pw_bipush C dX11_init_10 (by decide) ?_
  refine pw_newi C (n := 16) rfl rfl (up2_z (a := 44) (k := 43) (by decide) (nmz_11 44 (by decide))) (by decide) ac__int ⟨by rw [hc]; decide, by rw [hs]; decide⟩ dX11_init_12 (fun a44 C => ?_)
  have C : CXok X (KL D t [a0, a1, a2, a3, a4, a5, a6, a7, a8, a9, a10, a11, a12, a13, a14, a15, a16, a17, a18, a19, a20, a21, a22, a23, a24, a25, a26, a27, a28, a29, a30, a31, a32, a33, a34, a35, a36, a37, a38, a39, a40, a41, a42, a43, a44]) nl96 _ _ _ _ _ := C
  change PW X (KL D t [a0, a1, a2, a3, a4, a5, a6, a7, a8, a9, a10, a11, a12, a13, a14, a15, a16, a17, a18, a19, a20, a21, a22, a23, a24, a25, a26, a27, a28, a29, a30, a31, a32, a33, a34, a35, a36, a37, a38, a39, a40, a41, a42, a43, a44]) nl96 _ (1, 16) _ _ [some (Value.ref a43), none] [Value.ref a44, Value.ref a43] _
  refine pw_putR C (k := 43) (show nl96[43]? = some (0, 11, [0, 0, 1, 0, 0, 0, 0, 0, 1, 1, 0, 1, 1, 0, 0, 0, 1, 0, 1, 0, 1, 1, 1, 1, 1, 0, 1, 1, 1, 0, 0, 1, 0, 0]) from rfl) kc_11 gT_wsX110 tyX11 tyX11_ok nmX11 2 (by decide) 44 rfl hN rfl rfl rfl (by decide) fl_X11_16 dX11_init_14 (fun C => ?_)
  have C : CXok X (KL D t [a0, a1, a2, a3, a4, a5, a6, a7, a8, a9, a10, a11, a12, a13, a14, a15, a16, a17, a18, a19, a20, a21, a22, a23, a24, a25, a26, a27, a28, a29, a30, a31, a32, a33, a34, a35, a36, a37, a38, a39, a40, a41, a42, a43, a44]) nl97 _ _ _ _ _ := C
  change PW X (KL D t [a0, a1, a2, a3, a4, a5, a6, a7, a8, a9, a10, a11, a12, a13, a14, a15, a16, a17, a18, a19, a20, a21, a22, a23, a24, a25, a26, a27, a28, a29, a30, a31, a32, a33, a34, a35, a36, a37, a38, a39, a40, a41, a42, a43, a44]) nl97 _ (1, 16) _ _ [some (Value.ref a43), none] [] _
  refine pv_aload C (i := 0) (b := a43) rfl dX11_init_17 ?_
  refine pw_iconst C dX11_init_18 ?_
  refine pw_put0 C (k := 43) (show nl97[43]? = some (0, 11, [0, 0, 46, 0, 0, 0, 0, 0, 1, 1, 0, 1, 1, 0, 0, 0, 1, 0, 1, 0, 1, 1, 1, 1, 1, 0, 1, 1, 1, 0, 0, 1, 0, 0]) from rfl) kc_11 gT_wsX110 tyX11 tyX11_ok nmX11 4 (by decide) rfl rfl rfl rfl fl_X11_20 dX11_init_19 ?_
  refine pv_aload C (i := 0) (b := a43) rfl dX11_init_22 ?_
  refine pw_bipush C dX11_init_23 (by decide) ?_
  refine pw_newb C (n := 56) rfl rfl (up2_z (a := 45) (k := 43) (by decide) (up2_z (a := 45) (k := 43) (by decide) (nmz_11 45 (by decide)))) (by decide) ac__byte ⟨by rw [hc]; decide, by rw [hs]; decide⟩ dX11_init_25 (fun a45 C => ?_)
  have C : CXok X (KL D t [a0, a1, a2, a3, a4, a5, a6, a7, a8, a9, a10, a11, a12, a13, a14, a15, a16, a17, a18, a19, a20, a21, a22, a23, a24, a25, a26, a27, a28, a29, a30, a31, a32, a33, a34, a35, a36, a37, a38, a39, a40, a41, a42, a43, a44, a45]) nl98 _ _ _ _ _ := C
  change PW X (KL D t [a0, a1, a2, a3, a4, a5, a6, a7, a8, a9, a10, a11, a12, a13, a14, a15, a16, a17, a18, a19, a20, a21, a22, a23, a24, a25, a26, a27, a28, a29, a30, a31, a32, a33, a34, a35, a36, a37, a38, a39, a40, a41, a42, a43, a44, a45]) nl98 _ (2, 72) _ _ [some (Value.ref a43), none] [Value.ref a45, Value.ref a43] _
  refine pw_putR C (k := 43) (show nl98[43]? = some (0, 11, [0, 0, 46, 0, 0, 0, 0, 0, 1, 1, 0, 1, 1, 0, 0, 0, 1, 0, 1, 0, 1, 1, 1, 1, 1, 0, 1, 1, 1, 0, 0, 1, 0, 0]) from rfl) kc_11 gT_wsX110 tyX11 tyX11_ok nmX11 8 (by decide) 45 rfl hN rfl rfl rfl (by decide) fl_X11_23 dX11_init_27 (fun C => ?_)
  have C : CXok X (KL D t [a0, a1, a2, a3, a4, a5, a6, a7, a8, a9, a10, a11, a12, a13, a14, a15, a16, a17, a18, a19, a20, a21, a22, a23, a24, a25, a26, a27, a28, a29, a30, a31, a32, a33, a34, a35, a36, a37, a38, a39, a40, a41, a42, a43, a44, a45]) nl99 _ _ _ _ _ := C
  change PW X (KL D t [a0, a1, a2, a3, a4, a5, a6, a7, a8, a9, a10, a11, a12, a13, a14, a15, a16, a17, a18, a19, a20, a21, a22, a23, a24, a25, a26, a27, a28, a29, a30, a31, a32, a33, a34, a35, a36, a37, a38, a39, a40, a41, a42, a43, a44, a45]) nl99 _ (2, 72) _ _ [some (Value.ref a43), none] [] _
  refine pv_aload C (i := 0) (b := a43) rfl dX11_init_30 ?_
  refine pw_bipush C dX11_init_31 (by decide) ?_
  refine pw_newi C (n := 8) rfl rfl (up2_z (a := 46) (k := 43) (by decide) (up2_z (a := 46) (k := 43) (by decide) (nmz_11 46 (by decide)))) (by decide) ac__int ⟨by rw [hc]; decide, by rw [hs]; decide⟩ dX11_init_33 (fun a46 C => ?_)
  have C : CXok X (KL D t [a0, a1, a2, a3, a4, a5, a6, a7, a8, a9, a10, a11, a12, a13, a14, a15, a16, a17, a18, a19, a20, a21, a22, a23, a24, a25, a26, a27, a28, a29, a30, a31, a32, a33, a34, a35, a36, a37, a38, a39, a40, a41, a42, a43, a44, a45, a46]) nl100 _ _ _ _ _ := C
  change PW X (KL D t [a0, a1, a2, a3, a4, a5, a6, a7, a8, a9, a10, a11, a12, a13, a14, a15, a16, a17, a18, a19, a20, a21, a22, a23, a24, a25, a26, a27, a28, a29, a30, a31, a32, a33, a34, a35, a36, a37, a38, a39, a40, a41, a42, a43, a44, a45, a46]) nl100 _ (3, 80) _ _ [some (Value.ref a43), none] [Value.ref a46, Value.ref a43] _
  refine pw_putR C (k := 43) (show nl100[43]? = some (0, 11, [0, 0, 46, 0, 0, 0, 0, 0, 47, 1, 0, 1, 1, 0, 0, 0, 1, 0, 1, 0, 1, 1, 1, 1, 1, 0, 1, 1, 1, 0, 0, 1, 0, 0]) from rfl) kc_11 gT_wsX110 tyX11 tyX11_ok nmX11 9 (by decide) 46 rfl hN rfl rfl rfl (by decide) fl_X11_27 dX11_init_35 (fun C => ?_)
  have C : CXok X (KL D t [a0, a1, a2, a3, a4, a5, a6, a7, a8, a9, a10, a11, a12, a13, a14, a15, a16, a17, a18, a19, a20, a21, a22, a23, a24, a25, a26, a27, a28, a29, a30, a31, a32, a33, a34, a35, a36, a37, a38, a39, a40, a41, a42, a43, a44, a45, a46]) nl101 _ _ _ _ _ := C
  change PW X (KL D t [a0, a1, a2, a3, a4, a5, a6, a7, a8, a9, a10, a11, a12, a13, a14, a15, a16, a17, a18, a19, a20, a21, a22, a23, a24, a25, a26, a27, a28, a29, a30, a31, a32, a33, a34, a35, a36, a37, a38, a39, a40, a41, a42, a43, a44, a45, a46]) nl101 _ (3, 80) _ _ [some (Value.ref a43), none] [] _
  refine pv_aload C (i := 0) (b := a43) rfl dX11_init_38 ?_
  refine pw_bipush C dX11_init_39 (by decide) ?_
  refine pw_newb C (n := 120) rfl rfl (up2_z (a := 47) (k := 43) (by decide) (up2_z (a := 47) (k := 43) (by decide) (nmz_11 47 (by decide)))) (by decide) ac__byte ⟨by rw [hc]; decide, by rw [hs]; decide⟩ dX11_init_41 (fun a47 C => ?_)
  have C : CXok X (KL D t [a0, a1, a2, a3, a4, a5, a6, a7, a8, a9, a10, a11, a12, a13, a14, a15, a16, a17, a18, a19, a20, a21, a22, a23, a24, a25, a26, a27, a28, a29, a30, a31, a32, a33, a34, a35, a36, a37, a38, a39, a40, a41, a42, a43, a44, a45, a46, a47]) nl102 _ _ _ _ _ := C
  change PW X (KL D t [a0, a1, a2, a3, a4, a5, a6, a7, a8, a9, a10, a11, a12, a13, a14, a15, a16, a17, a18, a19, a20, a21, a22, a23, a24, a25, a26, a27, a28, a29, a30, a31, a32, a33, a34, a35, a36, a37, a38, a39, a40, a41, a42, a43, a44, a45, a46, a47]) nl102 _ (4, 200) _ _ [some (Value.ref a43), none] [Value.ref a47, Value.ref a43] _
  refine pw_putR C (k := 43) (show nl102[43]? = some (0, 11, [0, 0, 46, 0, 0, 0, 0, 0, 47, 48, 0, 1, 1, 0, 0, 0, 1, 0, 1, 0, 1, 1, 1, 1, 1, 0, 1, 1, 1, 0, 0, 1, 0, 0]) from rfl) kc_11 gT_wsX110 tyX11 tyX11_ok nmX11 11 (by decide) 47 rfl hN rfl rfl rfl (by decide) fl_X11_30 dX11_init_43 (fun C => ?_)
  have C : CXok X (KL D t [a0, a1, a2, a3, a4, a5, a6, a7, a8, a9, a10, a11, a12, a13, a14, a15, a16, a17, a18, a19, a20, a21, a22, a23, a24, a25, a26, a27, a28, a29, a30, a31, a32, a33, a34, a35, a36, a37, a38, a39, a40, a41, a42, a43, a44, a45, a46, a47]) nl103 _ _ _ _ _ := C
  change PW X (KL D t [a0, a1, a2, a3, a4, a5, a6, a7, a8, a9, a10, a11, a12, a13, a14, a15, a16, a17, a18, a19, a20, a21, a22, a23, a24, a25, a26, a27, a28, a29, a30, a31, a32, a33, a34, a35, a36, a37, a38, a39, a40, a41, a42, a43, a44, a45, a46, a47]) nl103 _ (4, 200) _ _ [some (Value.ref a43), none] [] _
  refine pv_aload C (i := 0) (b := a43) rfl dX11_init_46 ?_
  refine pw_iconst C dX11_init_47 ?_
  refine pw_newi C (n := 5) rfl rfl (up2_z (a := 48) (k := 43) (by decide) (up2_z (a := 48) (k := 43) (by decide) (nmz_11 48 (by decide)))) (by decide) ac__int ⟨by rw [hc]; decide, by rw [hs]; decide⟩ dX11_init_48 (fun a48 C => ?_)
  have C : CXok X (KL D t [a0, a1, a2, a3, a4, a5, a6, a7, a8, a9, a10, a11, a12, a13, a14, a15, a16, a17, a18, a19, a20, a21, a22, a23, a24, a25, a26, a27, a28, a29, a30, a31, a32, a33, a34, a35, a36, a37, a38, a39, a40, a41, a42, a43, a44, a45, a46, a47, a48]) nl104 _ _ _ _ _ := C
  change PW X (KL D t [a0, a1, a2, a3, a4, a5, a6, a7, a8, a9, a10, a11, a12, a13, a14, a15, a16, a17, a18, a19, a20, a21, a22, a23, a24, a25, a26, a27, a28, a29, a30, a31, a32, a33, a34, a35, a36, a37, a38, a39, a40, a41, a42, a43, a44, a45, a46, a47, a48]) nl104 _ (5, 205) _ _ [some (Value.ref a43), none] [Value.ref a48, Value.ref a43] _
  refine pw_putR C (k := 43) (show nl104[43]? = some (0, 11, [0, 0, 46, 0, 0, 0, 0, 0, 47, 48, 0, 49, 1, 0, 0, 0, 1, 0, 1, 0, 1, 1, 1, 1, 1, 0, 1, 1, 1, 0, 0, 1, 0, 0]) from rfl) kc_11 gT_wsX110 tyX11 tyX11_ok nmX11 12 (by decide) 48 rfl hN rfl rfl rfl (by decide) fl_X11_33 dX11_init_50 (fun C => ?_)
  have C : CXok X (KL D t [a0, a1, a2, a3, a4, a5, a6, a7, a8, a9, a10, a11, a12, a13, a14, a15, a16, a17, a18, a19, a20, a21, a22, a23, a24, a25, a26, a27, a28, a29, a30, a31, a32, a33, a34, a35, a36, a37, a38, a39, a40, a41, a42, a43, a44, a45, a46, a47, a48]) nl105 _ _ _ _ _ := C
  change PW X (KL D t [a0, a1, a2, a3, a4, a5, a6, a7, a8, a9, a10, a11, a12, a13, a14, a15, a16, a17, a18, a19, a20, a21, a22, a23, a24, a25, a26, a27, a28, a29, a30, a31, a32, a33, a34, a35, a36, a37, a38, a39, a40, a41, a42, a43, a44, a45, a46, a47, a48]) nl105 _ (5, 205) _ _ [some (Value.ref a43), none] [] _
  refine pv_aload C (i := 0) (b := a43) rfl dX11_init_53 ?_
  refine pw_bipush C dX11_init_54 (by decide) ?_
  refine pw_newb C (n := 40) rfl rfl (up2_z (a := 49) (k := 43) (by decide) (up2_z (a := 49) (k := 43) (by decide) (nmz_11 49 (by decide)))) (by decide) ac__byte ⟨by rw [hc]; decide, by rw [hs]; decide⟩ dX11_init_56 (fun a49 C => ?_)
  have C : CXok X (KL D t [a0, a1, a2, a3, a4, a5, a6, a7, a8, a9, a10, a11, a12, a13, a14, a15, a16, a17, a18, a19, a20, a21, a22, a23, a24, a25, a26, a27, a28, a29, a30, a31, a32, a33, a34, a35, a36, a37, a38, a39, a40, a41, a42, a43, a44, a45, a46, a47, a48, a49]) nl106 _ _ _ _ _ := C
  change PW X (KL D t [a0, a1, a2, a3, a4, a5, a6, a7, a8, a9, a10, a11, a12, a13, a14, a15, a16, a17, a18, a19, a20, a21, a22, a23, a24, a25, a26, a27, a28, a29, a30, a31, a32, a33, a34, a35, a36, a37, a38, a39, a40, a41, a42, a43, a44, a45, a46, a47, a48, a49]) nl106 _ (6, 245) _ _ [some (Value.ref a43), none] [Value.ref a49, Value.ref a43] _
  refine pw_putR C (k := 43) (show nl106[43]? = some (0, 11, [0, 0, 46, 0, 0, 0, 0, 0, 47, 48, 0, 49, 50, 0, 0, 0, 1, 0, 1, 0, 1, 1, 1, 1, 1, 0, 1, 1, 1, 0, 0, 1, 0, 0]) from rfl) kc_11 gT_wsX110 tyX11 tyX11_ok nmX11 16 (by decide) 49 rfl hN rfl rfl rfl (by decide) fl_X11_36 dX11_init_58 (fun C => ?_)
  have C : CXok X (KL D t [a0, a1, a2, a3, a4, a5, a6, a7, a8, a9, a10, a11, a12, a13, a14, a15, a16, a17, a18, a19, a20, a21, a22, a23, a24, a25, a26, a27, a28, a29, a30, a31, a32, a33, a34, a35, a36, a37, a38, a39, a40, a41, a42, a43, a44, a45, a46, a47, a48, a49]) nl107 _ _ _ _ _ := C
  change PW X (KL D t [a0, a1, a2, a3, a4, a5, a6, a7, a8, a9, a10, a11, a12, a13, a14, a15, a16, a17, a18, a19, a20, a21, a22, a23, a24, a25, a26, a27, a28, a29, a30, a31, a32, a33, a34, a35, a36, a37, a38, a39, a40, a41, a42, a43, a44, a45, a46, a47, a48, a49]) nl107 _ (6, 245) _ _ [some (Value.ref a43), none] [] _
  refine pv_aload C (i := 0) (b := a43) rfl dX11_init_61 ?_
  refine pw_bipush C dX11_init_62 (by decide) ?_
  refine pw_newb C (n := 40) rfl rfl (up2_z (a := 50) (k := 43) (by decide) (up2_z (a := 50) (k := 43) (by decide) (nmz_11 50 (by decide)))) (by decide) ac__byte ⟨by rw [hc]; decide, by rw [hs]; decide⟩ dX11_init_64 (fun a50 C => ?_)
  have C : CXok X (KL D t [a0, a1, a2, a3, a4, a5, a6, a7, a8, a9, a10, a11, a12, a13, a14, a15, a16, a17, a18, a19, a20, a21, a22, a23, a24, a25, a26, a27, a28, a29, a30, a31, a32, a33, a34, a35, a36, a37, a38, a39, a40, a41, a42, a43, a44, a45, a46, a47, a48, a49, a50]) nl108 _ _ _ _ _ := C
  change PW X (KL D t [a0, a1, a2, a3, a4, a5, a6, a7, a8, a9, a10, a11, a12, a13, a14, a15, a16, a17, a18, a19, a20, a21, a22, a23, a24, a25, a26, a27, a28, a29, a30, a31, a32, a33, a34, a35, a36, a37, a38, a39, a40, a41, a42, a43, a44, a45, a46, a47, a48, a49, a50]) nl108 _ (7, 285) _ _ [some (Value.ref a43), none] [Value.ref a50, Value.ref a43] _
  refine pw_putR C (k := 43) (show nl108[43]? = some (0, 11, [0, 0, 46, 0, 0, 0, 0, 0, 47, 48, 0, 49, 50, 0, 0, 0, 51, 0, 1, 0, 1, 1, 1, 1, 1, 0, 1, 1, 1, 0, 0, 1, 0, 0]) from rfl) kc_11 gT_wsX110 tyX11 tyX11_ok nmX11 18 (by decide) 50 rfl hN rfl rfl rfl (by decide) fl_X11_39 dX11_init_66 (fun C => ?_)
  have C : CXok X (KL D t [a0, a1, a2, a3, a4, a5, a6, a7, a8, a9, a10, a11, a12, a13, a14, a15, a16, a17, a18, a19, a20, a21, a22, a23, a24, a25, a26, a27, a28, a29, a30, a31, a32, a33, a34, a35, a36, a37, a38, a39, a40, a41, a42, a43, a44, a45, a46, a47, a48, a49, a50]) nl109 _ _ _ _ _ := C
  change PW X (KL D t [a0, a1, a2, a3, a4, a5, a6, a7, a8, a9, a10, a11, a12, a13, a14, a15, a16, a17, a18, a19, a20, a21, a22, a23, a24, a25, a26, a27, a28, a29, a30, a31, a32, a33, a34, a35, a36, a37, a38, a39, a40, a41, a42, a43, a44, a45, a46, a47, a48, a49, a50]) nl109 _ (7, 285) _ _ [some (Value.ref a43), none] [] _
  refine pv_aload C (i := 0) (b := a43) rfl dX11_init_69 ?_
  refine pw_bipush C dX11_init_70 (by decide) ?_
  refine pw_newi C (n := 8) rfl rfl (up2_z (a := 51) (k := 43) (by decide) (up2_z (a := 51) (k := 43) (by decide) (nmz_11 51 (by decide)))) (by decide) ac__int ⟨by rw [hc]; decide, by rw [hs]; decide⟩ dX11_init_72 (fun a51 C => ?_)
  have C : CXok X (KL D t [a0, a1, a2, a3, a4, a5, a6, a7, a8, a9, a10, a11, a12, a13, a14, a15, a16, a17, a18, a19, a20, a21, a22, a23, a24, a25, a26, a27, a28, a29, a30, a31, a32, a33, a34, a35, a36, a37, a38, a39, a40, a41, a42, a43, a44, a45, a46, a47, a48, a49, a50, a51]) nl110 _ _ _ _ _ := C
  change PW X (KL D t [a0, a1, a2, a3, a4, a5, a6, a7, a8, a9, a10, a11, a12, a13, a14, a15, a16, a17, a18, a19, a20, a21, a22, a23, a24, a25, a26, a27, a28, a29, a30, a31, a32, a33, a34, a35, a36, a37, a38, a39, a40, a41, a42, a43, a44, a45, a46, a47, a48, a49, a50, a51]) nl110 _ (8, 293) _ _ [some (Value.ref a43), none] [Value.ref a51, Value.ref a43] _
  refine pw_putR C (k := 43) (show nl110[43]? = some (0, 11, [0, 0, 46, 0, 0, 0, 0, 0, 47, 48, 0, 49, 50, 0, 0, 0, 51, 0, 52, 0, 1, 1, 1, 1, 1, 0, 1, 1, 1, 0, 0, 1, 0, 0]) from rfl) kc_11 gT_wsX110 tyX11 tyX11_ok nmX11 20 (by decide) 51 rfl hN rfl rfl rfl (by decide) fl_X11_42 dX11_init_74 (fun C => ?_)
  have C : CXok X (KL D t [a0, a1, a2, a3, a4, a5, a6, a7, a8, a9, a10, a11, a12, a13, a14, a15, a16, a17, a18, a19, a20, a21, a22, a23, a24, a25, a26, a27, a28, a29, a30, a31, a32, a33, a34, a35, a36, a37, a38, a39, a40, a41, a42, a43, a44, a45, a46, a47, a48, a49, a50, a51]) nl111 _ _ _ _ _ := C
  change PW X (KL D t [a0, a1, a2, a3, a4, a5, a6, a7, a8, a9, a10, a11, a12, a13, a14, a15, a16, a17, a18, a19, a20, a21, a22, a23, a24, a25, a26, a27, a28, a29, a30, a31, a32, a33, a34, a35, a36, a37, a38, a39, a40, a41, a42, a43, a44, a45, a46, a47, a48, a49, a50, a51]) nl111 _ (8, 293) _ _ [some (Value.ref a43), none] [] _
  refine pv_aload C (i := 0) (b := a43) rfl dX11_init_77 ?_
  refine pw_ldc C (z := 131072) (by decide) ct_X11_45 dX11_init_78 ?_
  refine pw_newb C (n := 131072) rfl rfl (up2_z (a := 52) (k := 43) (by decide) (up2_z (a := 52) (k := 43) (by decide) (nmz_11 52 (by decide)))) (by decide) ac__byte ⟨by rw [hc]; decide, by rw [hs]; decide⟩ dX11_init_80 (fun a52 C => ?_)
  have C : CXok X (KL D t [a0, a1, a2, a3, a4, a5, a6, a7, a8, a9, a10, a11, a12, a13, a14, a15, a16, a17, a18, a19, a20, a21, a22, a23, a24, a25, a26, a27, a28, a29, a30, a31, a32, a33, a34, a35, a36, a37, a38, a39, a40, a41, a42, a43, a44, a45, a46, a47, a48, a49, a50, a51, a52]) nl112 _ _ _ _ _ := C
  change PW X (KL D t [a0, a1, a2, a3, a4, a5, a6, a7, a8, a9, a10, a11, a12, a13, a14, a15, a16, a17, a18, a19, a20, a21, a22, a23, a24, a25, a26, a27, a28, a29, a30, a31, a32, a33, a34, a35, a36, a37, a38, a39, a40, a41, a42, a43, a44, a45, a46, a47, a48, a49, a50, a51, a52]) nl112 _ (9, 131365) _ _ [some (Value.ref a43), none] [Value.ref a52, Value.ref a43] _
  refine pw_putR C (k := 43) (show nl112[43]? = some (0, 11, [0, 0, 46, 0, 0, 0, 0, 0, 47, 48, 0, 49, 50, 0, 0, 0, 51, 0, 52, 0, 53, 1, 1, 1, 1, 0, 1, 1, 1, 0, 0, 1, 0, 0]) from rfl) kc_11 gT_wsX110 tyX11 tyX11_ok nmX11 21 (by decide) 52 rfl hN rfl rfl rfl (by decide) fl_X11_46 dX11_init_82 (fun C => ?_)
  have C : CXok X (KL D t [a0, a1, a2, a3, a4, a5, a6, a7, a8, a9, a10, a11, a12, a13, a14, a15, a16, a17, a18, a19, a20, a21, a22, a23, a24, a25, a26, a27, a28, a29, a30, a31, a32, a33, a34, a35, a36, a37, a38, a39, a40, a41, a42, a43, a44, a45, a46, a47, a48, a49, a50, a51, a52]) nl113 _ _ _ _ _ := C
  change PW X (KL D t [a0, a1, a2, a3, a4, a5, a6, a7, a8, a9, a10, a11, a12, a13, a14, a15, a16, a17, a18, a19, a20, a21, a22, a23, a24, a25, a26, a27, a28, a29, a30, a31, a32, a33, a34, a35, a36, a37, a38, a39, a40, a41, a42, a43, a44, a45, a46, a47, a48, a49, a50, a51, a52]) nl113 _ (9, 131365) _ _ [some (Value.ref a43), none] [] _
  refine pv_aload C (i := 0) (b := a43) rfl dX11_init_85 ?_
  refine pw_bipush C dX11_init_86 (by decide) ?_
  refine pw_newb C (n := 8) rfl rfl (up2_z (a := 53) (k := 43) (by decide) (up2_z (a := 53) (k := 43) (by decide) (nmz_11 53 (by decide)))) (by decide) ac__byte ⟨by rw [hc]; decide, by rw [hs]; decide⟩ dX11_init_88 (fun a53 C => ?_)
  have C : CXok X (KL D t [a0, a1, a2, a3, a4, a5, a6, a7, a8, a9, a10, a11, a12, a13, a14, a15, a16, a17, a18, a19, a20, a21, a22, a23, a24, a25, a26, a27, a28, a29, a30, a31, a32, a33, a34, a35, a36, a37, a38, a39, a40, a41, a42, a43, a44, a45, a46, a47, a48, a49, a50, a51, a52, a53]) nl114 _ _ _ _ _ := C
  change PW X (KL D t [a0, a1, a2, a3, a4, a5, a6, a7, a8, a9, a10, a11, a12, a13, a14, a15, a16, a17, a18, a19, a20, a21, a22, a23, a24, a25, a26, a27, a28, a29, a30, a31, a32, a33, a34, a35, a36, a37, a38, a39, a40, a41, a42, a43, a44, a45, a46, a47, a48, a49, a50, a51, a52, a53]) nl114 _ (10, 131373) _ _ [some (Value.ref a43), none] [Value.ref a53, Value.ref a43] _
  refine pw_putR C (k := 43) (show nl114[43]? = some (0, 11, [0, 0, 46, 0, 0, 0, 0, 0, 47, 48, 0, 49, 50, 0, 0, 0, 51, 0, 52, 0, 53, 54, 1, 1, 1, 0, 1, 1, 1, 0, 0, 1, 0, 0]) from rfl) kc_11 gT_wsX110 tyX11 tyX11_ok nmX11 22 (by decide) 53 rfl hN rfl rfl rfl (by decide) fl_X11_49 dX11_init_90 (fun C => ?_)
  have C : CXok X (KL D t [a0, a1, a2, a3, a4, a5, a6, a7, a8, a9, a10, a11, a12, a13, a14, a15, a16, a17, a18, a19, a20, a21, a22, a23, a24, a25, a26, a27, a28, a29, a30, a31, a32, a33, a34, a35, a36, a37, a38, a39, a40, a41, a42, a43, a44, a45, a46, a47, a48, a49, a50, a51, a52, a53]) nl115 _ _ _ _ _ := C
  change PW X (KL D t [a0, a1, a2, a3, a4, a5, a6, a7, a8, a9, a10, a11, a12, a13, a14, a15, a16, a17, a18, a19, a20, a21, a22, a23, a24, a25, a26, a27, a28, a29, a30, a31, a32, a33, a34, a35, a36, a37, a38, a39, a40, a41, a42, a43, a44, a45, a46, a47, a48, a49, a50, a51, a52, a53]) nl115 _ (10, 131373) _ _ [some (Value.ref a43), none] [] _
  refine pv_aload C (i := 0) (b := a43) rfl dX11_init_93 ?_
  refine pw_sipush C dX11_init_94 (by decide) ?_
  refine pw_newz C (n := 256) rfl rfl (up2_z (a := 54) (k := 43) (by decide) (up2_z (a := 54) (k := 43) (by decide) (nmz_11 54 (by decide)))) (by decide) ac__boolean ⟨by rw [hc]; decide, by rw [hs]; decide⟩ dX11_init_97 (fun a54 C => ?_)
  have C : CXok X (KL D t [a0, a1, a2, a3, a4, a5, a6, a7, a8, a9, a10, a11, a12, a13, a14, a15, a16, a17, a18, a19, a20, a21, a22, a23, a24, a25, a26, a27, a28, a29, a30, a31, a32, a33, a34, a35, a36, a37, a38, a39, a40, a41, a42, a43, a44, a45, a46, a47, a48, a49, a50, a51, a52, a53, a54]) nl116 _ _ _ _ _ := C
  change PW X (KL D t [a0, a1, a2, a3, a4, a5, a6, a7, a8, a9, a10, a11, a12, a13, a14, a15, a16, a17, a18, a19, a20, a21, a22, a23, a24, a25, a26, a27, a28, a29, a30, a31, a32, a33, a34, a35, a36, a37, a38, a39, a40, a41, a42, a43, a44, a45, a46, a47, a48, a49, a50, a51, a52, a53, a54]) nl116 _ (11, 131629) _ _ [some (Value.ref a43), none] [Value.ref a54, Value.ref a43] _
  refine pw_putR C (k := 43) (show nl116[43]? = some (0, 11, [0, 0, 46, 0, 0, 0, 0, 0, 47, 48, 0, 49, 50, 0, 0, 0, 51, 0, 52, 0, 53, 54, 55, 1, 1, 0, 1, 1, 1, 0, 0, 1, 0, 0]) from rfl) kc_11 gT_wsX110 tyX11 tyX11_ok nmX11 23 (by decide) 54 rfl hN rfl rfl rfl (by decide) fl_X11_52 dX11_init_99 (fun C => ?_)
  have C : CXok X (KL D t [a0, a1, a2, a3, a4, a5, a6, a7, a8, a9, a10, a11, a12, a13, a14, a15, a16, a17, a18, a19, a20, a21, a22, a23, a24, a25, a26, a27, a28, a29, a30, a31, a32, a33, a34, a35, a36, a37, a38, a39, a40, a41, a42, a43, a44, a45, a46, a47, a48, a49, a50, a51, a52, a53, a54]) nl117 _ _ _ _ _ := C
  change PW X (KL D t [a0, a1, a2, a3, a4, a5, a6, a7, a8, a9, a10, a11, a12, a13, a14, a15, a16, a17, a18, a19, a20, a21, a22, a23, a24, a25, a26, a27, a28, a29, a30, a31, a32, a33, a34, a35, a36, a37, a38, a39, a40, a41, a42, a43, a44, a45, a46, a47, a48, a49, a50, a51, a52, a53, a54]) nl117 _ (11, 131629) _ _ [some (Value.ref a43), none] [] _
  refine pv_aload C (i := 0) (b := a43) rfl dX11_init_102 ?_
  refine pw_sipush C dX11_init_103 (by decide) ?_
  refine pw_newi C (n := 256) rfl rfl (up2_z (a := 55) (k := 43) (by decide) (up2_z (a := 55) (k := 43) (by decide) (nmz_11 55 (by decide)))) (by decide) ac__int ⟨by rw [hc]; decide, by rw [hs]; decide⟩ dX11_init_106 (fun a55 C => ?_)
  have C : CXok X (KL D t [a0, a1, a2, a3, a4, a5, a6, a7, a8, a9, a10, a11, a12, a13, a14, a15, a16, a17, a18, a19, a20, a21, a22, a23, a24, a25, a26, a27, a28, a29, a30, a31, a32, a33, a34, a35, a36, a37, a38, a39, a40, a41, a42, a43, a44, a45, a46, a47, a48, a49, a50, a51, a52, a53, a54, a55]) nl118 _ _ _ _ _ := C
  change PW X (KL D t [a0, a1, a2, a3, a4, a5, a6, a7, a8, a9, a10, a11, a12, a13, a14, a15, a16, a17, a18, a19, a20, a21, a22, a23, a24, a25, a26, a27, a28, a29, a30, a31, a32, a33, a34, a35, a36, a37, a38, a39, a40, a41, a42, a43, a44, a45, a46, a47, a48, a49, a50, a51, a52, a53, a54, a55]) nl118 _ (12, 131885) _ _ [some (Value.ref a43), none] [Value.ref a55, Value.ref a43] _
  refine pw_putR C (k := 43) (show nl118[43]? = some (0, 11, [0, 0, 46, 0, 0, 0, 0, 0, 47, 48, 0, 49, 50, 0, 0, 0, 51, 0, 52, 0, 53, 54, 55, 56, 1, 0, 1, 1, 1, 0, 0, 1, 0, 0]) from rfl) kc_11 gT_wsX110 tyX11 tyX11_ok nmX11 24 (by decide) 55 rfl hN rfl rfl rfl (by decide) fl_X11_56 dX11_init_108 (fun C => ?_)
  have C : CXok X (KL D t [a0, a1, a2, a3, a4, a5, a6, a7, a8, a9, a10, a11, a12, a13, a14, a15, a16, a17, a18, a19, a20, a21, a22, a23, a24, a25, a26, a27, a28, a29, a30, a31, a32, a33, a34, a35, a36, a37, a38, a39, a40, a41, a42, a43, a44, a45, a46, a47, a48, a49, a50, a51, a52, a53, a54, a55]) nl119 _ _ _ _ _ := C
  change PW X (KL D t [a0, a1, a2, a3, a4, a5, a6, a7, a8, a9, a10, a11, a12, a13, a14, a15, a16, a17, a18, a19, a20, a21, a22, a23, a24, a25, a26, a27, a28, a29, a30, a31, a32, a33, a34, a35, a36, a37, a38, a39, a40, a41, a42, a43, a44, a45, a46, a47, a48, a49, a50, a51, a52, a53, a54, a55]) nl119 _ (12, 131885) _ _ [some (Value.ref a43), none] [] _
  refine pv_aload C (i := 0) (b := a43) rfl dX11_init_111 ?_
  refine pw_bipush C dX11_init_112 (by decide) ?_
  refine pw_newi C (n := 81) rfl rfl (up2_z (a := 56) (k := 43) (by decide) (up2_z (a := 56) (k := 43) (by decide) (nmz_11 56 (by decide)))) (by decide) ac__int ⟨by rw [hc]; decide, by rw [hs]; decide⟩ dX11_init_114 (fun a56 C => ?_)
  have C : CXok X (KL D t [a0, a1, a2, a3, a4, a5, a6, a7, a8, a9, a10, a11, a12, a13, a14, a15, a16, a17, a18, a19, a20, a21, a22, a23, a24, a25, a26, a27, a28, a29, a30, a31, a32, a33, a34, a35, a36, a37, a38, a39, a40, a41, a42, a43, a44, a45, a46, a47, a48, a49, a50, a51, a52, a53, a54, a55, a56]) nl120 _ _ _ _ _ := C
  change PW X (KL D t [a0, a1, a2, a3, a4, a5, a6, a7, a8, a9, a10, a11, a12, a13, a14, a15, a16, a17, a18, a19, a20, a21, a22, a23, a24, a25, a26, a27, a28, a29, a30, a31, a32, a33, a34, a35, a36, a37, a38, a39, a40, a41, a42, a43, a44, a45, a46, a47, a48, a49, a50, a51, a52, a53, a54, a55, a56]) nl120 _ (13, 131966) _ _ [some (Value.ref a43), none] [Value.ref a56, Value.ref a43] _
  refine pw_putR C (k := 43) (show nl120[43]? = some (0, 11, [0, 0, 46, 0, 0, 0, 0, 0, 47, 48, 0, 49, 50, 0, 0, 0, 51, 0, 52, 0, 53, 54, 55, 56, 57, 0, 1, 1, 1, 0, 0, 1, 0, 0]) from rfl) kc_11 gT_wsX110 tyX11 tyX11_ok nmX11 26 (by decide) 56 rfl hN rfl rfl rfl (by decide) fl_X11_59 dX11_init_116 (fun C => ?_)
  have C : CXok X (KL D t [a0, a1, a2, a3, a4, a5, a6, a7, a8, a9, a10, a11, a12, a13, a14, a15, a16, a17, a18, a19, a20, a21, a22, a23, a24, a25, a26, a27, a28, a29, a30, a31, a32, a33, a34, a35, a36, a37, a38, a39, a40, a41, a42, a43, a44, a45, a46, a47, a48, a49, a50, a51, a52, a53, a54, a55, a56]) nl121 _ _ _ _ _ := C
  change PW X (KL D t [a0, a1, a2, a3, a4, a5, a6, a7, a8, a9, a10, a11, a12, a13, a14, a15, a16, a17, a18, a19, a20, a21, a22, a23, a24, a25, a26, a27, a28, a29, a30, a31, a32, a33, a34, a35, a36, a37, a38, a39, a40, a41, a42, a43, a44, a45, a46, a47, a48, a49, a50, a51, a52, a53, a54, a55, a56]) nl121 _ (13, 131966) _ _ [some (Value.ref a43), none] [] _
  refine pv_aload C (i := 0) (b := a43) rfl dX11_init_119 ?_
  refine pw_sipush C dX11_init_120 (by decide) ?_
  refine pw_newi C (n := 648) rfl rfl (up2_z (a := 57) (k := 43) (by decide) (up2_z (a := 57) (k := 43) (by decide) (nmz_11 57 (by decide)))) (by decide) ac__int ⟨by rw [hc]; decide, by rw [hs]; decide⟩ dX11_init_123 (fun a57 C => ?_)
  have C : CXok X (KL D t [a0, a1, a2, a3, a4, a5, a6, a7, a8, a9, a10, a11, a12, a13, a14, a15, a16, a17, a18, a19, a20, a21, a22, a23, a24, a25, a26, a27, a28, a29, a30, a31, a32, a33, a34, a35, a36, a37, a38, a39, a40, a41, a42, a43, a44, a45, a46, a47, a48, a49, a50, a51, a52, a53, a54, a55, a56, a57]) nl122 _ _ _ _ _ := C
  change PW X (KL D t [a0, a1, a2, a3, a4, a5, a6, a7, a8, a9, a10, a11, a12, a13, a14, a15, a16, a17, a18, a19, a20, a21, a22, a23, a24, a25, a26, a27, a28, a29, a30, a31, a32, a33, a34, a35, a36, a37, a38, a39, a40, a41, a42, a43, a44, a45, a46, a47, a48, a49, a50, a51, a52, a53, a54, a55, a56, a57]) nl122 _ (14, 132614) _ _ [some (Value.ref a43), none] [Value.ref a57, Value.ref a43] _
  refine pw_putR C (k := 43) (show nl122[43]? = some (0, 11, [0, 0, 46, 0, 0, 0, 0, 0, 47, 48, 0, 49, 50, 0, 0, 0, 51, 0, 52, 0, 53, 54, 55, 56, 57, 0, 58, 1, 1, 0, 0, 1, 0, 0]) from rfl) kc_11 gT_wsX110 tyX11 tyX11_ok nmX11 27 (by decide) 57 rfl hN rfl rfl rfl (by decide) fl_X11_62 dX11_init_125 (fun C => ?_)
  have C : CXok X (KL D t [a0, a1, a2, a3, a4, a5, a6, a7, a8, a9, a10, a11, a12, a13, a14, a15, a16, a17, a18, a19, a20, a21, a22, a23, a24, a25, a26, a27, a28, a29, a30, a31, a32, a33, a34, a35, a36, a37, a38, a39, a40, a41, a42, a43, a44, a45, a46, a47, a48, a49, a50, a51, a52, a53, a54, a55, a56, a57]) nl123 _ _ _ _ _ := C
  change PW X (KL D t [a0, a1, a2, a3, a4, a5, a6, a7, a8, a9, a10, a11, a12, a13, a14, a15, a16, a17, a18, a19, a20, a21, a22, a23, a24, a25, a26, a27, a28, a29, a30, a31, a32, a33, a34, a35, a36, a37, a38, a39, a40, a41, a42, a43, a44, a45, a46, a47, a48, a49, a50, a51, a52, a53, a54, a55, a56, a57]) nl123 _ (14, 132614) _ _ [some (Value.ref a43), none] [] _
  refine pv_aload C (i := 0) (b := a43) rfl dX11_init_128 ?_
  refine pw_bipush C dX11_init_129 (by decide) ?_
  refine pw_newb C (n := 8) rfl rfl (up2_z (a := 58) (k := 43) (by decide) (up2_z (a := 58) (k := 43) (by decide) (nmz_11 58 (by decide)))) (by decide) ac__byte ⟨by rw [hc]; decide, by rw [hs]; decide⟩ dX11_init_131 (fun a58 C => ?_)
  have C : CXok X (KL D t [a0, a1, a2, a3, a4, a5, a6, a7, a8, a9, a10, a11, a12, a13, a14, a15, a16, a17, a18, a19, a20, a21, a22, a23, a24, a25, a26, a27, a28, a29, a30, a31, a32, a33, a34, a35, a36, a37, a38, a39, a40, a41, a42, a43, a44, a45, a46, a47, a48, a49, a50, a51, a52, a53, a54, a55, a56, a57, a58]) nl124 _ _ _ _ _ := C
  change PW X (KL D t [a0, a1, a2, a3, a4, a5, a6, a7, a8, a9, a10, a11, a12, a13, a14, a15, a16, a17, a18, a19, a20, a21, a22, a23, a24, a25, a26, a27, a28, a29, a30, a31, a32, a33, a34, a35, a36, a37, a38, a39, a40, a41, a42, a43, a44, a45, a46, a47, a48, a49, a50, a51, a52, a53, a54, a55, a56, a57, a58]) nl124 _ (15, 132622) _ _ [some (Value.ref a43), none] [Value.ref a58, Value.ref a43] _
  refine pw_putR C (k := 43) (show nl124[43]? = some (0, 11, [0, 0, 46, 0, 0, 0, 0, 0, 47, 48, 0, 49, 50, 0, 0, 0, 51, 0, 52, 0, 53, 54, 55, 56, 57, 0, 58, 59, 1, 0, 0, 1, 0, 0]) from rfl) kc_11 gT_wsX110 tyX11 tyX11_ok nmX11 28 (by decide) 58 rfl hN rfl rfl rfl (by decide) fl_X11_65 dX11_init_133 (fun C => ?_)
  have C : CXok X (KL D t [a0, a1, a2, a3, a4, a5, a6, a7, a8, a9, a10, a11, a12, a13, a14, a15, a16, a17, a18, a19, a20, a21, a22, a23, a24, a25, a26, a27, a28, a29, a30, a31, a32, a33, a34, a35, a36, a37, a38, a39, a40, a41, a42, a43, a44, a45, a46, a47, a48, a49, a50, a51, a52, a53, a54, a55, a56, a57, a58]) nl125 _ _ _ _ _ := C
  change PW X (KL D t [a0, a1, a2, a3, a4, a5, a6, a7, a8, a9, a10, a11, a12, a13, a14, a15, a16, a17, a18, a19, a20, a21, a22, a23, a24, a25, a26, a27, a28, a29, a30, a31, a32, a33, a34, a35, a36, a37, a38, a39, a40, a41, a42, a43, a44, a45, a46, a47, a48, a49, a50, a51, a52, a53, a54, a55, a56, a57, a58]) nl125 _ (15, 132622) _ _ [some (Value.ref a43), none] [] _
  refine pv_aload C (i := 0) (b := a43) rfl dX11_init_136 ?_
  refine pw_bipush C dX11_init_137 (by decide) ?_
  refine pw_newb C (n := 8) rfl rfl (up2_z (a := 59) (k := 43) (by decide) (up2_z (a := 59) (k := 43) (by decide) (nmz_11 59 (by decide)))) (by decide) ac__byte ⟨by rw [hc]; decide, by rw [hs]; decide⟩ dX11_init_139 (fun a59 C => ?_)
  have C : CXok X (KL D t [a0, a1, a2, a3, a4, a5, a6, a7, a8, a9, a10, a11, a12, a13, a14, a15, a16, a17, a18, a19, a20, a21, a22, a23, a24, a25, a26, a27, a28, a29, a30, a31, a32, a33, a34, a35, a36, a37, a38, a39, a40, a41, a42, a43, a44, a45, a46, a47, a48, a49, a50, a51, a52, a53, a54, a55, a56, a57, a58, a59]) nl126 _ _ _ _ _ := C
  change PW X (KL D t [a0, a1, a2, a3, a4, a5, a6, a7, a8, a9, a10, a11, a12, a13, a14, a15, a16, a17, a18, a19, a20, a21, a22, a23, a24, a25, a26, a27, a28, a29, a30, a31, a32, a33, a34, a35, a36, a37, a38, a39, a40, a41, a42, a43, a44, a45, a46, a47, a48, a49, a50, a51, a52, a53, a54, a55, a56, a57, a58, a59]) nl126 _ (16, 132630) _ _ [some (Value.ref a43), none] [Value.ref a59, Value.ref a43] _
  refine pw_putR C (k := 43) (show nl126[43]? = some (0, 11, [0, 0, 46, 0, 0, 0, 0, 0, 47, 48, 0, 49, 50, 0, 0, 0, 51, 0, 52, 0, 53, 54, 55, 56, 57, 0, 58, 59, 60, 0, 0, 1, 0, 0]) from rfl) kc_11 gT_wsX110 tyX11 tyX11_ok nmX11 31 (by decide) 59 rfl hN rfl rfl rfl (by decide) fl_X11_68 dX11_init_141 (fun C => ?_)
  have C : CXok X (KL D t [a0, a1, a2, a3, a4, a5, a6, a7, a8, a9, a10, a11, a12, a13, a14, a15, a16, a17, a18, a19, a20, a21, a22, a23, a24, a25, a26, a27, a28, a29, a30, a31, a32, a33, a34, a35, a36, a37, a38, a39, a40, a41, a42, a43, a44, a45, a46, a47, a48, a49, a50, a51, a52, a53, a54, a55, a56, a57, a58, a59]) nl127 _ _ _ _ _ := C
  change PW X (KL D t [a0, a1, a2, a3, a4, a5, a6, a7, a8, a9, a10, a11, a12, a13, a14, a15, a16, a17, a18, a19, a20, a21, a22, a23, a24, a25, a26, a27, a28, a29, a30, a31, a32, a33, a34, a35, a36, a37, a38, a39, a40, a41, a42, a43, a44, a45, a46, a47, a48, a49, a50, a51, a52, a53, a54, a55, a56, a57, a58, a59]) nl127 _ (16, 132630) _ _ [some (Value.ref a43), none] [] _
  refine pw_iconst C dX11_init_144 ?_
  refine pw_istore1 C (by decide) dX11_init_145 ?_
  refine pw_iload1 C dX11_init_146 ?_
  refine pw_bipush C dX11_init_147 (by decide) ?_
  refine pw_icmp_ge (tgt := 178) C dX11_init_149 (by decide) (by decide) (by decide) (fun h => absurd h (by decide)) (fun h => ?_)
  refine pv_aload C (i := 0) (b := a43) rfl dX11_init_152 ?_
  refine pw_get0 C (k := 43) (show nl127[43]? = some (0, 11, [0, 0, 46, 0, 0, 0, 0, 0, 47, 48, 0, 49, 50, 0, 0, 0, 51, 0, 52, 0, 53, 54, 55, 56, 57, 0, 58, 59, 60, 0, 0, 61, 0, 0]) from rfl) kc_11 gT_wsX110 2 (by decide) rfl fl_X11_16 dX11_init_153 ?_
  have C : CXok X (KL D t [a0, a1, a2, a3, a4, a5, a6, a7, a8, a9, a10, a11, a12, a13, a14, a15, a16, a17, a18, a19, a20, a21, a22, a23, a24, a25, a26, a27, a28, a29, a30, a31, a32, a33, a34, a35, a36, a37, a38, a39, a40, a41, a42, a43, a44, a45, a46, a47, a48, a49, a50, a51, a52, a53, a54, a55, a56, a57, a58, a59]) nl127 _ _ _ _ _ := C
  change PW X (KL D t [a0, a1, a2, a3, a4, a5, a6, a7, a8, a9, a10, a11, a12, a13, a14, a15, a16, a17, a18, a19, a20, a21, a22, a23, a24, a25, a26, a27, a28, a29, a30, a31, a32, a33, a34, a35, a36, a37, a38, a39, a40, a41, a42, a43, a44, a45, a46, a47, a48, a49, a50, a51, a52, a53, a54, a55, a56, a57, a58, a59]) nl127 _ (16, 132630) _ _ [some (Value.ref a43), some (iV 0)] [Value.ref a44] _
  refine pw_iload1 C dX11_init_156 ?_
  refine pw_iload1 C dX11_init_157 ?_
  refine pw_iconst C dX11_init_158 ?_
  refine pw_idiv C (by decide) (by decide) dX11_init_159 ?_
  refine pw_top C 0 (by decide) ?_
  refine pw_iload1 C dX11_init_160 ?_
  refine pw_iconst C dX11_init_161 ?_
  refine pw_irem C (by decide) (by decide) dX11_init_162 ?_
  refine pw_top C 0 (by decide) ?_
  refine pw_icmp_ne (tgt := 170) C dX11_init_163 (by decide) (by decide) (by decide) (fun h => absurd h (by decide)) (fun h => ?_)
  refine pw_iconst C dX11_init_166 ?_
  refine pw_goto (tgt := 171) C dX11_init_167 (by decide) ?_
  refine pw_iastore C (k := 44) (show nl127[44]? = some (1, 16, []) from rfl) (by decide) (by decide) dX11_init_171 ?_
  refine pw_iinc1 C (by decide) dX11_init_172 ?_
  refine pw_goto (tgt := 146) C dX11_init_175 (by decide) ?_
  refine pw_iload1 C dX11_init_146 ?_
  refine pw_bipush C dX11_init_147 (by decide) ?_
  refine pw_icmp_ge (tgt := 178) C dX11_init_149 (by decide) (by decide) (by decide) (fun h => absurd h (by decide)) (fun h => ?_)
  refine pv_aload C (i := 0) (b := a43) rfl dX11_init_152 ?_
  refine pw_get0 C (k := 43) (show nl127[43]? = some (0, 11, [0, 0, 46, 0, 0, 0, 0, 0, 47, 48, 0, 49, 50, 0, 0, 0, 51, 0, 52, 0, 53, 54, 55, 56, 57, 0, 58, 59, 60, 0, 0, 61, 0, 0]) from rfl) kc_11 gT_wsX110 2 (by decide) rfl fl_X11_16 dX11_init_153 ?_
  have C : CXok X (KL D t [a0, a1, a2, a3, a4, a5, a6, a7, a8, a9, a10, a11, a12, a13, a14, a15, a16, a17, a18, a19, a20, a21, a22, a23, a24, a25, a26, a27, a28, a29, a30, a31, a32, a33, a34, a35, a36, a37, a38, a39, a40, a41, a42, a43, a44, a45, a46, a47, a48, a49, a50, a51, a52, a53, a54, a55, a56, a57, a58, a59]) nl127 _ _ _ _ _ := C
  change PW X (KL D t [a0, a1, a2, a3, a4, a5, a6, a7, a8, a9, a10, a11, a12, a13, a14, a15, a16, a17, a18, a19, a20, a21, a22, a23, a24, a25, a26, a27, a28, a29, a30, a31, a32, a33, a34, a35, a36, a37, a38, a39, a40, a41, a42, a43, a44, a45, a46, a47, a48, a49, a50, a51, a52, a53, a54, a55, a56, a57, a58, a59]) nl127 _ (16, 132630) _ _ [some (Value.ref a43), some (iV (0 + 1))] [Value.ref a44] _
  refine pw_iload1 C dX11_init_156 ?_
  refine pw_iload1 C dX11_init_157 ?_
  refine pw_iconst C dX11_init_158 ?_
  refine pw_idiv C (by decide) (by decide) dX11_init_159 ?_
  refine pw_top C 0 (by decide) ?_
  refine pw_iload1 C dX11_init_160 ?_
  refine pw_iconst C dX11_init_161 ?_
  refine pw_irem C (by decide) (by decide) dX11_init_162 ?_
  refine pw_top C 1 (by decide) ?_
  refine pw_icmp_ne (tgt := 170) C dX11_init_163 (by decide) (by decide) (by decide) (fun h => ?_) (fun h => absurd h (by decide))
  refine pw_iconst C dX11_init_170 ?_
  refine pw_iastore C (k := 44) (show nl127[44]? = some (1, 16, []) from rfl) (by decide) (by decide) dX11_init_171 ?_
  refine pw_iinc1 C (by decide) dX11_init_172 ?_
  refine pw_goto (tgt := 146) C dX11_init_175 (by decide) ?_
  refine pw_iload1 C dX11_init_146 ?_
  refine pw_bipush C dX11_init_147 (by decide) ?_
  refine pw_icmp_ge (tgt := 178) C dX11_init_149 (by decide) (by decide) (by decide) (fun h => absurd h (by decide)) (fun h => ?_)
  refine pv_aload C (i := 0) (b := a43) rfl dX11_init_152 ?_
  refine pw_get0 C (k := 43) (show nl127[43]? = some (0, 11, [0, 0, 46, 0, 0, 0, 0, 0, 47, 48, 0, 49, 50, 0, 0, 0, 51, 0, 52, 0, 53, 54, 55, 56, 57, 0, 58, 59, 60, 0, 0, 61, 0, 0]) from rfl) kc_11 gT_wsX110 2 (by decide) rfl fl_X11_16 dX11_init_153 ?_
  have C : CXok X (KL D t [a0, a1, a2, a3, a4, a5, a6, a7, a8, a9, a10, a11, a12, a13, a14, a15, a16, a17, a18, a19, a20, a21, a22, a23, a24, a25, a26, a27, a28, a29, a30, a31, a32, a33, a34, a35, a36, a37, a38, a39, a40, a41, a42, a43, a44, a45, a46, a47, a48, a49, a50, a51, a52, a53, a54, a55, a56, a57, a58, a59]) nl127 _ _ _ _ _ := C
  change PW X (KL D t [a0, a1, a2, a3, a4, a5, a6, a7, a8, a9, a10, a11, a12, a13, a14, a15, a16, a17, a18, a19, a20, a21, a22, a23, a24, a25, a26, a27, a28, a29, a30, a31, a32, a33, a34, a35, a36, a37, a38, a39, a40, a41, a42, a43, a44, a45, a46, a47, a48, a49, a50, a51, a52, a53, a54, a55, a56, a57, a58, a59]) nl127 _ (16, 132630) _ _ [some (Value.ref a43), some (iV ((0 + 1) + 1))] [Value.ref a44] _
  refine pw_iload1 C dX11_init_156 ?_
  refine pw_iload1 C dX11_init_157 ?_
  refine pw_iconst C dX11_init_158 ?_
  refine pw_idiv C (by decide) (by decide) dX11_init_159 ?_
  refine pw_top C 0 (by decide) ?_
  refine pw_iload1 C dX11_init_160 ?_
  refine pw_iconst C dX11_init_161 ?_
  refine pw_irem C (by decide) (by decide) dX11_init_162 ?_
  refine pw_top C 2 (by decide) ?_
  refine pw_icmp_ne (tgt := 170) C dX11_init_163 (by decide) (by decide) (by decide) (fun h => ?_) (fun h => absurd h (by decide))
  refine pw_iconst C dX11_init_170 ?_
  refine pw_iastore C (k := 44) (show nl127[44]? = some (1, 16, []) from rfl) (by decide) (by decide) dX11_init_171 ?_
  refine pw_iinc1 C (by decide) dX11_init_172 ?_
  refine pw_goto (tgt := 146) C dX11_init_175 (by decide) ?_
  refine pw_iload1 C dX11_init_146 ?_
  refine pw_bipush C dX11_init_147 (by decide) ?_
  refine pw_icmp_ge (tgt := 178) C dX11_init_149 (by decide) (by decide) (by decide) (fun h => absurd h (by decide)) (fun h => ?_)
  refine pv_aload C (i := 0) (b := a43) rfl dX11_init_152 ?_
  refine pw_get0 C (k := 43) (show nl127[43]? = some (0, 11, [0, 0, 46, 0, 0, 0, 0, 0, 47, 48, 0, 49, 50, 0, 0, 0, 51, 0, 52, 0, 53, 54, 55, 56, 57, 0, 58, 59, 60, 0, 0, 61, 0, 0]) from rfl) kc_11 gT_wsX110 2 (by decide) rfl fl_X11_16 dX11_init_153 ?_
  have C : CXok X (KL D t [a0, a1, a2, a3, a4, a5, a6, a7, a8, a9, a10, a11, a12, a13, a14, a15, a16, a17, a18, a19, a20, a21, a22, a23, a24, a25, a26, a27, a28, a29, a30, a31, a32, a33, a34, a35, a36, a37, a38, a39, a40, a41, a42, a43, a44, a45, a46, a47, a48, a49, a50, a51, a52, a53, a54, a55, a56, a57, a58, a59]) nl127 _ _ _ _ _ := C
  change PW X (KL D t [a0, a1, a2, a3, a4, a5, a6, a7, a8, a9, a10, a11, a12, a13, a14, a15, a16, a17, a18, a19, a20, a21, a22, a23, a24, a25, a26, a27, a28, a29, a30, a31, a32, a33, a34, a35, a36, a37, a38, a39, a40, a41, a42, a43, a44, a45, a46, a47, a48, a49, a50, a51, a52, a53, a54, a55, a56, a57, a58, a59]) nl127 _ (16, 132630) _ _ [some (Value.ref a43), some (iV (((0 + 1) + 1) + 1))] [Value.ref a44] _
  refine pw_iload1 C dX11_init_156 ?_
  refine pw_iload1 C dX11_init_157 ?_
  refine pw_iconst C dX11_init_158 ?_
  refine pw_idiv C (by decide) (by decide) dX11_init_159 ?_
  refine pw_top C 0 (by decide) ?_
  refine pw_iload1 C dX11_init_160 ?_
  refine pw_iconst C dX11_init_161 ?_
  refine pw_irem C (by decide) (by decide) dX11_init_162 ?_
  refine pw_top C 3 (by decide) ?_
  refine pw_icmp_ne (tgt := 170) C dX11_init_163 (by decide) (by decide) (by decide) (fun h => ?_) (fun h => absurd h (by decide))
  refine pw_iconst C dX11_init_170 ?_
  refine pw_iastore C (k := 44) (show nl127[44]? = some (1, 16, []) from rfl) (by decide) (by decide) dX11_init_171 ?_
  refine pw_iinc1 C (by decide) dX11_init_172 ?_
  refine pw_goto (tgt := 146) C dX11_init_175 (by decide) ?_
  refine pw_iload1 C dX11_init_146 ?_
  refine pw_bipush C dX11_init_147 (by decide) ?_
  refine pw_icmp_ge (tgt := 178) C dX11_init_149 (by decide) (by decide) (by decide) (fun h => absurd h (by decide)) (fun h => ?_)
  refine pv_aload C (i := 0) (b := a43) rfl dX11_init_152 ?_
  refine pw_get0 C (k := 43) (show nl127[43]? = some (0, 11, [0, 0, 46, 0, 0, 0, 0, 0, 47, 48, 0, 49, 50, 0, 0, 0, 51, 0, 52, 0, 53, 54, 55, 56, 57, 0, 58, 59, 60, 0, 0, 61, 0, 0]) from rfl) kc_11 gT_wsX110 2 (by decide) rfl fl_X11_16 dX11_init_153 ?_
  have C : CXok X (KL D t [a0, a1, a2, a3, a4, a5, a6, a7, a8, a9, a10, a11, a12, a13, a14, a15, a16, a17, a18, a19, a20, a21, a22, a23, a24, a25, a26, a27, a28, a29, a30, a31, a32, a33, a34, a35, a36, a37, a38, a39, a40, a41, a42, a43, a44, a45, a46, a47, a48, a49, a50, a51, a52, a53, a54, a55, a56, a57, a58, a59]) nl127 _ _ _ _ _ := C
  change PW X (KL D t [a0, a1, a2, a3, a4, a5, a6, a7, a8, a9, a10, a11, a12, a13, a14, a15, a16, a17, a18, a19, a20, a21, a22, a23, a24, a25, a26, a27, a28, a29, a30, a31, a32, a33, a34, a35, a36, a37, a38, a39, a40, a41, a42, a43, a44, a45, a46, a47, a48, a49, a50, a51, a52, a53, a54, a55, a56, a57, a58, a59]) nl127 _ (16, 132630) _ _ [some (Value.ref a43), some (iV ((((0 + 1) + 1) + 1) + 1))] [Value.ref a44] _
  refine pw_iload1 C dX11_init_156 ?_
  refine pw_iload1 C dX11_init_157 ?_
  refine pw_iconst C dX11_init_158 ?_
  refine pw_idiv C (by decide) (by decide) dX11_init_159 ?_
  refine pw_top C 1 (by decide) ?_
  refine pw_iload1 C dX11_init_160 ?_
  refine pw_iconst C dX11_init_161 ?_
  refine pw_irem C (by decide) (by decide) dX11_init_162 ?_
  refine pw_top C 0 (by decide) ?_
  refine pw_icmp_ne (tgt := 170) C dX11_init_163 (by decide) (by decide) (by decide) (fun h => ?_) (fun h => absurd h (by decide))
  refine pw_iconst C dX11_init_170 ?_
  refine pw_iastore C (k := 44) (show nl127[44]? = some (1, 16, []) from rfl) (by decide) (by decide) dX11_init_171 ?_
  refine pw_iinc1 C (by decide) dX11_init_172 ?_
  refine pw_goto (tgt := 146) C dX11_init_175 (by decide) ?_
  refine pw_iload1 C dX11_init_146 ?_
  refine pw_bipush C dX11_init_147 (by decide) ?_
  refine pw_icmp_ge (tgt := 178) C dX11_init_149 (by decide) (by decide) (by decide) (fun h => absurd h (by decide)) (fun h => ?_)
  refine pv_aload C (i := 0) (b := a43) rfl dX11_init_152 ?_
  refine pw_get0 C (k := 43) (show nl127[43]? = some (0, 11, [0, 0, 46, 0, 0, 0, 0, 0, 47, 48, 0, 49, 50, 0, 0, 0, 51, 0, 52, 0, 53, 54, 55, 56, 57, 0, 58, 59, 60, 0, 0, 61, 0, 0]) from rfl) kc_11 gT_wsX110 2 (by decide) rfl fl_X11_16 dX11_init_153 ?_
  have C : CXok X (KL D t [a0, a1, a2, a3, a4, a5, a6, a7, a8, a9, a10, a11, a12, a13, a14, a15, a16, a17, a18, a19, a20, a21, a22, a23, a24, a25, a26, a27, a28, a29, a30, a31, a32, a33, a34, a35, a36, a37, a38, a39, a40, a41, a42, a43, a44, a45, a46, a47, a48, a49, a50, a51, a52, a53, a54, a55, a56, a57, a58, a59]) nl127 _ _ _ _ _ := C
  change PW X (KL D t [a0, a1, a2, a3, a4, a5, a6, a7, a8, a9, a10, a11, a12, a13, a14, a15, a16, a17, a18, a19, a20, a21, a22, a23, a24, a25, a26, a27, a28, a29, a30, a31, a32, a33, a34, a35, a36, a37, a38, a39, a40, a41, a42, a43, a44, a45, a46, a47, a48, a49, a50, a51, a52, a53, a54, a55, a56, a57, a58, a59]) nl127 _ (16, 132630) _ _ [some (Value.ref a43), some (iV (((((0 + 1) + 1) + 1) + 1) + 1))] [Value.ref a44] _
  refine pw_iload1 C dX11_init_156 ?_
  refine pw_iload1 C dX11_init_157 ?_
  refine pw_iconst C dX11_init_158 ?_
  refine pw_idiv C (by decide) (by decide) dX11_init_159 ?_
  refine pw_top C 1 (by decide) ?_
  refine pw_iload1 C dX11_init_160 ?_
  refine pw_iconst C dX11_init_161 ?_
  refine pw_irem C (by decide) (by decide) dX11_init_162 ?_
  refine pw_top C 1 (by decide) ?_
  refine pw_icmp_ne (tgt := 170) C dX11_init_163 (by decide) (by decide) (by decide) (fun h => absurd h (by decide)) (fun h => ?_)
  refine pw_iconst C dX11_init_166 ?_
  refine pw_goto (tgt := 171) C dX11_init_167 (by decide) ?_
  refine pw_iastore C (k := 44) (show nl127[44]? = some (1, 16, []) from rfl) (by decide) (by decide) dX11_init_171 ?_
  refine pw_iinc1 C (by decide) dX11_init_172 ?_
  refine pw_goto (tgt := 146) C dX11_init_175 (by decide) ?_
  refine pw_iload1 C dX11_init_146 ?_
  refine pw_bipush C dX11_init_147 (by decide) ?_
  refine pw_icmp_ge (tgt := 178) C dX11_init_149 (by decide) (by decide) (by decide) (fun h => absurd h (by decide)) (fun h => ?_)
  refine pv_aload C (i := 0) (b := a43) rfl dX11_init_152 ?_
  refine pw_get0 C (k := 43) (show nl127[43]? = some (0, 11, [0, 0, 46, 0, 0, 0, 0, 0, 47, 48, 0, 49, 50, 0, 0, 0, 51, 0, 52, 0, 53, 54, 55, 56, 57, 0, 58, 59, 60, 0, 0, 61, 0, 0]) from rfl) kc_11 gT_wsX110 2 (by decide) rfl fl_X11_16 dX11_init_153 ?_
  have C : CXok X (KL D t [a0, a1, a2, a3, a4, a5, a6, a7, a8, a9, a10, a11, a12, a13, a14, a15, a16, a17, a18, a19, a20, a21, a22, a23, a24, a25, a26, a27, a28, a29, a30, a31, a32, a33, a34, a35, a36, a37, a38, a39, a40, a41, a42, a43, a44, a45, a46, a47, a48, a49, a50, a51, a52, a53, a54, a55, a56, a57, a58, a59]) nl127 _ _ _ _ _ := C
  change PW X (KL D t [a0, a1, a2, a3, a4, a5, a6, a7, a8, a9, a10, a11, a12, a13, a14, a15, a16, a17, a18, a19, a20, a21, a22, a23, a24, a25, a26, a27, a28, a29, a30, a31, a32, a33, a34, a35, a36, a37, a38, a39, a40, a41, a42, a43, a44, a45, a46, a47, a48, a49, a50, a51, a52, a53, a54, a55, a56, a57, a58, a59]) nl127 _ (16, 132630) _ _ [some (Value.ref a43), some (iV ((((((0 + 1) + 1) + 1) + 1) + 1) + 1))] [Value.ref a44] _
  refine pw_iload1 C dX11_init_156 ?_
  refine pw_iload1 C dX11_init_157 ?_
  refine pw_iconst C dX11_init_158 ?_
  refine pw_idiv C (by decide) (by decide) dX11_init_159 ?_
  refine pw_top C 1 (by decide) ?_
  refine pw_iload1 C dX11_init_160 ?_
  refine pw_iconst C dX11_init_161 ?_
  refine pw_irem C (by decide) (by decide) dX11_init_162 ?_
  refine pw_top C 2 (by decide) ?_
  refine pw_icmp_ne (tgt := 170) C dX11_init_163 (by decide) (by decide) (by decide) (fun h => ?_) (fun h => absurd h (by decide))
  refine pw_iconst C dX11_init_170 ?_
  refine pw_iastore C (k := 44) (show nl127[44]? = some (1, 16, []) from rfl) (by decide) (by decide) dX11_init_171 ?_
  refine pw_iinc1 C (by decide) dX11_init_172 ?_
  refine pw_goto (tgt := 146) C dX11_init_175 (by decide) ?_
  refine pw_iload1 C dX11_init_146 ?_
  refine pw_bipush C dX11_init_147 (by decide) ?_
  refine pw_icmp_ge (tgt := 178) C dX11_init_149 (by decide) (by decide) (by decide) (fun h => absurd h (by decide)) (fun h => ?_)
  refine pv_aload C (i := 0) (b := a43) rfl dX11_init_152 ?_
  refine pw_get0 C (k := 43) (show nl127[43]? = some (0, 11, [0, 0, 46, 0, 0, 0, 0, 0, 47, 48, 0, 49, 50, 0, 0, 0, 51, 0, 52, 0, 53, 54, 55, 56, 57, 0, 58, 59, 60, 0, 0, 61, 0, 0]) from rfl) kc_11 gT_wsX110 2 (by decide) rfl fl_X11_16 dX11_init_153 ?_
  have C : CXok X (KL D t [a0, a1, a2, a3, a4, a5, a6, a7, a8, a9, a10, a11, a12, a13, a14, a15, a16, a17, a18, a19, a20, a21, a22, a23, a24, a25, a26, a27, a28, a29, a30, a31, a32, a33, a34, a35, a36, a37, a38, a39, a40, a41, a42, a43, a44, a45, a46, a47, a48, a49, a50, a51, a52, a53, a54, a55, a56, a57, a58, a59]) nl127 _ _ _ _ _ := C
  change PW X (KL D t [a0, a1, a2, a3, a4, a5, a6, a7, a8, a9, a10, a11, a12, a13, a14, a15, a16, a17, a18, a19, a20, a21, a22, a23, a24, a25, a26, a27, a28, a29, a30, a31, a32, a33, a34, a35, a36, a37, a38, a39, a40, a41, a42, a43, a44, a45, a46, a47, a48, a49, a50, a51, a52, a53, a54, a55, a56, a57, a58, a59]) nl127 _ (16, 132630) _ _ [some (Value.ref a43), some (iV (((((((0 + 1) + 1) + 1) + 1) + 1) + 1) + 1))] [Value.ref a44] _
  refine pw_iload1 C dX11_init_156 ?_
  refine pw_iload1 C dX11_init_157 ?_
  refine pw_iconst C dX11_init_158 ?_
  refine pw_idiv C (by decide) (by decide) dX11_init_159 ?_
  refine pw_top C 1 (by decide) ?_
  refine pw_iload1 C dX11_init_160 ?_
  refine pw_iconst C dX11_init_161 ?_
  refine pw_irem C (by decide) (by decide) dX11_init_162 ?_
  refine pw_top C 3 (by decide) ?_
  refine pw_icmp_ne (tgt := 170) C dX11_init_163 (by decide) (by decide) (by decide) (fun h => ?_) (fun h => absurd h (by decide))
  refine pw_iconst C dX11_init_170 ?_
  refine pw_iastore C (k := 44) (show nl127[44]? = some (1, 16, []) from rfl) (by decide) (by decide) dX11_init_171 ?_
  refine pw_iinc1 C (by decide) dX11_init_172 ?_
  refine pw_goto (tgt := 146) C dX11_init_175 (by decide) ?_
  refine pw_iload1 C dX11_init_146 ?_
  refine pw_bipush C dX11_init_147 (by decide) ?_
  refine pw_icmp_ge (tgt := 178) C dX11_init_149 (by decide) (by decide) (by decide) (fun h => absurd h (by decide)) (fun h => ?_)
  refine pv_aload C (i := 0) (b := a43) rfl dX11_init_152 ?_
  refine pw_get0 C (k := 43) (show nl127[43]? = some (0, 11, [0, 0, 46, 0, 0, 0, 0, 0, 47, 48, 0, 49, 50, 0, 0, 0, 51, 0, 52, 0, 53, 54, 55, 56, 57, 0, 58, 59, 60, 0, 0, 61, 0, 0]) from rfl) kc_11 gT_wsX110 2 (by decide) rfl fl_X11_16 dX11_init_153 ?_
  have C : CXok X (KL D t [a0, a1, a2, a3, a4, a5, a6, a7, a8, a9, a10, a11, a12, a13, a14, a15, a16, a17, a18, a19, a20, a21, a22, a23, a24, a25, a26, a27, a28, a29, a30, a31, a32, a33, a34, a35, a36, a37, a38, a39, a40, a41, a42, a43, a44, a45, a46, a47, a48, a49, a50, a51, a52, a53, a54, a55, a56, a57, a58, a59]) nl127 _ _ _ _ _ := C
  change PW X (KL D t [a0, a1, a2, a3, a4, a5, a6, a7, a8, a9, a10, a11, a12, a13, a14, a15, a16, a17, a18, a19, a20, a21, a22, a23, a24, a25, a26, a27, a28, a29, a30, a31, a32, a33, a34, a35, a36, a37, a38, a39, a40, a41, a42, a43, a44, a45, a46, a47, a48, a49, a50, a51, a52, a53, a54, a55, a56, a57, a58, a59]) nl127 _ (16, 132630) _ _ [some (Value.ref a43), some (iV ((((((((0 + 1) + 1) + 1) + 1) + 1) + 1) + 1) + 1))] [Value.ref a44] _
  refine pw_iload1 C dX11_init_156 ?_
  refine pw_iload1 C dX11_init_157 ?_
  refine pw_iconst C dX11_init_158 ?_
  refine pw_idiv C (by decide) (by decide) dX11_init_159 ?_
  refine pw_top C 2 (by decide) ?_
  refine pw_iload1 C dX11_init_160 ?_
  refine pw_iconst C dX11_init_161 ?_
  refine pw_irem C (by decide) (by decide) dX11_init_162 ?_
  refine pw_top C 0 (by decide) ?_
  refine pw_icmp_ne (tgt := 170) C dX11_init_163 (by decide) (by decide) (by decide) (fun h => ?_) (fun h => absurd h (by decide))
  refine pw_iconst C dX11_init_170 ?_
  refine pw_iastore C (k := 44) (show nl127[44]? = some (1, 16, []) from rfl) (by decide) (by decide) dX11_init_171 ?_
  refine pw_iinc1 C (by decide) dX11_init_172 ?_
  refine pw_goto (tgt := 146) C dX11_init_175 (by decide) ?_
  refine pw_iload1 C dX11_init_146 ?_
  refine pw_bipush C dX11_init_147 (by decide) ?_
  refine pw_icmp_ge (tgt := 178) C dX11_init_149 (by decide) (by decide) (by decide) (fun h => absurd h (by decide)) (fun h => ?_)
  refine pv_aload C (i := 0) (b := a43) rfl dX11_init_152 ?_
  refine pw_get0 C (k := 43) (show nl127[43]? = some (0, 11, [0, 0, 46, 0, 0, 0, 0, 0, 47, 48, 0, 49, 50, 0, 0, 0, 51, 0, 52, 0, 53, 54, 55, 56, 57, 0, 58, 59, 60, 0, 0, 61, 0, 0]) from rfl) kc_11 gT_wsX110 2 (by decide) rfl fl_X11_16 dX11_init_153 ?_
  have C : CXok X (KL D t [a0, a1, a2, a3, a4, a5, a6, a7, a8, a9, a10, a11, a12, a13, a14, a15, a16, a17, a18, a19, a20, a21, a22, a23, a24, a25, a26, a27, a28, a29, a30, a31, a32, a33, a34, a35, a36, a37, a38, a39, a40, a41, a42, a43, a44, a45, a46, a47, a48, a49, a50, a51, a52, a53, a54, a55, a56, a57, a58, a59]) nl127 _ _ _ _ _ := C
  change PW X (KL D t [a0, a1, a2, a3, a4, a5, a6, a7, a8, a9, a10, a11, a12, a13, a14, a15, a16, a17, a18, a19, a20, a21, a22, a23, a24, a25, a26, a27, a28, a29, a30, a31, a32, a33, a34, a35, a36, a37, a38, a39, a40, a41, a42, a43, a44, a45, a46, a47, a48, a49, a50, a51, a52, a53, a54, a55, a56, a57, a58, a59]) nl127 _ (16, 132630) _ _ [some (Value.ref a43), some (iV (((((((((0 + 1) + 1) + 1) + 1) + 1) + 1) + 1) + 1) + 1))] [Value.ref a44] _
  refine pw_iload1 C dX11_init_156 ?_
  refine pw_iload1 C dX11_init_157 ?_
  refine pw_iconst C dX11_init_158 ?_
  refine pw_idiv C (by decide) (by decide) dX11_init_159 ?_
  refine pw_top C 2 (by decide) ?_
  refine pw_iload1 C dX11_init_160 ?_
  refine pw_iconst C dX11_init_161 ?_
  refine pw_irem C (by decide) (by decide) dX11_init_162 ?_
  refine pw_top C 1 (by decide) ?_
  refine pw_icmp_ne (tgt := 170) C dX11_init_163 (by decide) (by decide) (by decide) (fun h => ?_) (fun h => absurd h (by decide))
  refine pw_iconst C dX11_init_170 ?_
  refine pw_iastore C (k := 44) (show nl127[44]? = some (1, 16, []) from rfl) (by decide) (by decide) dX11_init_171 ?_
  refine pw_iinc1 C (by decide) dX11_init_172 ?_
  refine pw_goto (tgt := 146) C dX11_init_175 (by decide) ?_
  refine pw_iload1 C dX11_init_146 ?_
  refine pw_bipush C dX11_init_147 (by decide) ?_
  refine pw_icmp_ge (tgt := 178) C dX11_init_149 (by decide) (by decide) (by decide) (fun h => absurd h (by decide)) (fun h => ?_)
  refine pv_aload C (i := 0) (b := a43) rfl dX11_init_152 ?_
  refine pw_get0 C (k := 43) (show nl127[43]? = some (0, 11, [0, 0, 46, 0, 0, 0, 0, 0, 47, 48, 0, 49, 50, 0, 0, 0, 51, 0, 52, 0, 53, 54, 55, 56, 57, 0, 58, 59, 60, 0, 0, 61, 0, 0]) from rfl) kc_11 gT_wsX110 2 (by decide) rfl fl_X11_16 dX11_init_153 ?_
  have C : CXok X (KL D t [a0, a1, a2, a3, a4, a5, a6, a7, a8, a9, a10, a11, a12, a13, a14, a15, a16, a17, a18, a19, a20, a21, a22, a23, a24, a25, a26, a27, a28, a29, a30, a31, a32, a33, a34, a35, a36, a37, a38, a39, a40, a41, a42, a43, a44, a45, a46, a47, a48, a49, a50, a51, a52, a53, a54, a55, a56, a57, a58, a59]) nl127 _ _ _ _ _ := C
  change PW X (KL D t [a0, a1, a2, a3, a4, a5, a6, a7, a8, a9, a10, a11, a12, a13, a14, a15, a16, a17, a18, a19, a20, a21, a22, a23, a24, a25, a26, a27, a28, a29, a30, a31, a32, a33, a34, a35, a36, a37, a38, a39, a40, a41, a42, a43, a44, a45, a46, a47, a48, a49, a50, a51, a52, a53, a54, a55, a56, a57, a58, a59]) nl127 _ (16, 132630) _ _ [some (Value.ref a43), some (iV ((((((((((0 + 1) + 1) + 1) + 1) + 1) + 1) + 1) + 1) + 1) + 1))] [Value.ref a44] _
  refine pw_iload1 C dX11_init_156 ?_
  refine pw_iload1 C dX11_init_157 ?_
  refine pw_iconst C dX11_init_158 ?_
  refine pw_idiv C (by decide) (by decide) dX11_init_159 ?_
  refine pw_top C 2 (by decide) ?_
  refine pw_iload1 C dX11_init_160 ?_
  refine pw_iconst C dX11_init_161 ?_
  refine pw_irem C (by decide) (by decide) dX11_init_162 ?_
  refine pw_top C 2 (by decide) ?_
  refine pw_icmp_ne (tgt := 170) C dX11_init_163 (by decide) (by decide) (by decide) (fun h => absurd h (by decide)) (fun h => ?_)
  refine pw_iconst C dX11_init_166 ?_
  refine pw_goto (tgt := 171) C dX11_init_167 (by decide) ?_
  refine pw_iastore C (k := 44) (show nl127[44]? = some (1, 16, []) from rfl) (by decide) (by decide) dX11_init_171 ?_
  refine pw_iinc1 C (by decide) dX11_init_172 ?_
  refine pw_goto (tgt := 146) C dX11_init_175 (by decide) ?_
  refine pw_iload1 C dX11_init_146 ?_
  refine pw_bipush C dX11_init_147 (by decide) ?_
  refine pw_icmp_ge (tgt := 178) C dX11_init_149 (by decide) (by decide) (by decide) (fun h => absurd h (by decide)) (fun h => ?_)
  refine pv_aload C (i := 0) (b := a43) rfl dX11_init_152 ?_
  refine pw_get0 C (k := 43) (show nl127[43]? = some (0, 11, [0, 0, 46, 0, 0, 0, 0, 0, 47, 48, 0, 49, 50, 0, 0, 0, 51, 0, 52, 0, 53, 54, 55, 56, 57, 0, 58, 59, 60, 0, 0, 61, 0, 0]) from rfl) kc_11 gT_wsX110 2 (by decide) rfl fl_X11_16 dX11_init_153 ?_
  have C : CXok X (KL D t [a0, a1, a2, a3, a4, a5, a6, a7, a8, a9, a10, a11, a12, a13, a14, a15, a16, a17, a18, a19, a20, a21, a22, a23, a24, a25, a26, a27, a28, a29, a30, a31, a32, a33, a34, a35, a36, a37, a38, a39, a40, a41, a42, a43, a44, a45, a46, a47, a48, a49, a50, a51, a52, a53, a54, a55, a56, a57, a58, a59]) nl127 _ _ _ _ _ := C
  change PW X (KL D t [a0, a1, a2, a3, a4, a5, a6, a7, a8, a9, a10, a11, a12, a13, a14, a15, a16, a17, a18, a19, a20, a21, a22, a23, a24, a25, a26, a27, a28, a29, a30, a31, a32, a33, a34, a35, a36, a37, a38, a39, a40, a41, a42, a43, a44, a45, a46, a47, a48, a49, a50, a51, a52, a53, a54, a55, a56, a57, a58, a59]) nl127 _ (16, 132630) _ _ [some (Value.ref a43), some (iV (((((((((((0 + 1) + 1) + 1) + 1) + 1) + 1) + 1) + 1) + 1) + 1) + 1))] [Value.ref a44] _
  refine pw_iload1 C dX11_init_156 ?_
  refine pw_iload1 C dX11_init_157 ?_
  refine pw_iconst C dX11_init_158 ?_
  refine pw_idiv C (by decide) (by decide) dX11_init_159 ?_
  refine pw_top C 2 (by decide) ?_
  refine pw_iload1 C dX11_init_160 ?_
  refine pw_iconst C dX11_init_161 ?_
  refine pw_irem C (by decide) (by decide) dX11_init_162 ?_
  refine pw_top C 3 (by decide) ?_
  refine pw_icmp_ne (tgt := 170) C dX11_init_163 (by decide) (by decide) (by decide) (fun h => ?_) (fun h => absurd h (by decide))
  refine pw_iconst C dX11_init_170 ?_
  refine pw_iastore C (k := 44) (show nl127[44]? = some (1, 16, []) from rfl) (by decide) (by decide) dX11_init_171 ?_
  refine pw_iinc1 C (by decide) dX11_init_172 ?_
  refine pw_goto (tgt := 146) C dX11_init_175 (by decide) ?_
  refine pw_iload1 C dX11_init_146 ?_
  refine pw_bipush C dX11_init_147 (by decide) ?_
  refine pw_icmp_ge (tgt := 178) C dX11_init_149 (by decide) (by decide) (by decide) (fun h => absurd h (by decide)) (fun h => ?_)
  refine pv_aload C (i := 0) (b := a43) rfl dX11_init_152 ?_
  refine pw_get0 C (k := 43) (show nl127[43]? = some (0, 11, [0, 0, 46, 0, 0, 0, 0, 0, 47, 48, 0, 49, 50, 0, 0, 0, 51, 0, 52, 0, 53, 54, 55, 56, 57, 0, 58, 59, 60, 0, 0, 61, 0, 0]) from rfl) kc_11 gT_wsX110 2 (by decide) rfl fl_X11_16 dX11_init_153 ?_
  have C : CXok X (KL D t [a0, a1, a2, a3, a4, a5, a6, a7, a8, a9, a10, a11, a12, a13, a14, a15, a16, a17, a18, a19, a20, a21, a22, a23, a24, a25, a26, a27, a28, a29, a30, a31, a32, a33, a34, a35, a36, a37, a38, a39, a40, a41, a42, a43, a44, a45, a46, a47, a48, a49, a50, a51, a52, a53, a54, a55, a56, a57, a58, a59]) nl127 _ _ _ _ _ := C
  change PW X (KL D t [a0, a1, a2, a3, a4, a5, a6, a7, a8, a9, a10, a11, a12, a13, a14, a15, a16, a17, a18, a19, a20, a21, a22, a23, a24, a25, a26, a27, a28, a29, a30, a31, a32, a33, a34, a35, a36, a37, a38, a39, a40, a41, a42, a43, a44, a45, a46, a47, a48, a49, a50, a51, a52, a53, a54, a55, a56, a57, a58, a59]) nl127 _ (16, 132630) _ _ [some (Value.ref a43), some (iV ((((((((((((0 + 1) + 1) + 1) + 1) + 1) + 1) + 1) + 1) + 1) + 1) + 1) + 1))] [Value.ref a44] _
  refine pw_iload1 C dX11_init_156 ?_
  refine pw_iload1 C dX11_init_157 ?_
  refine pw_iconst C dX11_init_158 ?_
  refine pw_idiv C (by decide) (by decide) dX11_init_159 ?_
  refine pw_top C 3 (by decide) ?_
  refine pw_iload1 C dX11_init_160 ?_
  refine pw_iconst C dX11_init_161 ?_
  refine pw_irem C (by decide) (by decide) dX11_init_162 ?_
  refine pw_top C 0 (by decide) ?_
  refine pw_icmp_ne (tgt := 170) C dX11_init_163 (by decide) (by decide) (by decide) (fun h => ?_) (fun h => absurd h (by decide))
  refine pw_iconst C dX11_init_170 ?_
  refine pw_iastore C (k := 44) (show nl127[44]? = some (1, 16, []) from rfl) (by decide) (by decide) dX11_init_171 ?_
  refine pw_iinc1 C (by decide) dX11_init_172 ?_
  refine pw_goto (tgt := 146) C dX11_init_175 (by decide) ?_
  refine pw_iload1 C dX11_init_146 ?_
  refine pw_bipush C dX11_init_147 (by decide) ?_
  refine pw_icmp_ge (tgt := 178) C dX11_init_149 (by decide) (by decide) (by decide) (fun h => absurd h (by decide)) (fun h => ?_)
  refine pv_aload C (i := 0) (b := a43) rfl dX11_init_152 ?_
  refine pw_get0 C (k := 43) (show nl127[43]? = some (0, 11, [0, 0, 46, 0, 0, 0, 0, 0, 47, 48, 0, 49, 50, 0, 0, 0, 51, 0, 52, 0, 53, 54, 55, 56, 57, 0, 58, 59, 60, 0, 0, 61, 0, 0]) from rfl) kc_11 gT_wsX110 2 (by decide) rfl fl_X11_16 dX11_init_153 ?_
  have C : CXok X (KL D t [a0, a1, a2, a3, a4, a5, a6, a7, a8, a9, a10, a11, a12, a13, a14, a15, a16, a17, a18, a19, a20, a21, a22, a23, a24, a25, a26, a27, a28, a29, a30, a31, a32, a33, a34, a35, a36, a37, a38, a39, a40, a41, a42, a43, a44, a45, a46, a47, a48, a49, a50, a51, a52, a53, a54, a55, a56, a57, a58, a59]) nl127 _ _ _ _ _ := C
  change PW X (KL D t [a0, a1, a2, a3, a4, a5, a6, a7, a8, a9, a10, a11, a12, a13, a14, a15, a16, a17, a18, a19, a20, a21, a22, a23, a24, a25, a26, a27, a28, a29, a30, a31, a32, a33, a34, a35, a36, a37, a38, a39, a40, a41, a42, a43, a44, a45, a46, a47, a48, a49, a50, a51, a52, a53, a54, a55, a56, a57, a58, a59]) nl127 _ (16, 132630) _ _ [some (Value.ref a43), some (iV (((((((((((((0 + 1) + 1) + 1) + 1) + 1) + 1) + 1) + 1) + 1) + 1) + 1) + 1) + 1))] [Value.ref a44] _
  refine pw_iload1 C dX11_init_156 ?_
  refine pw_iload1 C dX11_init_157 ?_
  refine pw_iconst C dX11_init_158 ?_
  refine pw_idiv C (by decide) (by decide) dX11_init_159 ?_
  refine pw_top C 3 (by decide) ?_
  refine pw_iload1 C dX11_init_160 ?_
  refine pw_iconst C dX11_init_161 ?_
  refine pw_irem C (by decide) (by decide) dX11_init_162 ?_
  refine pw_top C 1 (by decide) ?_
  refine pw_icmp_ne (tgt := 170) C dX11_init_163 (by decide) (by decide) (by decide) (fun h => ?_) (fun h => absurd h (by decide))
  refine pw_iconst C dX11_init_170 ?_
  refine pw_iastore C (k := 44) (show nl127[44]? = some (1, 16, []) from rfl) (by decide) (by decide) dX11_init_171 ?_
  refine pw_iinc1 C (by decide) dX11_init_172 ?_
  refine pw_goto (tgt := 146) C dX11_init_175 (by decide) ?_
  refine pw_iload1 C dX11_init_146 ?_
  refine pw_bipush C dX11_init_147 (by decide) ?_
  refine pw_icmp_ge (tgt := 178) C dX11_init_149 (by decide) (by decide) (by decide) (fun h => absurd h (by decide)) (fun h => ?_)
  refine pv_aload C (i := 0) (b := a43) rfl dX11_init_152 ?_
  refine pw_get0 C (k := 43) (show nl127[43]? = some (0, 11, [0, 0, 46, 0, 0, 0, 0, 0, 47, 48, 0, 49, 50, 0, 0, 0, 51, 0, 52, 0, 53, 54, 55, 56, 57, 0, 58, 59, 60, 0, 0, 61, 0, 0]) from rfl) kc_11 gT_wsX110 2 (by decide) rfl fl_X11_16 dX11_init_153 ?_
  have C : CXok X (KL D t [a0, a1, a2, a3, a4, a5, a6, a7, a8, a9, a10, a11, a12, a13, a14, a15, a16, a17, a18, a19, a20, a21, a22, a23, a24, a25, a26, a27, a28, a29, a30, a31, a32, a33, a34, a35, a36, a37, a38, a39, a40, a41, a42, a43, a44, a45, a46, a47, a48, a49, a50, a51, a52, a53, a54, a55, a56, a57, a58, a59]) nl127 _ _ _ _ _ := C
  change PW X (KL D t [a0, a1, a2, a3, a4, a5, a6, a7, a8, a9, a10, a11, a12, a13, a14, a15, a16, a17, a18, a19, a20, a21, a22, a23, a24, a25, a26, a27, a28, a29, a30, a31, a32, a33, a34, a35, a36, a37, a38, a39, a40, a41, a42, a43, a44, a45, a46, a47, a48, a49, a50, a51, a52, a53, a54, a55, a56, a57, a58, a59]) nl127 _ (16, 132630) _ _ [some (Value.ref a43), some (iV ((((((((((((((0 + 1) + 1) + 1) + 1) + 1) + 1) + 1) + 1) + 1) + 1) + 1) + 1) + 1) + 1))] [Value.ref a44] _
  refine pw_iload1 C dX11_init_156 ?_
  refine pw_iload1 C dX11_init_157 ?_
  refine pw_iconst C dX11_init_158 ?_
  refine pw_idiv C (by decide) (by decide) dX11_init_159 ?_
  refine pw_top C 3 (by decide) ?_
  refine pw_iload1 C dX11_init_160 ?_
  refine pw_iconst C dX11_init_161 ?_
  refine pw_irem C (by decide) (by decide) dX11_init_162 ?_
  refine pw_top C 2 (by decide) ?_
  refine pw_icmp_ne (tgt := 170) C dX11_init_163 (by decide) (by decide) (by decide) (fun h => ?_) (fun h => absurd h (by decide))
  refine pw_iconst C dX11_init_170 ?_
  refine pw_iastore C (k := 44) (show nl127[44]? = some (1, 16, []) from rfl) (by decide) (by decide) dX11_init_171 ?_
  refine pw_iinc1 C (by decide) dX11_init_172 ?_
  refine pw_goto (tgt := 146) C dX11_init_175 (by decide) ?_
  refine pw_iload1 C dX11_init_146 ?_
  refine pw_bipush C dX11_init_147 (by decide) ?_
  refine pw_icmp_ge (tgt := 178) C dX11_init_149 (by decide) (by decide) (by decide) (fun h => absurd h (by decide)) (fun h => ?_)
  refine pv_aload C (i := 0) (b := a43) rfl dX11_init_152 ?_
  refine pw_get0 C (k := 43) (show nl127[43]? = some (0, 11, [0, 0, 46, 0, 0, 0, 0, 0, 47, 48, 0, 49, 50, 0, 0, 0, 51, 0, 52, 0, 53, 54, 55, 56, 57, 0, 58, 59, 60, 0, 0, 61, 0, 0]) from rfl) kc_11 gT_wsX110 2 (by decide) rfl fl_X11_16 dX11_init_153 ?_
  have C : CXok X (KL D t [a0, a1, a2, a3, a4, a5, a6, a7, a8, a9, a10, a11, a12, a13, a14, a15, a16, a17, a18, a19, a20, a21, a22, a23, a24, a25, a26, a27, a28, a29, a30, a31, a32, a33, a34, a35, a36, a37, a38, a39, a40, a41, a42, a43, a44, a45, a46, a47, a48, a49, a50, a51, a52, a53, a54, a55, a56, a57, a58, a59]) nl127 _ _ _ _ _ := C
  change PW X (KL D t [a0, a1, a2, a3, a4, a5, a6, a7, a8, a9, a10, a11, a12, a13, a14, a15, a16, a17, a18, a19, a20, a21, a22, a23, a24, a25, a26, a27, a28, a29, a30, a31, a32, a33, a34, a35, a36, a37, a38, a39, a40, a41, a42, a43, a44, a45, a46, a47, a48, a49, a50, a51, a52, a53, a54, a55, a56, a57, a58, a59]) nl127 _ (16, 132630) _ _ [some (Value.ref a43), some (iV (((((((((((((((0 + 1) + 1) + 1) + 1) + 1) + 1) + 1) + 1) + 1) + 1) + 1) + 1) + 1) + 1) + 1))] [Value.ref a44] _
  refine pw_iload1 C dX11_init_156 ?_
  refine pw_iload1 C dX11_init_157 ?_
  refine pw_iconst C dX11_init_158 ?_
  refine pw_idiv C (by decide) (by decide) dX11_init_159 ?_
  refine pw_top C 3 (by decide) ?_
  refine pw_iload1 C dX11_init_160 ?_
  refine pw_iconst C dX11_init_161 ?_
  refine pw_irem C (by decide) (by decide) dX11_init_162 ?_
  refine pw_top C 3 (by decide) ?_
  refine pw_icmp_ne (tgt := 170) C dX11_init_163 (by decide) (by decide) (by decide) (fun h => absurd h (by decide)) (fun h => ?_)
  refine pw_iconst C dX11_init_166 ?_
  refine pw_goto (tgt := 171) C dX11_init_167 (by decide) ?_
  refine pw_iastore C (k := 44) (show nl127[44]? = some (1, 16, []) from rfl) (by decide) (by decide) dX11_init_171 ?_
  refine pw_iinc1 C (by decide) dX11_init_172 ?_
  refine pw_goto (tgt := 146) C dX11_init_175 (by decide) ?_
  refine pw_iload1 C dX11_init_146 ?_
  refine pw_bipush C dX11_init_147 (by decide) ?_
  refine pw_icmp_ge (tgt := 178) C dX11_init_149 (by decide) (by decide) (by decide) (fun h => ?_) (fun h => absurd h (by decide))
  exact pw_vretN [a44, a45, a46, a47, a48, a49, a50, a51, a52, a53, a54, a55, a56, a57, a58, a59] C rfl rfl (by decide) (by decide) dX11_init_178
