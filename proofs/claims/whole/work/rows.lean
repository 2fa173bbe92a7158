section
-- ===== PART A: goes FIRST, ahead of the names: the tables' words, and 'selects' of the private methods out of them =====
/-- a private method of a class that the tables say can be made, by its rows of tables_1 -/
def lw_okq (q : MethodName × Nat) : Prop := (q.1.cls ≠ "java/lang/invoke/MethodHandle" ∧ q.1.cls ≠ "java/lang/invoke/VarHandle") ∧ Cond.instantiable q.1.cls q.2 ∈ tables_1 ∧ Cond.privateMethod q.1 ∈ tables_1 ∧ Cond.instanceMethod q.1 ∈ tables_1
theorem lw_p0 : lw_okq (⟨"NearWords", "forgetDistances", "()V"⟩, 9) := ⟨⟨by decide +kernel, by decide +kernel⟩, List.mem_of_getElem? (i := 21) (by decide +kernel), List.mem_of_getElem? (i := 390) (by decide +kernel), List.mem_of_getElem? (i := 391) (by decide +kernel)⟩
theorem lw_p1 : lw_okq (⟨"NearWords", "forgetCandidates", "()V"⟩, 9) := ⟨⟨by decide +kernel, by decide +kernel⟩, List.mem_of_getElem? (i := 21) (by decide +kernel), List.mem_of_getElem? (i := 394) (by decide +kernel), List.mem_of_getElem? (i := 395) (by decide +kernel)⟩
theorem lw_p2 : lw_okq (⟨"NearWords", "forgetWords", "()V"⟩, 9) := ⟨⟨by decide +kernel, by decide +kernel⟩, List.mem_of_getElem? (i := 21) (by decide +kernel), List.mem_of_getElem? (i := 442) (by decide +kernel), List.mem_of_getElem? (i := 443) (by decide +kernel)⟩
theorem lw_p3 : lw_okq (⟨"NearWords$Survey", "clear", "()V"⟩, 9) := ⟨⟨by decide +kernel, by decide +kernel⟩, List.mem_of_getElem? (i := 207) (by decide +kernel), List.mem_of_getElem? (i := 491) (by decide +kernel), List.mem_of_getElem? (i := 492) (by decide +kernel)⟩
theorem lw_p4 : lw_okq (⟨"NearWords$Survey", "lookAtAll", "()V"⟩, 9) := ⟨⟨by decide +kernel, by decide +kernel⟩, List.mem_of_getElem? (i := 207) (by decide +kernel), List.mem_of_getElem? (i := 503) (by decide +kernel), List.mem_of_getElem? (i := 504) (by decide +kernel)⟩
theorem lw_p5 : lw_okq (⟨"NearWords$Candidates", "aimAtAll", "(I)V"⟩, 6) := ⟨⟨by decide +kernel, by decide +kernel⟩, List.mem_of_getElem? (i := 132) (by decide +kernel), List.mem_of_getElem? (i := 515) (by decide +kernel), List.mem_of_getElem? (i := 516) (by decide +kernel)⟩
theorem lw_p6 : lw_okq (⟨"NearWords$Walk", "putSwapped", "(I)V"⟩, 9) := ⟨⟨by decide +kernel, by decide +kernel⟩, List.mem_of_getElem? (i := 138) (by decide +kernel), List.mem_of_getElem? (i := 536) (by decide +kernel), List.mem_of_getElem? (i := 537) (by decide +kernel)⟩
theorem lw_p7 : lw_okq (⟨"NearWords$Survey", "lookAtOne", "(LNearWords$Walk;)V"⟩, 9) := ⟨⟨by decide +kernel, by decide +kernel⟩, List.mem_of_getElem? (i := 207) (by decide +kernel), List.mem_of_getElem? (i := 548) (by decide +kernel), List.mem_of_getElem? (i := 549) (by decide +kernel)⟩
theorem lw_p8 : lw_okq (⟨"NearWords$Survey", "addUp", "()V"⟩, 9) := ⟨⟨by decide +kernel, by decide +kernel⟩, List.mem_of_getElem? (i := 207) (by decide +kernel), List.mem_of_getElem? (i := 569) (by decide +kernel), List.mem_of_getElem? (i := 570) (by decide +kernel)⟩
theorem lw_p9 : lw_okq (⟨"NearWords", "keyWithout", "(I)I"⟩, 9) := ⟨⟨by decide +kernel, by decide +kernel⟩, List.mem_of_getElem? (i := 21) (by decide +kernel), List.mem_of_getElem? (i := 588) (by decide +kernel), List.mem_of_getElem? (i := 589) (by decide +kernel)⟩
theorem lw_p10 : lw_okq (⟨"NearWords$Sets", "lookAtAll", "()V"⟩, 7) := ⟨⟨by decide +kernel, by decide +kernel⟩, List.mem_of_getElem? (i := 249) (by decide +kernel), List.mem_of_getElem? (i := 600) (by decide +kernel), List.mem_of_getElem? (i := 601) (by decide +kernel)⟩
theorem lw_p11 : lw_okq (⟨"NearWords$Sets", "sortByDistance", "([II)V"⟩, 7) := ⟨⟨by decide +kernel, by decide +kernel⟩, List.mem_of_getElem? (i := 249) (by decide +kernel), List.mem_of_getElem? (i := 608) (by decide +kernel), List.mem_of_getElem? (i := 609) (by decide +kernel)⟩
theorem lw_p12 : lw_okq (⟨"NearWords$Sets", "holdNearest", "(LNearWords$Walk;)V"⟩, 7) := ⟨⟨by decide +kernel, by decide +kernel⟩, List.mem_of_getElem? (i := 249) (by decide +kernel), List.mem_of_getElem? (i := 612) (by decide +kernel), List.mem_of_getElem? (i := 613) (by decide +kernel)⟩
theorem lw_p13 : lw_okq (⟨"NearWords$Sets", "hold", "(II)V"⟩, 7) := ⟨⟨by decide +kernel, by decide +kernel⟩, List.mem_of_getElem? (i := 249) (by decide +kernel), List.mem_of_getElem? (i := 617) (by decide +kernel), List.mem_of_getElem? (i := 618) (by decide +kernel)⟩
theorem lw_p14 : lw_okq (⟨"NearWords$Sets", "holdSmallerSets", "()V"⟩, 7) := ⟨⟨by decide +kernel, by decide +kernel⟩, List.mem_of_getElem? (i := 249) (by decide +kernel), List.mem_of_getElem? (i := 622) (by decide +kernel), List.mem_of_getElem? (i := 623) (by decide +kernel)⟩
theorem lw_p15 : lw_okq (⟨"NearWords$Sets", "coverAll", "()V"⟩, 7) := ⟨⟨by decide +kernel, by decide +kernel⟩, List.mem_of_getElem? (i := 249) (by decide +kernel), List.mem_of_getElem? (i := 626) (by decide +kernel), List.mem_of_getElem? (i := 627) (by decide +kernel)⟩
def lw_privs_1 : List (MethodName × Nat) := [(⟨"NearWords", "forgetDistances", "()V"⟩, 9), (⟨"NearWords", "forgetCandidates", "()V"⟩, 9), (⟨"NearWords", "forgetWords", "()V"⟩, 9), (⟨"NearWords$Survey", "clear", "()V"⟩, 9), (⟨"NearWords$Survey", "lookAtAll", "()V"⟩, 9), (⟨"NearWords$Candidates", "aimAtAll", "(I)V"⟩, 6), (⟨"NearWords$Walk", "putSwapped", "(I)V"⟩, 9), (⟨"NearWords$Survey", "lookAtOne", "(LNearWords$Walk;)V"⟩, 9), (⟨"NearWords$Survey", "addUp", "()V"⟩, 9), (⟨"NearWords", "keyWithout", "(I)I"⟩, 9), (⟨"NearWords$Sets", "lookAtAll", "()V"⟩, 7), (⟨"NearWords$Sets", "sortByDistance", "([II)V"⟩, 7), (⟨"NearWords$Sets", "holdNearest", "(LNearWords$Walk;)V"⟩, 7), (⟨"NearWords$Sets", "hold", "(II)V"⟩, 7), (⟨"NearWords$Sets", "holdSmallerSets", "()V"⟩, 7), (⟨"NearWords$Sets", "coverAll", "()V"⟩, 7)]
theorem lw_r1 : ∀ q ∈ lw_privs_1, lw_okq q := List.forall_mem_cons.mpr ⟨lw_p0, List.forall_mem_cons.mpr ⟨lw_p1, List.forall_mem_cons.mpr ⟨lw_p2, List.forall_mem_cons.mpr ⟨lw_p3, List.forall_mem_cons.mpr ⟨lw_p4, List.forall_mem_cons.mpr ⟨lw_p5, List.forall_mem_cons.mpr ⟨lw_p6, List.forall_mem_cons.mpr ⟨lw_p7, List.forall_mem_cons.mpr ⟨lw_p8, List.forall_mem_cons.mpr ⟨lw_p9, List.forall_mem_cons.mpr ⟨lw_p10, List.forall_mem_cons.mpr ⟨lw_p11, List.forall_mem_cons.mpr ⟨lw_p12, List.forall_mem_cons.mpr ⟨lw_p13, List.forall_mem_cons.mpr ⟨lw_p14, List.forall_mem_cons.mpr ⟨lw_p15, fun _ h => absurd h List.not_mem_nil⟩⟩⟩⟩⟩⟩⟩⟩⟩⟩⟩⟩⟩⟩⟩⟩
theorem lw_p16 : lw_okq (⟨"NearWords$Sets", "partOnce", "(I)V"⟩, 7) := ⟨⟨by decide +kernel, by decide +kernel⟩, List.mem_of_getElem? (i := 249) (by decide +kernel), List.mem_of_getElem? (i := 634) (by decide +kernel), List.mem_of_getElem? (i := 635) (by decide +kernel)⟩
theorem lw_p17 : lw_okq (⟨"NearWords", "asksWithin", "(I)Z"⟩, 9) := ⟨⟨by decide +kernel, by decide +kernel⟩, List.mem_of_getElem? (i := 21) (by decide +kernel), List.mem_of_getElem? (i := 670) (by decide +kernel), List.mem_of_getElem? (i := 671) (by decide +kernel)⟩
theorem lw_p18 : lw_okq (⟨"NearWords$Middle", "firstLine", "(I)V"⟩, 8) := ⟨⟨by decide +kernel, by decide +kernel⟩, List.mem_of_getElem? (i := 279) (by decide +kernel), List.mem_of_getElem? (i := 715) (by decide +kernel), List.mem_of_getElem? (i := 716) (by decide +kernel)⟩
theorem lw_p19 : lw_okq (⟨"NearWords$Middle", "nextLine", "(III)V"⟩, 8) := ⟨⟨by decide +kernel, by decide +kernel⟩, List.mem_of_getElem? (i := 279) (by decide +kernel), List.mem_of_getElem? (i := 719) (by decide +kernel), List.mem_of_getElem? (i := 720) (by decide +kernel)⟩
theorem lw_p20 : lw_okq (⟨"NearWords$Middle", "leastOfNear", "()I"⟩, 8) := ⟨⟨by decide +kernel, by decide +kernel⟩, List.mem_of_getElem? (i := 279) (by decide +kernel), List.mem_of_getElem? (i := 737) (by decide +kernel), List.mem_of_getElem? (i := 738) (by decide +kernel)⟩
theorem lw_p21 : lw_okq (⟨"NearWords$Middle", "sumFrom", "(I)I"⟩, 8) := ⟨⟨by decide +kernel, by decide +kernel⟩, List.mem_of_getElem? (i := 279) (by decide +kernel), List.mem_of_getElem? (i := 742) (by decide +kernel), List.mem_of_getElem? (i := 743) (by decide +kernel)⟩
theorem lw_p22 : lw_okq (⟨"NearWords$Middle", "search", "(I)V"⟩, 8) := ⟨⟨by decide +kernel, by decide +kernel⟩, List.mem_of_getElem? (i := 279) (by decide +kernel), List.mem_of_getElem? (i := 748) (by decide +kernel), List.mem_of_getElem? (i := 749) (by decide +kernel)⟩
theorem lw_p23 : lw_okq (⟨"NearWords$Middle", "descend", "(II)I"⟩, 8) := ⟨⟨by decide +kernel, by decide +kernel⟩, List.mem_of_getElem? (i := 279) (by decide +kernel), List.mem_of_getElem? (i := 753) (by decide +kernel), List.mem_of_getElem? (i := 754) (by decide +kernel)⟩
theorem lw_p24 : lw_okq (⟨"NearWords$Middle", "put", "(II)I"⟩, 8) := ⟨⟨by decide +kernel, by decide +kernel⟩, List.mem_of_getElem? (i := 279) (by decide +kernel), List.mem_of_getElem? (i := 757) (by decide +kernel), List.mem_of_getElem? (i := 758) (by decide +kernel)⟩
theorem lw_p25 : lw_okq (⟨"NearWords$Middle", "leastEnd", "(III)I"⟩, 8) := ⟨⟨by decide +kernel, by decide +kernel⟩, List.mem_of_getElem? (i := 279) (by decide +kernel), List.mem_of_getElem? (i := 761) (by decide +kernel), List.mem_of_getElem? (i := 762) (by decide +kernel)⟩
theorem lw_p26 : lw_okq (⟨"NearWords$Motif", "descend", "(II)I"⟩, 6) := ⟨⟨by decide +kernel, by decide +kernel⟩, List.mem_of_getElem? (i := 314) (by decide +kernel), List.mem_of_getElem? (i := 809) (by decide +kernel), List.mem_of_getElem? (i := 810) (by decide +kernel)⟩
theorem lw_p27 : lw_okq (⟨"NearWords$Motif", "leastReach", "(II)I"⟩, 6) := ⟨⟨by decide +kernel, by decide +kernel⟩, List.mem_of_getElem? (i := 314) (by decide +kernel), List.mem_of_getElem? (i := 814) (by decide +kernel), List.mem_of_getElem? (i := 815) (by decide +kernel)⟩
theorem lw_p28 : lw_okq (⟨"NearWords$Motif", "leastSum", "(III)I"⟩, 6) := ⟨⟨by decide +kernel, by decide +kernel⟩, List.mem_of_getElem? (i := 314) (by decide +kernel), List.mem_of_getElem? (i := 818) (by decide +kernel), List.mem_of_getElem? (i := 819) (by decide +kernel)⟩
theorem lw_p29 : lw_okq (⟨"java/lang/Throwable", "fillInStackTrace", "(I)Ljava/lang/Throwable;"⟩, 6) := ⟨⟨by decide +kernel, by decide +kernel⟩, List.mem_of_getElem? (i := 887) (by decide +kernel), List.mem_of_getElem? (i := 885) (by decide +kernel), List.mem_of_getElem? (i := 886) (by decide +kernel)⟩
theorem lw_p30 : lw_okq (⟨"NearWordsModel", "changes", "()V"⟩, 34) := ⟨⟨by decide +kernel, by decide +kernel⟩, List.mem_of_getElem? (i := 927) (by decide +kernel), List.mem_of_getElem? (i := 1049) (by decide +kernel), List.mem_of_getElem? (i := 1050) (by decide +kernel)⟩
theorem lw_p31 : lw_okq (⟨"NearWordsModel", "takes", "(II)Z"⟩, 34) := ⟨⟨by decide +kernel, by decide +kernel⟩, List.mem_of_getElem? (i := 927) (by decide +kernel), List.mem_of_getElem? (i := 1077) (by decide +kernel), List.mem_of_getElem? (i := 1078) (by decide +kernel)⟩
def lw_privs_2 : List (MethodName × Nat) := [(⟨"NearWords$Sets", "partOnce", "(I)V"⟩, 7), (⟨"NearWords", "asksWithin", "(I)Z"⟩, 9), (⟨"NearWords$Middle", "firstLine", "(I)V"⟩, 8), (⟨"NearWords$Middle", "nextLine", "(III)V"⟩, 8), (⟨"NearWords$Middle", "leastOfNear", "()I"⟩, 8), (⟨"NearWords$Middle", "sumFrom", "(I)I"⟩, 8), (⟨"NearWords$Middle", "search", "(I)V"⟩, 8), (⟨"NearWords$Middle", "descend", "(II)I"⟩, 8), (⟨"NearWords$Middle", "put", "(II)I"⟩, 8), (⟨"NearWords$Middle", "leastEnd", "(III)I"⟩, 8), (⟨"NearWords$Motif", "descend", "(II)I"⟩, 6), (⟨"NearWords$Motif", "leastReach", "(II)I"⟩, 6), (⟨"NearWords$Motif", "leastSum", "(III)I"⟩, 6), (⟨"java/lang/Throwable", "fillInStackTrace", "(I)Ljava/lang/Throwable;"⟩, 6), (⟨"NearWordsModel", "changes", "()V"⟩, 34), (⟨"NearWordsModel", "takes", "(II)Z"⟩, 34)]
theorem lw_r2 : ∀ q ∈ lw_privs_2, lw_okq q := List.forall_mem_cons.mpr ⟨lw_p16, List.forall_mem_cons.mpr ⟨lw_p17, List.forall_mem_cons.mpr ⟨lw_p18, List.forall_mem_cons.mpr ⟨lw_p19, List.forall_mem_cons.mpr ⟨lw_p20, List.forall_mem_cons.mpr ⟨lw_p21, List.forall_mem_cons.mpr ⟨lw_p22, List.forall_mem_cons.mpr ⟨lw_p23, List.forall_mem_cons.mpr ⟨lw_p24, List.forall_mem_cons.mpr ⟨lw_p25, List.forall_mem_cons.mpr ⟨lw_p26, List.forall_mem_cons.mpr ⟨lw_p27, List.forall_mem_cons.mpr ⟨lw_p28, List.forall_mem_cons.mpr ⟨lw_p29, List.forall_mem_cons.mpr ⟨lw_p30, List.forall_mem_cons.mpr ⟨lw_p31, fun _ h => absurd h List.not_mem_nil⟩⟩⟩⟩⟩⟩⟩⟩⟩⟩⟩⟩⟩⟩⟩⟩
theorem lw_p32 : lw_okq (⟨"NearWordsModel", "isWord", "(I)Z"⟩, 34) := ⟨⟨by decide +kernel, by decide +kernel⟩, List.mem_of_getElem? (i := 927) (by decide +kernel), List.mem_of_getElem? (i := 1089) (by decide +kernel), List.mem_of_getElem? (i := 1090) (by decide +kernel)⟩
theorem lw_p33 : lw_okq (⟨"NearWordsModel", "distance", "([BI[BII)I"⟩, 34) := ⟨⟨by decide +kernel, by decide +kernel⟩, List.mem_of_getElem? (i := 927) (by decide +kernel), List.mem_of_getElem? (i := 1097) (by decide +kernel), List.mem_of_getElem? (i := 1098) (by decide +kernel)⟩
theorem lw_p34 : lw_okq (⟨"NearWordsModel", "nearest", "(I)I"⟩, 34) := ⟨⟨by decide +kernel, by decide +kernel⟩, List.mem_of_getElem? (i := 927) (by decide +kernel), List.mem_of_getElem? (i := 1110) (by decide +kernel), List.mem_of_getElem? (i := 1111) (by decide +kernel)⟩
theorem lw_p35 : lw_okq (⟨"NearWordsModel", "many", "(I)I"⟩, 34) := ⟨⟨by decide +kernel, by decide +kernel⟩, List.mem_of_getElem? (i := 927) (by decide +kernel), List.mem_of_getElem? (i := 1114) (by decide +kernel), List.mem_of_getElem? (i := 1115) (by decide +kernel)⟩
theorem lw_p36 : lw_okq (⟨"NearWordsModel", "knows", "()V"⟩, 34) := ⟨⟨by decide +kernel, by decide +kernel⟩, List.mem_of_getElem? (i := 927) (by decide +kernel), List.mem_of_getElem? (i := 1118) (by decide +kernel), List.mem_of_getElem? (i := 1119) (by decide +kernel)⟩
theorem lw_p37 : lw_okq (⟨"NearWordsModel", "rows", "()I"⟩, 34) := ⟨⟨by decide +kernel, by decide +kernel⟩, List.mem_of_getElem? (i := 927) (by decide +kernel), List.mem_of_getElem? (i := 1122) (by decide +kernel), List.mem_of_getElem? (i := 1123) (by decide +kernel)⟩
theorem lw_p38 : lw_okq (⟨"NearWordsModel", "lays", "(II)V"⟩, 34) := ⟨⟨by decide +kernel, by decide +kernel⟩, List.mem_of_getElem? (i := 927) (by decide +kernel), List.mem_of_getElem? (i := 1129) (by decide +kernel), List.mem_of_getElem? (i := 1130) (by decide +kernel)⟩
theorem lw_p39 : lw_okq (⟨"NearWordsModel", "isCandidate", "(I)Z"⟩, 34) := ⟨⟨by decide +kernel, by decide +kernel⟩, List.mem_of_getElem? (i := 927) (by decide +kernel), List.mem_of_getElem? (i := 1133) (by decide +kernel), List.mem_of_getElem? (i := 1134) (by decide +kernel)⟩
theorem lw_p40 : lw_okq (⟨"NearWordsModel", "radius", "(I)I"⟩, 34) := ⟨⟨by decide +kernel, by decide +kernel⟩, List.mem_of_getElem? (i := 927) (by decide +kernel), List.mem_of_getElem? (i := 1137) (by decide +kernel), List.mem_of_getElem? (i := 1138) (by decide +kernel)⟩
theorem lw_p41 : lw_okq (⟨"NearWordsModel", "radiusBut", "(II)I"⟩, 34) := ⟨⟨by decide +kernel, by decide +kernel⟩, List.mem_of_getElem? (i := 927) (by decide +kernel), List.mem_of_getElem? (i := 1142) (by decide +kernel), List.mem_of_getElem? (i := 1143) (by decide +kernel)⟩
theorem lw_p42 : lw_okq (⟨"NearWordsModel", "letterOf", "(II)I"⟩, 34) := ⟨⟨by decide +kernel, by decide +kernel⟩, List.mem_of_getElem? (i := 927) (by decide +kernel), List.mem_of_getElem? (i := 1150) (by decide +kernel), List.mem_of_getElem? (i := 1151) (by decide +kernel)⟩
theorem lw_p43 : lw_okq (⟨"NearWordsModel", "isAsked", "(I)Z"⟩, 34) := ⟨⟨by decide +kernel, by decide +kernel⟩, List.mem_of_getElem? (i := 927) (by decide +kernel), List.mem_of_getElem? (i := 1166) (by decide +kernel), List.mem_of_getElem? (i := 1167) (by decide +kernel)⟩
theorem lw_p44 : lw_okq (⟨"NearWordsModel", "coreOf", "(I)I"⟩, 34) := ⟨⟨by decide +kernel, by decide +kernel⟩, List.mem_of_getElem? (i := 927) (by decide +kernel), List.mem_of_getElem? (i := 1178) (by decide +kernel), List.mem_of_getElem? (i := 1179) (by decide +kernel)⟩
theorem lw_p45 : lw_okq (⟨"NearWordsModel", "holds", "(I)V"⟩, 34) := ⟨⟨by decide +kernel, by decide +kernel⟩, List.mem_of_getElem? (i := 927) (by decide +kernel), List.mem_of_getElem? (i := 1182) (by decide +kernel), List.mem_of_getElem? (i := 1183) (by decide +kernel)⟩
theorem lw_p46 : lw_okq (⟨"NearWordsModel", "nearBits", "()I"⟩, 34) := ⟨⟨by decide +kernel, by decide +kernel⟩, List.mem_of_getElem? (i := 927) (by decide +kernel), List.mem_of_getElem? (i := 1186) (by decide +kernel), List.mem_of_getElem? (i := 1187) (by decide +kernel)⟩
theorem lw_p47 : lw_okq (⟨"NearWordsModel", "coverOf", "(I)I"⟩, 34) := ⟨⟨by decide +kernel, by decide +kernel⟩, List.mem_of_getElem? (i := 927) (by decide +kernel), List.mem_of_getElem? (i := 1201) (by decide +kernel), List.mem_of_getElem? (i := 1202) (by decide +kernel)⟩
def lw_privs_3 : List (MethodName × Nat) := [(⟨"NearWordsModel", "isWord", "(I)Z"⟩, 34), (⟨"NearWordsModel", "distance", "([BI[BII)I"⟩, 34), (⟨"NearWordsModel", "nearest", "(I)I"⟩, 34), (⟨"NearWordsModel", "many", "(I)I"⟩, 34), (⟨"NearWordsModel", "knows", "()V"⟩, 34), (⟨"NearWordsModel", "rows", "()I"⟩, 34), (⟨"NearWordsModel", "lays", "(II)V"⟩, 34), (⟨"NearWordsModel", "isCandidate", "(I)Z"⟩, 34), (⟨"NearWordsModel", "radius", "(I)I"⟩, 34), (⟨"NearWordsModel", "radiusBut", "(II)I"⟩, 34), (⟨"NearWordsModel", "letterOf", "(II)I"⟩, 34), (⟨"NearWordsModel", "isAsked", "(I)Z"⟩, 34), (⟨"NearWordsModel", "coreOf", "(I)I"⟩, 34), (⟨"NearWordsModel", "holds", "(I)V"⟩, 34), (⟨"NearWordsModel", "nearBits", "()I"⟩, 34), (⟨"NearWordsModel", "coverOf", "(I)I"⟩, 34)]
theorem lw_r3 : ∀ q ∈ lw_privs_3, lw_okq q := List.forall_mem_cons.mpr ⟨lw_p32, List.forall_mem_cons.mpr ⟨lw_p33, List.forall_mem_cons.mpr ⟨lw_p34, List.forall_mem_cons.mpr ⟨lw_p35, List.forall_mem_cons.mpr ⟨lw_p36, List.forall_mem_cons.mpr ⟨lw_p37, List.forall_mem_cons.mpr ⟨lw_p38, List.forall_mem_cons.mpr ⟨lw_p39, List.forall_mem_cons.mpr ⟨lw_p40, List.forall_mem_cons.mpr ⟨lw_p41, List.forall_mem_cons.mpr ⟨lw_p42, List.forall_mem_cons.mpr ⟨lw_p43, List.forall_mem_cons.mpr ⟨lw_p44, List.forall_mem_cons.mpr ⟨lw_p45, List.forall_mem_cons.mpr ⟨lw_p46, List.forall_mem_cons.mpr ⟨lw_p47, fun _ h => absurd h List.not_mem_nil⟩⟩⟩⟩⟩⟩⟩⟩⟩⟩⟩⟩⟩⟩⟩⟩
theorem lw_p48 : lw_okq (⟨"NearWordsModel", "leastSum", "()I"⟩, 34) := ⟨⟨by decide +kernel, by decide +kernel⟩, List.mem_of_getElem? (i := 927) (by decide +kernel), List.mem_of_getElem? (i := 1213) (by decide +kernel), List.mem_of_getElem? (i := 1214) (by decide +kernel)⟩
theorem lw_p49 : lw_okq (⟨"NearWordsModel", "sumOf", "(I)I"⟩, 34) := ⟨⟨by decide +kernel, by decide +kernel⟩, List.mem_of_getElem? (i := 927) (by decide +kernel), List.mem_of_getElem? (i := 1217) (by decide +kernel), List.mem_of_getElem? (i := 1218) (by decide +kernel)⟩
theorem lw_p50 : lw_okq (⟨"NearWordsModel", "edits", "([BII[BII)I"⟩, 34) := ⟨⟨by decide +kernel, by decide +kernel⟩, List.mem_of_getElem? (i := 927) (by decide +kernel), List.mem_of_getElem? (i := 1233) (by decide +kernel), List.mem_of_getElem? (i := 1234) (by decide +kernel)⟩
theorem lw_p51 : lw_okq (⟨"NearWordsModel", "hasMiddle", "()Z"⟩, 34) := ⟨⟨by decide +kernel, by decide +kernel⟩, List.mem_of_getElem? (i := 927) (by decide +kernel), List.mem_of_getElem? (i := 1245) (by decide +kernel), List.mem_of_getElem? (i := 1246) (by decide +kernel)⟩
theorem lw_p52 : lw_okq (⟨"NearWordsModel", "tries", "(II)V"⟩, 34) := ⟨⟨by decide +kernel, by decide +kernel⟩, List.mem_of_getElem? (i := 927) (by decide +kernel), List.mem_of_getElem? (i := 1249) (by decide +kernel), List.mem_of_getElem? (i := 1250) (by decide +kernel)⟩
theorem lw_p53 : lw_okq (⟨"NearWordsModel", "goesOn", "(II)V"⟩, 34) := ⟨⟨by decide +kernel, by decide +kernel⟩, List.mem_of_getElem? (i := 927) (by decide +kernel), List.mem_of_getElem? (i := 1253) (by decide +kernel), List.mem_of_getElem? (i := 1254) (by decide +kernel)⟩
theorem lw_p54 : lw_okq (⟨"NearWordsModel", "hasMotif", "(I)Z"⟩, 34) := ⟨⟨by decide +kernel, by decide +kernel⟩, List.mem_of_getElem? (i := 927) (by decide +kernel), List.mem_of_getElem? (i := 1269) (by decide +kernel), List.mem_of_getElem? (i := 1270) (by decide +kernel)⟩
theorem lw_p55 : lw_okq (⟨"NearWordsModel", "pieceFar", "(II)I"⟩, 34) := ⟨⟨by decide +kernel, by decide +kernel⟩, List.mem_of_getElem? (i := 927) (by decide +kernel), List.mem_of_getElem? (i := 1273) (by decide +kernel), List.mem_of_getElem? (i := 1274) (by decide +kernel)⟩
theorem lw_p56 : lw_okq (⟨"NearWordsModel", "nearestPiece", "(II)I"⟩, 34) := ⟨⟨by decide +kernel, by decide +kernel⟩, List.mem_of_getElem? (i := 927) (by decide +kernel), List.mem_of_getElem? (i := 1285) (by decide +kernel), List.mem_of_getElem? (i := 1286) (by decide +kernel)⟩
def lw_privs_4 : List (MethodName × Nat) := [(⟨"NearWordsModel", "leastSum", "()I"⟩, 34), (⟨"NearWordsModel", "sumOf", "(I)I"⟩, 34), (⟨"NearWordsModel", "edits", "([BII[BII)I"⟩, 34), (⟨"NearWordsModel", "hasMiddle", "()Z"⟩, 34), (⟨"NearWordsModel", "tries", "(II)V"⟩, 34), (⟨"NearWordsModel", "goesOn", "(II)V"⟩, 34), (⟨"NearWordsModel", "hasMotif", "(I)Z"⟩, 34), (⟨"NearWordsModel", "pieceFar", "(II)I"⟩, 34), (⟨"NearWordsModel", "nearestPiece", "(II)I"⟩, 34)]
theorem lw_r4 : ∀ q ∈ lw_privs_4, lw_okq q := List.forall_mem_cons.mpr ⟨lw_p48, List.forall_mem_cons.mpr ⟨lw_p49, List.forall_mem_cons.mpr ⟨lw_p50, List.forall_mem_cons.mpr ⟨lw_p51, List.forall_mem_cons.mpr ⟨lw_p52, List.forall_mem_cons.mpr ⟨lw_p53, List.forall_mem_cons.mpr ⟨lw_p54, List.forall_mem_cons.mpr ⟨lw_p55, List.forall_mem_cons.mpr ⟨lw_p56, fun _ h => absurd h List.not_mem_nil⟩⟩⟩⟩⟩⟩⟩⟩⟩
def lw_privs : List (MethodName × Nat) := lw_privs_1 ++ (lw_privs_2 ++ (lw_privs_3 ++ (lw_privs_4)))
def lw_tbl : List Cond := k2_sels lw_privs ++ tables_1
theorem lw_privs_ok : ∀ q ∈ lw_privs, lw_okq q := by
  show ∀ q ∈ lw_privs_1 ++ (lw_privs_2 ++ (lw_privs_3 ++ (lw_privs_4))), lw_okq q
  exact List.forall_mem_append.mpr ⟨lw_r1, List.forall_mem_append.mpr ⟨lw_r2, List.forall_mem_append.mpr ⟨lw_r3, lw_r4⟩⟩⟩
end
section
/-! ===== BEGIN words of one list among another's, by their places ===== -/
theorem goodIn_r {big : List Cond} (ws : List Cond) (ps : List Nat) (hp : ws = ps.filterMap (fun i => big[i]?)) (h : ws.all goodWord = true) : GoodIn big ws := by
  intro w hw
  have h1 := List.all_eq_true.mp h w hw
  rw [hp] at hw
  obtain ⟨i, -, hi⟩ := List.mem_filterMap.mp hw
  have hm : w ∈ big := by first | exact List.mem_of_getElem? hi | exact List.getElem?_mem hi
  exact ⟨hm, good_of_word h1⟩
theorem goodIn_app {big a b : List Cond} (ha : GoodIn big a) (hb : GoodIn big b) : GoodIn big (a ++ b) := fun w h => (List.mem_append.mp h).elim (ha w) (hb w)
theorem goodIn_ca {big a b : List Cond} {c : Cond} (ha : GoodIn big (c :: a)) (hb : GoodIn big b) : GoodIn big (c :: (a ++ b)) := fun w h => (List.mem_cons.mp h).elim (fun e => ha w (List.mem_cons.mpr (Or.inl e))) (fun h => (List.mem_append.mp h).elim (fun h => ha w (List.mem_cons.mpr (Or.inr h))) (hb w))
theorem goodIn_sub {big ws : List Cond} (hm : ∀ w ∈ ws, w ∈ big) (h : ws.all goodWord = true) : GoodIn big ws := fun w hw => ⟨hm w hw, good_of_word (List.all_eq_true.mp h w hw)⟩
/-! ===== END ===== -/
def RX0 : String := "NearWords$Candidates"
def TX0 : u_T := fun k => match k with
  | 0 => ("NearWords$Candidates", "words", "LNearWords$Words;", true)
  | 1 => ("NearWords$Candidates", "walk", "LNearWords$Walk;", true)
  | 2 => ("NearWords$Candidates", "near", "I", false)
  | 3 => ("NearWords$Candidates", "bits", "[I", true)
  | 4 => ("NearWords$Candidates", "rules", "LNearWords$Rules;", true)
  | _ => ("NearWords$Candidates", "row", "[I", true)
def tyX0 : Nat → FieldType := fun k => match k with
  | 0 => .object "NearWords$Words"
  | 1 => .object "NearWords$Walk"
  | 2 => .int
  | 3 => .array .int
  | 4 => .object "NearWords$Rules"
  | _ => .array .int
abbrev wsX00 : List Cond := u_ws RX0 TX0 6
theorem nmX0 : ∀ a, a < 6 → ∀ b, b < 6 → a ≠ b → (TX0 a).2.1 ≠ (TX0 b).2.1 := by decide +kernel
theorem tyX0_ok : ∀ k, k < 6 → parseFieldDescriptor (TX0 k).2.2.1 = some (tyX0 k) := by decide +kernel
abbrev cX0_init : ByteArray := prog_2_method_1_code
def yX0_init : MethodName := ⟨RX0, "<init>", "(LNearWords$Rules;LNearWords$Words;)V"⟩
abbrev cX0_begin : ByteArray := prog_2_method_2_code
def yX0_begin : MethodName := ⟨RX0, "begin", "()I"⟩
abbrev cX0_aimAtAll : ByteArray := prog_2_method_3_code
def yX0_aimAtAll : MethodName := ⟨RX0, "aimAtAll", "(I)V"⟩
abbrev cX0_isFarEnough : ByteArray := prog_2_method_4_code
def yX0_isFarEnough : MethodName := ⟨RX0, "isFarEnough", "()Z"⟩
abbrev cX0_furtherThan : ByteArray := prog_2_method_5_code
def yX0_furtherThan : MethodName := ⟨RX0, "furtherThan", "(II)I"⟩
def RX1 : String := "NearWords$Middle"
def TX1 : u_T := fun k => match k with
  | 0 => ("NearWords$Middle", "fresh", "Z", false)
  | 1 => ("NearWords$Middle", "sum", "I", false)
  | 2 => ("NearWords$Middle", "length", "I", false)
  | 3 => ("NearWords$Middle", "found", "[I", true)
  | 4 => ("NearWords$Middle", "rules", "LNearWords$Rules;", true)
  | 5 => ("NearWords$Middle", "words", "LNearWords$Words;", true)
  | 6 => ("NearWords$Middle", "row", "[I", true)
  | _ => ("NearWords$Middle", "lines", "[I", true)
def tyX1 : Nat → FieldType := fun k => match k with
  | 0 => .boolean
  | 1 => .int
  | 2 => .int
  | 3 => .array .int
  | 4 => .object "NearWords$Rules"
  | 5 => .object "NearWords$Words"
  | 6 => .array .int
  | _ => .array .int
abbrev wsX10 : List Cond := u_ws RX1 TX1 8
theorem nmX1 : ∀ a, a < 8 → ∀ b, b < 8 → a ≠ b → (TX1 a).2.1 ≠ (TX1 b).2.1 := by decide +kernel
theorem tyX1_ok : ∀ k, k < 8 → parseFieldDescriptor (TX1 k).2.2.1 = some (tyX1 k) := by decide +kernel
abbrev cX1_init : ByteArray := prog_3_method_1_code
def yX1_init : MethodName := ⟨RX1, "<init>", "(LNearWords$Rules;LNearWords$Words;)V"⟩
abbrev cX1_editing : ByteArray := prog_3_method_2_code
def yX1_editing : MethodName := ⟨RX1, "editing", "([IIII)I"⟩
abbrev cX1_firstLine : ByteArray := prog_3_method_3_code
def yX1_firstLine : MethodName := ⟨RX1, "firstLine", "(I)V"⟩
abbrev cX1_nextLine : ByteArray := prog_3_method_4_code
def yX1_nextLine : MethodName := ⟨RX1, "nextLine", "(III)V"⟩
abbrev cX1_refresh : ByteArray := prog_3_method_5_code
def yX1_refresh : MethodName := ⟨RX1, "refresh", "()V"⟩
abbrev cX1_leastOfNear : ByteArray := prog_3_method_6_code
def yX1_leastOfNear : MethodName := ⟨RX1, "leastOfNear", "()I"⟩
abbrev cX1_sumFrom : ByteArray := prog_3_method_7_code
def yX1_sumFrom : MethodName := ⟨RX1, "sumFrom", "(I)I"⟩
abbrev cX1_search : ByteArray := prog_3_method_8_code
def yX1_search : MethodName := ⟨RX1, "search", "(I)V"⟩
abbrev cX1_descend : ByteArray := prog_3_method_9_code
def yX1_descend : MethodName := ⟨RX1, "descend", "(II)I"⟩
abbrev cX1_put : ByteArray := prog_3_method_10_code
def yX1_put : MethodName := ⟨RX1, "put", "(II)I"⟩
abbrev cX1_leastEnd : ByteArray := prog_3_method_11_code
def yX1_leastEnd : MethodName := ⟨RX1, "leastEnd", "(III)I"⟩
def RX2 : String := "NearWords$Motif"
def TX2 : u_T := fun k => match k with
  | 0 => ("NearWords$Motif", "reach", "[I", true)
  | 1 => ("NearWords$Motif", "found", "[I", true)
  | 2 => ("NearWords$Motif", "rules", "LNearWords$Rules;", true)
  | 3 => ("NearWords$Motif", "texts", "LNearWords$Texts;", true)
  | 4 => ("NearWords$Motif", "walk", "LNearWords$Walk;", true)
  | _ => ("NearWords$Motif", "row", "[I", true)
def tyX2 : Nat → FieldType := fun k => match k with
  | 0 => .array .int
  | 1 => .array .int
  | 2 => .object "NearWords$Rules"
  | 3 => .object "NearWords$Texts"
  | 4 => .object "NearWords$Walk"
  | _ => .array .int
abbrev wsX20 : List Cond := u_ws RX2 TX2 6
theorem nmX2 : ∀ a, a < 6 → ∀ b, b < 6 → a ≠ b → (TX2 a).2.1 ≠ (TX2 b).2.1 := by decide +kernel
theorem tyX2_ok : ∀ k, k < 6 → parseFieldDescriptor (TX2 k).2.2.1 = some (tyX2 k) := by decide +kernel
abbrev cX2_init : ByteArray := prog_4_method_1_code
def yX2_init : MethodName := ⟨RX2, "<init>", "(LNearWords$Rules;LNearWords$Texts;)V"⟩
abbrev cX2_forget : ByteArray := prog_4_method_2_code
def yX2_forget : MethodName := ⟨RX2, "forget", "()V"⟩
abbrev cX2_refresh : ByteArray := prog_4_method_3_code
def yX2_refresh : MethodName := ⟨RX2, "refresh", "(I)V"⟩
abbrev cX2_descend : ByteArray := prog_4_method_4_code
def yX2_descend : MethodName := ⟨RX2, "descend", "(II)I"⟩
abbrev cX2_leastReach : ByteArray := prog_4_method_5_code
def yX2_leastReach : MethodName := ⟨RX2, "leastReach", "(II)I"⟩
abbrev cX2_leastSum : ByteArray := prog_4_method_6_code
def yX2_leastSum : MethodName := ⟨RX2, "leastSum", "(III)I"⟩
abbrev cX2_nearestPiece : ByteArray := prog_4_method_7_code
def yX2_nearestPiece : MethodName := ⟨RX2, "nearestPiece", "(II)I"⟩
def RX3 : String := "NearWords$Rules"
def TX3 : u_T := fun k => match k with
  | 0 => ("NearWords$Rules", "letters", "I", false)
  | 1 => ("NearWords$Rules", "swap", "I", false)
  | 2 => ("NearWords$Rules", "drop", "I", false)
  | 3 => ("NearWords$Rules", "gap", "I", false)
  | _ => ("NearWords$Rules", "prices", "[I", true)
def tyX3 : Nat → FieldType := fun k => match k with
  | 0 => .int
  | 1 => .int
  | 2 => .int
  | 3 => .int
  | _ => .array .int
abbrev wsX30 : List Cond := u_ws RX3 TX3 5
theorem nmX3 : ∀ a, a < 5 → ∀ b, b < 5 → a ≠ b → (TX3 a).2.1 ≠ (TX3 b).2.1 := by decide +kernel
theorem tyX3_ok : ∀ k, k < 5 → parseFieldDescriptor (TX3 k).2.2.1 = some (tyX3 k) := by decide +kernel
abbrev cX3_init : ByteArray := prog_5_method_1_code
def yX3_init : MethodName := ⟨RX3, "<init>", "()V"⟩
abbrev cX3_setPrice : ByteArray := prog_5_method_2_code
def yX3_setPrice : MethodName := ⟨RX3, "setPrice", "(III)V"⟩
abbrev cX3_distance : ByteArray := prog_5_method_3_code
def yX3_distance : MethodName := ⟨RX3, "distance", "([II[III)I"⟩
abbrev cX3_rowsOf : ByteArray := prog_5_method_4_code
def yX3_rowsOf : MethodName := ⟨RX3, "rowsOf", "(I)I"⟩
abbrev cX3_advance : ByteArray := prog_5_method_5_code
def yX3_advance : MethodName := ⟨RX3, "advance", "([III)I"⟩
def RX4 : String := "NearWords$Sets"
def TX4 : u_T := fun k => match k with
  | 0 => ("NearWords$Sets", "fresh", "Z", false)
  | 1 => ("NearWords$Sets", "covered", "[I", true)
  | 2 => ("NearWords$Sets", "candidates", "LNearWords$Candidates;", true)
  | 3 => ("NearWords$Sets", "keys", "[I", true)
  | 4 => ("NearWords$Sets", "parted", "[I", true)
  | 5 => ("NearWords$Sets", "order", "[I", true)
  | _ => ("NearWords$Sets", "nearBits", "I", false)
def tyX4 : Nat → FieldType := fun k => match k with
  | 0 => .boolean
  | 1 => .array .int
  | 2 => .object "NearWords$Candidates"
  | 3 => .array .int
  | 4 => .array .int
  | 5 => .array .int
  | _ => .int
abbrev wsX40 : List Cond := u_ws RX4 TX4 7
theorem nmX4 : ∀ a, a < 7 → ∀ b, b < 7 → a ≠ b → (TX4 a).2.1 ≠ (TX4 b).2.1 := by decide +kernel
theorem tyX4_ok : ∀ k, k < 7 → parseFieldDescriptor (TX4 k).2.2.1 = some (tyX4 k) := by decide +kernel
abbrev cX4_init : ByteArray := prog_6_method_1_code
def yX4_init : MethodName := ⟨RX4, "<init>", "(LNearWords$Candidates;)V"⟩
abbrev cX4_reachOf : ByteArray := prog_6_method_2_code
def yX4_reachOf : MethodName := ⟨RX4, "reachOf", "(I)I"⟩
abbrev cX4_rowOf : ByteArray := prog_6_method_3_code
def yX4_rowOf : MethodName := ⟨RX4, "rowOf", "(I)I"⟩
abbrev cX4_refresh : ByteArray := prog_6_method_4_code
def yX4_refresh : MethodName := ⟨RX4, "refresh", "()V"⟩
abbrev cX4_lookAtAll : ByteArray := prog_6_method_5_code
def yX4_lookAtAll : MethodName := ⟨RX4, "lookAtAll", "()V"⟩
abbrev cX4_sortByDistance : ByteArray := prog_6_method_6_code
def yX4_sortByDistance : MethodName := ⟨RX4, "sortByDistance", "([II)V"⟩
abbrev cX4_holdNearest : ByteArray := prog_6_method_7_code
def yX4_holdNearest : MethodName := ⟨RX4, "holdNearest", "(LNearWords$Walk;)V"⟩
abbrev cX4_hold : ByteArray := prog_6_method_8_code
def yX4_hold : MethodName := ⟨RX4, "hold", "(II)V"⟩
abbrev cX4_holdSmallerSets : ByteArray := prog_6_method_9_code
def yX4_holdSmallerSets : MethodName := ⟨RX4, "holdSmallerSets", "()V"⟩
abbrev cX4_coverAll : ByteArray := prog_6_method_10_code
def yX4_coverAll : MethodName := ⟨RX4, "coverAll", "()V"⟩
abbrev cX4_partOnce : ByteArray := prog_6_method_11_code
def yX4_partOnce : MethodName := ⟨RX4, "partOnce", "(I)V"⟩
abbrev cX4_leastWithout : ByteArray := prog_6_method_12_code
def yX4_leastWithout : MethodName := ⟨RX4, "leastWithout", "(I)I"⟩
abbrev cX4_leastNotHeld : ByteArray := prog_6_method_13_code
def yX4_leastNotHeld : MethodName := ⟨RX4, "leastNotHeld", "(I)I"⟩
abbrev cX4_fewestSets : ByteArray := prog_6_method_14_code
def yX4_fewestSets : MethodName := ⟨RX4, "fewestSets", "(I)I"⟩
def RX5 : String := "NearWords$Survey"
def TX5 : u_T := fun k => match k with
  | 0 => ("NearWords$Survey", "fresh", "Z", false)
  | 1 => ("NearWords$Survey", "radius", "I", false)
  | 2 => ("NearWords$Survey", "centreRow", "I", false)
  | 3 => ("NearWords$Survey", "sum", "I", false)
  | 4 => ("NearWords$Survey", "medianRow", "I", false)
  | 5 => ("NearWords$Survey", "medians", "I", false)
  | 6 => ("NearWords$Survey", "counts", "[I", true)
  | 7 => ("NearWords$Survey", "seen", "[I", true)
  | _ => ("NearWords$Survey", "candidates", "LNearWords$Candidates;", true)
def tyX5 : Nat → FieldType := fun k => match k with
  | 0 => .boolean
  | 1 => .int
  | 2 => .int
  | 3 => .int
  | 4 => .int
  | 5 => .int
  | 6 => .array .int
  | 7 => .array .int
  | _ => .object "NearWords$Candidates"
abbrev wsX50 : List Cond := u_ws RX5 TX5 9
theorem nmX5 : ∀ a, a < 9 → ∀ b, b < 9 → a ≠ b → (TX5 a).2.1 ≠ (TX5 b).2.1 := by decide +kernel
theorem tyX5_ok : ∀ k, k < 9 → parseFieldDescriptor (TX5 k).2.2.1 = some (tyX5 k) := by decide +kernel
abbrev cX5_init : ByteArray := prog_7_method_1_code
def yX5_init : MethodName := ⟨RX5, "<init>", "(LNearWords$Candidates;)V"⟩
abbrev cX5_refresh : ByteArray := prog_7_method_2_code
def yX5_refresh : MethodName := ⟨RX5, "refresh", "()V"⟩
abbrev cX5_clear : ByteArray := prog_7_method_3_code
def yX5_clear : MethodName := ⟨RX5, "clear", "()V"⟩
abbrev cX5_lookAtAll : ByteArray := prog_7_method_4_code
def yX5_lookAtAll : MethodName := ⟨RX5, "lookAtAll", "()V"⟩
abbrev cX5_lookAtOne : ByteArray := prog_7_method_5_code
def yX5_lookAtOne : MethodName := ⟨RX5, "lookAtOne", "(LNearWords$Walk;)V"⟩
abbrev cX5_addUp : ByteArray := prog_7_method_6_code
def yX5_addUp : MethodName := ⟨RX5, "addUp", "()V"⟩
def RX6 : String := "NearWords$Tape"
def TX6 : u_T := fun k => match k with
  | 0 => ("NearWords$Tape", "size", "I", false)
  | 1 => ("NearWords$Tape", "row", "[I", true)
  | _ => ("NearWords$Tape", "bytes", "[B", true)
def tyX6 : Nat → FieldType := fun k => match k with
  | 0 => .int
  | 1 => .array .int
  | _ => .array .byte
abbrev wsX60 : List Cond := u_ws RX6 TX6 3
theorem nmX6 : ∀ a, a < 3 → ∀ b, b < 3 → a ≠ b → (TX6 a).2.1 ≠ (TX6 b).2.1 := by decide +kernel
theorem tyX6_ok : ∀ k, k < 3 → parseFieldDescriptor (TX6 k).2.2.1 = some (tyX6 k) := by decide +kernel
abbrev cX6_init : ByteArray := prog_8_method_1_code
def yX6_init : MethodName := ⟨RX6, "<init>", "()V"⟩
abbrev cX6_add : ByteArray := prog_8_method_2_code
def yX6_add : MethodName := ⟨RX6, "add", "(I)V"⟩
abbrev cX6_take : ByteArray := prog_8_method_3_code
def yX6_take : MethodName := ⟨RX6, "take", "(I)I"⟩
def RX7 : String := "NearWords$Texts"
def TX7 : u_T := fun k => match k with
  | 0 => ("NearWords$Texts", "size", "I", false)
  | 1 => ("NearWords$Texts", "rows", "[I", true)
  | _ => ("NearWords$Texts", "lengths", "[I", true)
def tyX7 : Nat → FieldType := fun k => match k with
  | 0 => .int
  | 1 => .array .int
  | _ => .array .int
abbrev wsX70 : List Cond := u_ws RX7 TX7 3
theorem nmX7 : ∀ a, a < 3 → ∀ b, b < 3 → a ≠ b → (TX7 a).2.1 ≠ (TX7 b).2.1 := by decide +kernel
theorem tyX7_ok : ∀ k, k < 3 → parseFieldDescriptor (TX7 k).2.2.1 = some (tyX7 k) := by decide +kernel
abbrev cX7_init : ByteArray := prog_9_method_1_code
def yX7_init : MethodName := ⟨RX7, "<init>", "()V"⟩
abbrev cX7_has : ByteArray := prog_9_method_2_code
def yX7_has : MethodName := ⟨RX7, "has", "(I)Z"⟩
abbrev cX7_start : ByteArray := prog_9_method_3_code
def yX7_start : MethodName := ⟨RX7, "start", "(I)I"⟩
abbrev cX7_add : ByteArray := prog_9_method_4_code
def yX7_add : MethodName := ⟨RX7, "add", "([II)V"⟩
abbrev cX7_allHave : ByteArray := prog_9_method_5_code
def yX7_allHave : MethodName := ⟨RX7, "allHave", "(I)Z"⟩
abbrev cX7_piecesOf : ByteArray := prog_9_method_6_code
def yX7_piecesOf : MethodName := ⟨RX7, "piecesOf", "(II)I"⟩
def RX8 : String := "NearWords$Walk"
def TX8 : u_T := fun k => match k with
  | 0 => ("NearWords$Walk", "length", "I", false)
  | 1 => ("NearWords$Walk", "targets", "I", false)
  | 2 => ("NearWords$Walk", "row", "[I", true)
  | 3 => ("NearWords$Walk", "sums", "[I", true)
  | 4 => ("NearWords$Walk", "width", "I", true)
  | 5 => ("NearWords$Walk", "rules", "LNearWords$Rules;", true)
  | 6 => ("NearWords$Walk", "aims", "[I", true)
  | 7 => ("NearWords$Walk", "packed", "[I", true)
  | _ => ("NearWords$Walk", "spots", "[I", true)
def tyX8 : Nat → FieldType := fun k => match k with
  | 0 => .int
  | 1 => .int
  | 2 => .array .int
  | 3 => .array .int
  | 4 => .int
  | 5 => .object "NearWords$Rules"
  | 6 => .array .int
  | 7 => .array .int
  | _ => .array .int
abbrev wsX80 : List Cond := u_ws RX8 TX8 9
theorem nmX8 : ∀ a, a < 9 → ∀ b, b < 9 → a ≠ b → (TX8 a).2.1 ≠ (TX8 b).2.1 := by decide +kernel
theorem tyX8_ok : ∀ k, k < 9 → parseFieldDescriptor (TX8 k).2.2.1 = some (tyX8 k) := by decide +kernel
abbrev cX8_init : ByteArray := prog_10_method_1_code
def yX8_init : MethodName := ⟨RX8, "<init>", "(LNearWords$Rules;II)V"⟩
abbrev cX8_letterAt : ByteArray := prog_10_method_2_code
def yX8_letterAt : MethodName := ⟨RX8, "letterAt", "(III)I"⟩
abbrev cX8_spotAt : ByteArray := prog_10_method_3_code
def yX8_spotAt : MethodName := ⟨RX8, "spotAt", "(II)I"⟩
abbrev cX8_begin : ByteArray := prog_10_method_4_code
def yX8_begin : MethodName := ⟨RX8, "begin", "(I)V"⟩
abbrev cX8_aimAt : ByteArray := prog_10_method_5_code
def yX8_aimAt : MethodName := ⟨RX8, "aimAt", "([II)V"⟩
abbrev cX8_put : ByteArray := prog_10_method_6_code
def yX8_put : MethodName := ⟨RX8, "put", "(I)V"⟩
abbrev cX8_putSwapped : ByteArray := prog_10_method_7_code
def yX8_putSwapped : MethodName := ⟨RX8, "putSwapped", "(I)V"⟩
abbrev cX8_putFrom : ByteArray := prog_10_method_8_code
def yX8_putFrom : MethodName := ⟨RX8, "putFrom", "(I)V"⟩
abbrev cX8_advance : ByteArray := prog_10_method_9_code
def yX8_advance : MethodName := ⟨RX8, "advance", "(I)I"⟩
abbrev cX8_whole : ByteArray := prog_10_method_10_code
def yX8_whole : MethodName := ⟨RX8, "whole", "()I"⟩
abbrev cX8_packedRow : ByteArray := prog_10_method_11_code
def yX8_packedRow : MethodName := ⟨RX8, "packedRow", "()I"⟩
abbrev cX8_spotsOfRow : ByteArray := prog_10_method_12_code
def yX8_spotsOfRow : MethodName := ⟨RX8, "spotsOfRow", "()I"⟩
def RX9 : String := "NearWords$Words"
def TX9 : u_T := fun k => match k with
  | 0 => ("NearWords$Words", "size", "I", false)
  | 1 => ("NearWords$Words", "length", "I", false)
  | 2 => ("NearWords$Words", "rows", "[I", true)
  | _ => ("NearWords$Words", "parts", "[I", true)
def tyX9 : Nat → FieldType := fun k => match k with
  | 0 => .int
  | 1 => .int
  | 2 => .array .int
  | _ => .array .int
abbrev wsX90 : List Cond := u_ws RX9 TX9 4
theorem nmX9 : ∀ a, a < 4 → ∀ b, b < 4 → a ≠ b → (TX9 a).2.1 ≠ (TX9 b).2.1 := by decide +kernel
theorem tyX9_ok : ∀ k, k < 4 → parseFieldDescriptor (TX9 k).2.2.1 = some (tyX9 k) := by decide +kernel
abbrev cX9_init : ByteArray := prog_11_method_1_code
def yX9_init : MethodName := ⟨RX9, "<init>", "()V"⟩
abbrev cX9_has : ByteArray := prog_11_method_2_code
def yX9_has : MethodName := ⟨RX9, "has", "(I)Z"⟩
abbrev cX9_start : ByteArray := prog_11_method_3_code
def yX9_start : MethodName := ⟨RX9, "start", "(I)I"⟩
abbrev cX9_add : ByteArray := prog_11_method_4_code
def yX9_add : MethodName := ⟨RX9, "add", "([II)V"⟩
abbrev cX9_having : ByteArray := prog_11_method_5_code
def yX9_having : MethodName := ⟨RX9, "having", "(I)I"⟩
abbrev cX9_hasNear : ByteArray := prog_11_method_6_code
def yX9_hasNear : MethodName := ⟨RX9, "hasNear", "()Z"⟩
abbrev cX9_letterOfRow : ByteArray := prog_11_method_7_code
def yX9_letterOfRow : MethodName := ⟨RX9, "letterOfRow", "(II)I"⟩
def RX10 : String := "NearWords"
def TX10 : u_T := fun k => match k with
  | 0 => ("NearWords", "rules", "LNearWords$Rules;", true)
  | 1 => ("NearWords", "tape", "LNearWords$Tape;", true)
  | 2 => ("NearWords", "words", "LNearWords$Words;", true)
  | 3 => ("NearWords", "texts", "LNearWords$Texts;", true)
  | 4 => ("NearWords", "candidates", "LNearWords$Candidates;", true)
  | 5 => ("NearWords", "survey", "LNearWords$Survey;", true)
  | 6 => ("NearWords", "sets", "LNearWords$Sets;", true)
  | 7 => ("NearWords", "middles", "LNearWords$Middle;", true)
  | _ => ("NearWords", "motifs", "LNearWords$Motif;", true)
def tyX10 : Nat → FieldType := fun k => match k with
  | 0 => .object "NearWords$Rules"
  | 1 => .object "NearWords$Tape"
  | 2 => .object "NearWords$Words"
  | 3 => .object "NearWords$Texts"
  | 4 => .object "NearWords$Candidates"
  | 5 => .object "NearWords$Survey"
  | 6 => .object "NearWords$Sets"
  | 7 => .object "NearWords$Middle"
  | _ => .object "NearWords$Motif"
abbrev wsX100 : List Cond := u_ws RX10 TX10 9
theorem nmX10 : ∀ a, a < 9 → ∀ b, b < 9 → a ≠ b → (TX10 a).2.1 ≠ (TX10 b).2.1 := by decide +kernel
theorem tyX10_ok : ∀ k, k < 9 → parseFieldDescriptor (TX10 k).2.2.1 = some (tyX10 k) := by decide +kernel
abbrev cX10_init : ByteArray := prog_1_method_1_code
def yX10_init : MethodName := ⟨RX10, "<init>", "()V"⟩
abbrev cX10_letters : ByteArray := prog_1_method_2_code
def yX10_letters : MethodName := ⟨RX10, "letters", "(I)Z"⟩
abbrev cX10_cost : ByteArray := prog_1_method_3_code
def yX10_cost : MethodName := ⟨RX10, "cost", "(III)Z"⟩
abbrev cX10_swap : ByteArray := prog_1_method_4_code
def yX10_swap : MethodName := ⟨RX10, "swap", "(I)Z"⟩
abbrev cX10_drop : ByteArray := prog_1_method_5_code
def yX10_drop : MethodName := ⟨RX10, "drop", "(I)Z"⟩
abbrev cX10_gap : ByteArray := prog_1_method_6_code
def yX10_gap : MethodName := ⟨RX10, "gap", "(I)Z"⟩
abbrev cX10_feed : ByteArray := prog_1_method_7_code
def yX10_feed : MethodName := ⟨RX10, "feed", "(IIIII)I"⟩
abbrev cX10_end : ByteArray := prog_1_method_8_code
def yX10_end : MethodName := ⟨RX10, "end", "(I)I"⟩
abbrev cX10_word : ByteArray := prog_1_method_9_code
def yX10_word : MethodName := ⟨RX10, "word", "()I"⟩
abbrev cX10_text : ByteArray := prog_1_method_10_code
def yX10_text : MethodName := ⟨RX10, "text", "()I"⟩
abbrev cX10_part : ByteArray := prog_1_method_11_code
def yX10_part : MethodName := ⟨RX10, "part", "(II)Z"⟩
abbrev cX10_apart : ByteArray := prog_1_method_12_code
def yX10_apart : MethodName := ⟨RX10, "apart", "(II)I"⟩
abbrev cX10_from : ByteArray := prog_1_method_13_code
def yX10_from : MethodName := ⟨RX10, "from", "(I)I"⟩
abbrev cX10_centre : ByteArray := prog_1_method_14_code
def yX10_centre : MethodName := ⟨RX10, "centre", "()I"⟩
abbrev cX10_centreAt : ByteArray := prog_1_method_15_code
def yX10_centreAt : MethodName := ⟨RX10, "centreAt", "(I)I"⟩
abbrev cX10_without : ByteArray := prog_1_method_16_code
def yX10_without : MethodName := ⟨RX10, "without", "(I)I"⟩
abbrev cX10_leftOut : ByteArray := prog_1_method_17_code
def yX10_leftOut : MethodName := ⟨RX10, "leftOut", "(I)I"⟩
abbrev cX10_within : ByteArray := prog_1_method_18_code
def yX10_within : MethodName := ⟨RX10, "within", "(I)I"⟩
abbrev cX10_lettersAt : ByteArray := prog_1_method_19_code
def yX10_lettersAt : MethodName := ⟨RX10, "lettersAt", "(II)I"⟩
abbrev cX10_core : ByteArray := prog_1_method_20_code
def yX10_core : MethodName := ⟨RX10, "core", "(I)I"⟩
abbrev cX10_coreSet : ByteArray := prog_1_method_21_code
def yX10_coreSet : MethodName := ⟨RX10, "coreSet", "(I)I"⟩
abbrev cX10_cover : ByteArray := prog_1_method_22_code
def yX10_cover : MethodName := ⟨RX10, "cover", "(I)I"⟩
abbrev cX10_centres : ByteArray := prog_1_method_23_code
def yX10_centres : MethodName := ⟨RX10, "centres", "(I)I"⟩
abbrev cX10_edits : ByteArray := prog_1_method_24_code
def yX10_edits : MethodName := ⟨RX10, "edits", "(II)I"⟩
abbrev cX10_editsFrom : ByteArray := prog_1_method_25_code
def yX10_editsFrom : MethodName := ⟨RX10, "editsFrom", "(I)I"⟩
abbrev cX10_middle : ByteArray := prog_1_method_26_code
def yX10_middle : MethodName := ⟨RX10, "middle", "()I"⟩
abbrev cX10_middleLength : ByteArray := prog_1_method_27_code
def yX10_middleLength : MethodName := ⟨RX10, "middleLength", "()I"⟩
abbrev cX10_middleAt : ByteArray := prog_1_method_28_code
def yX10_middleAt : MethodName := ⟨RX10, "middleAt", "(I)I"⟩
abbrev cX10_median : ByteArray := prog_1_method_29_code
def yX10_median : MethodName := ⟨RX10, "median", "()I"⟩
abbrev cX10_medianAt : ByteArray := prog_1_method_30_code
def yX10_medianAt : MethodName := ⟨RX10, "medianAt", "(I)I"⟩
abbrev cX10_medians : ByteArray := prog_1_method_31_code
def yX10_medians : MethodName := ⟨RX10, "medians", "()I"⟩
abbrev cX10_motif : ByteArray := prog_1_method_32_code
def yX10_motif : MethodName := ⟨RX10, "motif", "(I)I"⟩
abbrev cX10_motifAt : ByteArray := prog_1_method_33_code
def yX10_motifAt : MethodName := ⟨RX10, "motifAt", "(II)I"⟩
abbrev cX10_motifIn : ByteArray := prog_1_method_34_code
def yX10_motifIn : MethodName := ⟨RX10, "motifIn", "(II)I"⟩
abbrev cX10_of : ByteArray := prog_1_method_35_code
def yX10_of : MethodName := ⟨RX10, "of", "(II)I"⟩
abbrev cX10_count : ByteArray := prog_1_method_36_code
def yX10_count : MethodName := ⟨RX10, "count", "(I)I"⟩
abbrev cX10_isLetterOfFour : ByteArray := prog_1_method_37_code
def yX10_isLetterOfFour : MethodName := ⟨RX10, "isLetterOfFour", "(I)Z"⟩
abbrev cX10_asksWithin : ByteArray := prog_1_method_38_code
def yX10_asksWithin : MethodName := ⟨RX10, "asksWithin", "(I)Z"⟩
abbrev cX10_keyWithout : ByteArray := prog_1_method_39_code
def yX10_keyWithout : MethodName := ⟨RX10, "keyWithout", "(I)I"⟩
abbrev cX10_forgetCandidates : ByteArray := prog_1_method_40_code
def yX10_forgetCandidates : MethodName := ⟨RX10, "forgetCandidates", "()V"⟩
abbrev cX10_forgetDistances : ByteArray := prog_1_method_41_code
def yX10_forgetDistances : MethodName := ⟨RX10, "forgetDistances", "()V"⟩
abbrev cX10_forgetWords : ByteArray := prog_1_method_42_code
def yX10_forgetWords : MethodName := ⟨RX10, "forgetWords", "()V"⟩
def RX11 : String := "NearWordsModel"
def TX11 : u_T := fun k => match k with
  | 0 => ("NearWordsModel", "thrown", "I", false)
  | 1 => ("NearWordsModel", "letters", "I", false)
  | 2 => ("NearWordsModel", "cost", "[I", true)
  | 3 => ("NearWordsModel", "swap", "I", false)
  | 4 => ("NearWordsModel", "drop", "I", false)
  | 5 => ("NearWordsModel", "gap", "I", false)
  | 6 => ("NearWordsModel", "words", "I", false)
  | 7 => ("NearWordsModel", "length", "I", false)
  | 8 => ("NearWordsModel", "word", "[B", true)
  | 9 => ("NearWordsModel", "part", "[I", true)
  | 10 => ("NearWordsModel", "texts", "I", false)
  | 11 => ("NearWordsModel", "text", "[B", true)
  | 12 => ("NearWordsModel", "textSize", "[I", true)
  | 13 => ("NearWordsModel", "isKnown", "Z", false)
  | 14 => ("NearWordsModel", "isMiddleKnown", "Z", false)
  | 15 => ("NearWordsModel", "motifKnown", "I", false)
  | 16 => ("NearWordsModel", "tape", "[B", true)
  | 17 => ("NearWordsModel", "taped", "I", false)
  | 18 => ("NearWordsModel", "told", "[B", true)
  | 19 => ("NearWordsModel", "toldSize", "I", false)
  | 20 => ("NearWordsModel", "far", "[I", true)
  | 21 => ("NearWordsModel", "apart", "[B", true)
  | 22 => ("NearWordsModel", "row", "[B", true)
  | 23 => ("NearWordsModel", "isHeld", "[Z", true)
  | 24 => ("NearWordsModel", "sets", "[I", true)
  | 25 => ("NearWordsModel", "sameSums", "I", false)
  | 26 => ("NearWordsModel", "table", "[I", true)
  | 27 => ("NearWordsModel", "line", "[I", true)
  | 28 => ("NearWordsModel", "middle", "[B", true)
  | 29 => ("NearWordsModel", "middleSize", "I", false)
  | 30 => ("NearWordsModel", "middleSum", "I", false)
  | 31 => ("NearWordsModel", "tried", "[B", true)
  | 32 => ("NearWordsModel", "motifRow", "I", false)
  | _ => ("NearWordsModel", "motifFar", "I", false)
def tyX11 : Nat → FieldType := fun k => match k with
  | 0 => .int
  | 1 => .int
  | 2 => .array .int
  | 3 => .int
  | 4 => .int
  | 5 => .int
  | 6 => .int
  | 7 => .int
  | 8 => .array .byte
  | 9 => .array .int
  | 10 => .int
  | 11 => .array .byte
  | 12 => .array .int
  | 13 => .boolean
  | 14 => .boolean
  | 15 => .int
  | 16 => .array .byte
  | 17 => .int
  | 18 => .array .byte
  | 19 => .int
  | 20 => .array .int
  | 21 => .array .byte
  | 22 => .array .byte
  | 23 => .array .boolean
  | 24 => .array .int
  | 25 => .int
  | 26 => .array .int
  | 27 => .array .int
  | 28 => .array .byte
  | 29 => .int
  | 30 => .int
  | 31 => .array .byte
  | 32 => .int
  | _ => .int
abbrev wsX110 : List Cond := u_ws RX11 TX11 34
theorem nmX11 : ∀ a, a < 34 → ∀ b, b < 34 → a ≠ b → (TX11 a).2.1 ≠ (TX11 b).2.1 := by decide +kernel
theorem tyX11_ok : ∀ k, k < 34 → parseFieldDescriptor (TX11 k).2.2.1 = some (tyX11 k) := by decide +kernel
abbrev cX11_thrown : ByteArray := prog_13_method_1_code
def yX11_thrown : MethodName := ⟨RX11, "thrown", "()I"⟩
abbrev cX11_within : ByteArray := prog_13_method_2_code
def yX11_within : MethodName := ⟨RX11, "within", "(III)Z"⟩
abbrev cX11_init : ByteArray := prog_13_method_3_code
def yX11_init : MethodName := ⟨RX11, "<init>", "()V"⟩
abbrev cX11_changes : ByteArray := prog_13_method_4_code
def yX11_changes : MethodName := ⟨RX11, "changes", "()V"⟩
abbrev cX11_letters : ByteArray := prog_13_method_5_code
def yX11_letters : MethodName := ⟨RX11, "letters", "(I)Z"⟩
abbrev cX11_cost : ByteArray := prog_13_method_6_code
def yX11_cost : MethodName := ⟨RX11, "cost", "(III)Z"⟩
abbrev cX11_swap : ByteArray := prog_13_method_7_code
def yX11_swap : MethodName := ⟨RX11, "swap", "(I)Z"⟩
abbrev cX11_drop : ByteArray := prog_13_method_8_code
def yX11_drop : MethodName := ⟨RX11, "drop", "(I)Z"⟩
abbrev cX11_gap : ByteArray := prog_13_method_9_code
def yX11_gap : MethodName := ⟨RX11, "gap", "(I)Z"⟩
abbrev cX11_feed : ByteArray := prog_13_method_10_code
def yX11_feed : MethodName := ⟨RX11, "feed", "(IIIII)I"⟩
abbrev cX11_end : ByteArray := prog_13_method_11_code
def yX11_end : MethodName := ⟨RX11, "end", "(I)I"⟩
abbrev cX11_takes : ByteArray := prog_13_method_12_code
def yX11_takes : MethodName := ⟨RX11, "takes", "(II)Z"⟩
abbrev cX11_word : ByteArray := prog_13_method_13_code
def yX11_word : MethodName := ⟨RX11, "word", "()I"⟩
abbrev cX11_text : ByteArray := prog_13_method_14_code
def yX11_text : MethodName := ⟨RX11, "text", "()I"⟩
abbrev cX11_isWord : ByteArray := prog_13_method_15_code
def yX11_isWord : MethodName := ⟨RX11, "isWord", "(I)Z"⟩
abbrev cX11_part : ByteArray := prog_13_method_16_code
def yX11_part : MethodName := ⟨RX11, "part", "(II)Z"⟩
abbrev cX11_distance : ByteArray := prog_13_method_17_code
def yX11_distance : MethodName := ⟨RX11, "distance", "([BI[BII)I"⟩
abbrev cX11_apart : ByteArray := prog_13_method_18_code
def yX11_apart : MethodName := ⟨RX11, "apart", "(II)I"⟩
abbrev cX11_from : ByteArray := prog_13_method_19_code
def yX11_from : MethodName := ⟨RX11, "from", "(I)I"⟩
abbrev cX11_power : ByteArray := prog_13_method_20_code
def yX11_power : MethodName := ⟨RX11, "power", "(II)I"⟩
abbrev cX11_lays : ByteArray := prog_13_method_21_code
def yX11_lays : MethodName := ⟨RX11, "lays", "(II)V"⟩
abbrev cX11_rows : ByteArray := prog_13_method_22_code
def yX11_rows : MethodName := ⟨RX11, "rows", "()I"⟩
abbrev cX11_knows : ByteArray := prog_13_method_23_code
def yX11_knows : MethodName := ⟨RX11, "knows", "()V"⟩
abbrev cX11_isCandidate : ByteArray := prog_13_method_24_code
def yX11_isCandidate : MethodName := ⟨RX11, "isCandidate", "(I)Z"⟩
abbrev cX11_many : ByteArray := prog_13_method_25_code
def yX11_many : MethodName := ⟨RX11, "many", "(I)I"⟩
abbrev cX11_radius : ByteArray := prog_13_method_26_code
def yX11_radius : MethodName := ⟨RX11, "radius", "(I)I"⟩
abbrev cX11_radiusBut : ByteArray := prog_13_method_27_code
def yX11_radiusBut : MethodName := ⟨RX11, "radiusBut", "(II)I"⟩
abbrev cX11_nearest : ByteArray := prog_13_method_28_code
def yX11_nearest : MethodName := ⟨RX11, "nearest", "(I)I"⟩
abbrev cX11_letterOf : ByteArray := prog_13_method_29_code
def yX11_letterOf : MethodName := ⟨RX11, "letterOf", "(II)I"⟩
abbrev cX11_centre : ByteArray := prog_13_method_30_code
def yX11_centre : MethodName := ⟨RX11, "centre", "()I"⟩
abbrev cX11_centreAt : ByteArray := prog_13_method_31_code
def yX11_centreAt : MethodName := ⟨RX11, "centreAt", "(I)I"⟩
abbrev cX11_without : ByteArray := prog_13_method_32_code
def yX11_without : MethodName := ⟨RX11, "without", "(I)I"⟩
abbrev cX11_leftOut : ByteArray := prog_13_method_33_code
def yX11_leftOut : MethodName := ⟨RX11, "leftOut", "(I)I"⟩
abbrev cX11_isAsked : ByteArray := prog_13_method_34_code
def yX11_isAsked : MethodName := ⟨RX11, "isAsked", "(I)Z"⟩
abbrev cX11_within_ : ByteArray := prog_13_method_35_code
def yX11_within_ : MethodName := ⟨RX11, "within", "(I)I"⟩
abbrev cX11_lettersAt : ByteArray := prog_13_method_36_code
def yX11_lettersAt : MethodName := ⟨RX11, "lettersAt", "(II)I"⟩
abbrev cX11_nearBits : ByteArray := prog_13_method_37_code
def yX11_nearBits : MethodName := ⟨RX11, "nearBits", "()I"⟩
abbrev cX11_holds : ByteArray := prog_13_method_38_code
def yX11_holds : MethodName := ⟨RX11, "holds", "(I)V"⟩
abbrev cX11_size : ByteArray := prog_13_method_39_code
def yX11_size : MethodName := ⟨RX11, "size", "(I)I"⟩
abbrev cX11_coreOf : ByteArray := prog_13_method_40_code
def yX11_coreOf : MethodName := ⟨RX11, "coreOf", "(I)I"⟩
abbrev cX11_core : ByteArray := prog_13_method_41_code
def yX11_core : MethodName := ⟨RX11, "core", "(I)I"⟩
abbrev cX11_coreSet : ByteArray := prog_13_method_42_code
def yX11_coreSet : MethodName := ⟨RX11, "coreSet", "(I)I"⟩
abbrev cX11_coverOf : ByteArray := prog_13_method_43_code
def yX11_coverOf : MethodName := ⟨RX11, "coverOf", "(I)I"⟩
abbrev cX11_cover : ByteArray := prog_13_method_44_code
def yX11_cover : MethodName := ⟨RX11, "cover", "(I)I"⟩
abbrev cX11_centres : ByteArray := prog_13_method_45_code
def yX11_centres : MethodName := ⟨RX11, "centres", "(I)I"⟩
abbrev cX11_sumOf : ByteArray := prog_13_method_46_code
def yX11_sumOf : MethodName := ⟨RX11, "sumOf", "(I)I"⟩
abbrev cX11_leastSum : ByteArray := prog_13_method_47_code
def yX11_leastSum : MethodName := ⟨RX11, "leastSum", "()I"⟩
abbrev cX11_median : ByteArray := prog_13_method_48_code
def yX11_median : MethodName := ⟨RX11, "median", "()I"⟩
abbrev cX11_medianAt : ByteArray := prog_13_method_49_code
def yX11_medianAt : MethodName := ⟨RX11, "medianAt", "(I)I"⟩
abbrev cX11_medians : ByteArray := prog_13_method_50_code
def yX11_medians : MethodName := ⟨RX11, "medians", "()I"⟩
abbrev cX11_edits : ByteArray := prog_13_method_51_code
def yX11_edits : MethodName := ⟨RX11, "edits", "([BII[BII)I"⟩
abbrev cX11_edits_ : ByteArray := prog_13_method_52_code
def yX11_edits_ : MethodName := ⟨RX11, "edits", "(II)I"⟩
abbrev cX11_editsFrom : ByteArray := prog_13_method_53_code
def yX11_editsFrom : MethodName := ⟨RX11, "editsFrom", "(I)I"⟩
abbrev cX11_goesOn : ByteArray := prog_13_method_54_code
def yX11_goesOn : MethodName := ⟨RX11, "goesOn", "(II)V"⟩
abbrev cX11_tries : ByteArray := prog_13_method_55_code
def yX11_tries : MethodName := ⟨RX11, "tries", "(II)V"⟩
abbrev cX11_hasMiddle : ByteArray := prog_13_method_56_code
def yX11_hasMiddle : MethodName := ⟨RX11, "hasMiddle", "()Z"⟩
abbrev cX11_middle : ByteArray := prog_13_method_57_code
def yX11_middle : MethodName := ⟨RX11, "middle", "()I"⟩
abbrev cX11_middleLength : ByteArray := prog_13_method_58_code
def yX11_middleLength : MethodName := ⟨RX11, "middleLength", "()I"⟩
abbrev cX11_middleAt : ByteArray := prog_13_method_59_code
def yX11_middleAt : MethodName := ⟨RX11, "middleAt", "(I)I"⟩
abbrev cX11_nearestPiece : ByteArray := prog_13_method_60_code
def yX11_nearestPiece : MethodName := ⟨RX11, "nearestPiece", "(II)I"⟩
abbrev cX11_pieceFar : ByteArray := prog_13_method_61_code
def yX11_pieceFar : MethodName := ⟨RX11, "pieceFar", "(II)I"⟩
abbrev cX11_hasMotif : ByteArray := prog_13_method_62_code
def yX11_hasMotif : MethodName := ⟨RX11, "hasMotif", "(I)Z"⟩
abbrev cX11_motif : ByteArray := prog_13_method_63_code
def yX11_motif : MethodName := ⟨RX11, "motif", "(I)I"⟩
abbrev cX11_motifAt : ByteArray := prog_13_method_64_code
def yX11_motifAt : MethodName := ⟨RX11, "motifAt", "(II)I"⟩
abbrev cX11_motifIn : ByteArray := prog_13_method_65_code
def yX11_motifIn : MethodName := ⟨RX11, "motifIn", "(II)I"⟩
abbrev cX11_of : ByteArray := prog_13_method_66_code
def yX11_of : MethodName := ⟨RX11, "of", "(II)I"⟩
abbrev cX11_count : ByteArray := prog_13_method_67_code
def yX11_count : MethodName := ⟨RX11, "count", "(I)I"⟩
def RJ6 : String := "java/lang/Integer"
def TJ6 : u_T := fun k => match k with
  | _ => ("", "", "", false)
def tyJ6 : Nat → FieldType := fun k => match k with
  | _ => .int
abbrev wsJ60 : List Cond := u_ws RJ6 TJ6 0
theorem nmJ6 : ∀ a, a < 0 → ∀ b, b < 0 → a ≠ b → (TJ6 a).2.1 ≠ (TJ6 b).2.1 := by decide +kernel
theorem tyJ6_ok : ∀ k, k < 0 → parseFieldDescriptor (TJ6 k).2.2.1 = some (tyJ6 k) := by decide +kernel
abbrev cJ6_bitCount_0f7a4 : ByteArray := prog_15_method_49_code
def yJ6_bitCount_0f7a4 : MethodName := ⟨RJ6, "bitCount", "(I)I"⟩
def RJ9 : String := "java/lang/Math"
def TJ9 : u_T := fun k => match k with
  | _ => ("", "", "", false)
def tyJ9 : Nat → FieldType := fun k => match k with
  | _ => .int
abbrev wsJ90 : List Cond := u_ws RJ9 TJ9 0
theorem nmJ9 : ∀ a, a < 0 → ∀ b, b < 0 → a ≠ b → (TJ9 a).2.1 ≠ (TJ9 b).2.1 := by decide +kernel
theorem tyJ9_ok : ∀ k, k < 0 → parseFieldDescriptor (TJ9 k).2.2.1 = some (tyJ9 k) := by decide +kernel
abbrev cJ9_max_7cf53 : ByteArray := prog_16_method_65_code
def yJ9_max_7cf53 : MethodName := ⟨RJ9, "max", "(II)I"⟩
abbrev cJ9_min_7cf53 : ByteArray := prog_16_method_69_code
def yJ9_min_7cf53 : MethodName := ⟨RJ9, "min", "(II)I"⟩
def RJ0 : String := "java/lang/String"
def TJ0 : u_T := fun k => match k with
  | _ => ("", "", "", false)
def tyJ0 : Nat → FieldType := fun k => match k with
  | _ => .int
abbrev wsJ00 : List Cond := u_ws RJ0 TJ0 0
theorem nmJ0 : ∀ a, a < 0 → ∀ b, b < 0 → a ≠ b → (TJ0 a).2.1 ≠ (TJ0 b).2.1 := by decide +kernel
theorem tyJ0_ok : ∀ k, k < 0 → parseFieldDescriptor (TJ0 k).2.2.1 = some (tyJ0 k) := by decide +kernel
def RJ10 : String := "java/lang/System"
def TJ10 : u_T := fun k => match k with
  | _ => ("", "", "", false)
def tyJ10 : Nat → FieldType := fun k => match k with
  | _ => .int
abbrev wsJ100 : List Cond := u_ws RJ10 TJ10 0
theorem nmJ10 : ∀ a, a < 0 → ∀ b, b < 0 → a ≠ b → (TJ10 a).2.1 ≠ (TJ10 b).2.1 := by decide +kernel
theorem tyJ10_ok : ∀ k, k < 0 → parseFieldDescriptor (TJ10 k).2.2.1 = some (tyJ10 k) := by decide +kernel
def RL : String := "NearWordsLaw"
abbrev cL_motifIn : ByteArray := method_3_code
def yL_motifIn : MethodName := ⟨RL, "motifIn", "(LNearWords;II[J)I"⟩
abbrev cL_law : ByteArray := code
def yL_law : MethodName := ⟨RL, "law", "([I)Z"⟩
def wsL_law0_r1 : List Cond := [Cond.classLink RL 8 RX10, Cond.instantiable RX10 9, Cond.initialized RX10, Cond.classLink RL 16 RX11, Cond.instantiable RX11 34, Cond.initialized RX11, Cond.arrayClass .long, Cond.methodLink RL 15 yX10_init, Cond.instanceMethod yX10_init, Cond.code yX10_init cX10_init 1 none, Cond.methodLink RX10 1 objectInit, Cond.instanceMethod objectInit, Cond.code objectInit ⟨#[0xb1]⟩ 1 none, Cond.classLink RX10 7 RX3, Cond.instantiable RX3 5, Cond.initialized RX3, Cond.fieldLink RX10 10 "NearWords" "rules" "LNearWords$Rules;", Cond.classLink RX10 16 RX6, Cond.instantiable RX6 3, Cond.initialized RX6, Cond.fieldLink RX10 19 "NearWords" "tape" "LNearWords$Tape;", Cond.classLink RX10 23 RX9, Cond.instantiable RX9 4, Cond.initialized RX9]
def wsL_law0_r2 : List Cond := [Cond.fieldLink RX10 26 "NearWords" "words" "LNearWords$Words;", Cond.classLink RX10 30 RX7, Cond.instantiable RX7 3, Cond.initialized RX7, Cond.fieldLink RX10 33 "NearWords" "texts" "LNearWords$Texts;", Cond.classLink RX10 37 RX0, Cond.instantiable RX0 6, Cond.initialized RX0, Cond.fieldLink RX10 42 "NearWords" "candidates" "LNearWords$Candidates;", Cond.classLink RX10 46 RX5, Cond.instantiable RX5 9, Cond.initialized RX5, Cond.fieldLink RX10 51 "NearWords" "survey" "LNearWords$Survey;", Cond.classLink RX10 55 RX4, Cond.instantiable RX4 7, Cond.initialized RX4, Cond.fieldLink RX10 58 "NearWords" "sets" "LNearWords$Sets;", Cond.classLink RX10 62 RX1, Cond.instantiable RX1 8, Cond.initialized RX1, Cond.fieldLink RX10 65 "NearWords" "middles" "LNearWords$Middle;", Cond.classLink RX10 69 RX2, Cond.instantiable RX2 6, Cond.initialized RX2]
def wsL_law0_r3 : List Cond := [Cond.fieldLink RX10 74 "NearWords" "motifs" "LNearWords$Motif;", Cond.methodLink RX10 9 yX3_init, Cond.instanceMethod yX3_init, Cond.code yX3_init cX3_init 3 none, Cond.methodLink RX3 3 objectInit, Cond.fieldLink RX3 9 "NearWords$Rules" "letters" "I", Cond.fieldLink RX3 15 "NearWords$Rules" "swap" "I", Cond.fieldLink RX3 18 "NearWords$Rules" "drop" "I", Cond.fieldLink RX3 21 "NearWords$Rules" "gap" "I", Cond.arrayClass .int, Cond.fieldLink RX3 24 "NearWords$Rules" "prices" "[I", Cond.instanceMethod yX6_init, Cond.code yX6_init cX6_init 1 none, Cond.methodLink RX6 3 objectInit, Cond.fieldLink RX6 9 "NearWords$Tape" "size" "I", Cond.fieldLink RX6 15 "NearWords$Tape" "row" "[I", Cond.arrayClass .byte, Cond.fieldLink RX6 19 "NearWords$Tape" "bytes" "[B", Cond.instanceMethod yX9_init, Cond.code yX9_init cX9_init 1 none, Cond.methodLink RX9 3 objectInit, Cond.fieldLink RX9 9 "NearWords$Words" "size" "I", Cond.fieldLink RX9 15 "NearWords$Words" "length" "I", Cond.fieldLink RX9 18 "NearWords$Words" "rows" "[I"]
def wsL_law0_r4 : List Cond := [Cond.fieldLink RX9 22 "NearWords$Words" "parts" "[I", Cond.instanceMethod yX7_init, Cond.code yX7_init cX7_init 1 none, Cond.methodLink RX7 3 objectInit, Cond.fieldLink RX7 9 "NearWords$Texts" "size" "I", Cond.fieldLink RX7 15 "NearWords$Texts" "rows" "[I", Cond.fieldLink RX7 19 "NearWords$Texts" "lengths" "[I", Cond.methodLink RX10 39 yX0_init, Cond.instanceMethod yX0_init, Cond.code yX0_init cX0_init 3 none, Cond.methodLink RX0 3 objectInit, Cond.fieldLink RX0 9 "NearWords$Candidates" "near" "I", Cond.fieldLink RX0 15 "NearWords$Candidates" "bits" "[I", Cond.fieldLink RX0 19 "NearWords$Candidates" "row" "[I", Cond.fieldLink RX0 22 "NearWords$Candidates" "rules" "LNearWords$Rules;", Cond.fieldLink RX0 26 "NearWords$Candidates" "words" "LNearWords$Words;", Cond.classLink RX0 30 RX8, Cond.instantiable RX8 9, Cond.initialized RX8, Cond.fieldLink RX0 35 "NearWords$Candidates" "walk" "LNearWords$Walk;", Cond.methodLink RX0 32 yX8_init, Cond.instanceMethod yX8_init, Cond.code yX8_init cX8_init 4 none, Cond.methodLink RX8 3 objectInit]
def wsL_law0_r5 : List Cond := [Cond.fieldLink RX8 9 "NearWords$Walk" "length" "I", Cond.fieldLink RX8 15 "NearWords$Walk" "targets" "I", Cond.fieldLink RX8 18 "NearWords$Walk" "rules" "LNearWords$Rules;", Cond.fieldLink RX8 22 "NearWords$Walk" "width" "I", Cond.fieldLink RX8 25 "NearWords$Walk" "row" "[I", Cond.fieldLink RX8 29 "NearWords$Walk" "sums" "[I", Cond.fieldLink RX8 32 "NearWords$Walk" "aims" "[I", Cond.fieldLink RX8 35 "NearWords$Walk" "packed" "[I", Cond.fieldLink RX8 38 "NearWords$Walk" "spots" "[I", Cond.methodLink RX10 48 yX5_init, Cond.instanceMethod yX5_init, Cond.code yX5_init cX5_init 2 none, Cond.methodLink RX5 3 objectInit, Cond.fieldLink RX5 9 "NearWords$Survey" "fresh" "Z", Cond.fieldLink RX5 15 "NearWords$Survey" "radius" "I", Cond.fieldLink RX5 19 "NearWords$Survey" "centreRow" "I", Cond.fieldLink RX5 22 "NearWords$Survey" "sum" "I", Cond.fieldLink RX5 25 "NearWords$Survey" "medianRow" "I", Cond.fieldLink RX5 28 "NearWords$Survey" "medians" "I", Cond.fieldLink RX5 31 "NearWords$Survey" "counts" "[I", Cond.fieldLink RX5 35 "NearWords$Survey" "seen" "[I", Cond.fieldLink RX5 38 "NearWords$Survey" "candidates" "LNearWords$Candidates;", Cond.methodLink RX10 57 yX4_init, Cond.instanceMethod yX4_init]
def wsL_law0_r6 : List Cond := [Cond.code yX4_init cX4_init 2 none, Cond.methodLink RX4 3 objectInit, Cond.fieldLink RX4 9 "NearWords$Sets" "fresh" "Z", Cond.fieldLink RX4 15 "NearWords$Sets" "covered" "[I", Cond.fieldLink RX4 19 "NearWords$Sets" "keys" "[I", Cond.fieldLink RX4 22 "NearWords$Sets" "parted" "[I", Cond.fieldLink RX4 25 "NearWords$Sets" "order" "[I", Cond.fieldLink RX4 28 "NearWords$Sets" "nearBits" "I", Cond.fieldLink RX4 32 "NearWords$Sets" "candidates" "LNearWords$Candidates;", Cond.methodLink RX10 64 yX1_init, Cond.instanceMethod yX1_init, Cond.code yX1_init cX1_init 3 none, Cond.methodLink RX1 5 objectInit, Cond.fieldLink RX1 11 "NearWords$Middle" "fresh" "Z", Cond.fieldLink RX1 15 "NearWords$Middle" "sum" "I", Cond.fieldLink RX1 19 "NearWords$Middle" "length" "I", Cond.fieldLink RX1 22 "NearWords$Middle" "found" "[I", Cond.fieldLink RX1 26 "NearWords$Middle" "row" "[I", Cond.fieldLink RX1 29 "NearWords$Middle" "lines" "[I", Cond.fieldLink RX1 32 "NearWords$Middle" "rules" "LNearWords$Rules;", Cond.fieldLink RX1 36 "NearWords$Middle" "words" "LNearWords$Words;", Cond.methodLink RX10 71 yX2_init, Cond.instanceMethod yX2_init, Cond.code yX2_init cX2_init 3 none]
def wsL_law0_r7 : List Cond := [Cond.methodLink RX2 3 objectInit, Cond.fieldLink RX2 9 "NearWords$Motif" "reach" "[I", Cond.fieldLink RX2 15 "NearWords$Motif" "found" "[I", Cond.fieldLink RX2 18 "NearWords$Motif" "row" "[I", Cond.fieldLink RX2 21 "NearWords$Motif" "rules" "LNearWords$Rules;", Cond.fieldLink RX2 25 "NearWords$Motif" "texts" "LNearWords$Texts;", Cond.classLink RX2 29 RX8, Cond.fieldLink RX2 34 "NearWords$Motif" "walk" "LNearWords$Walk;", Cond.methodLink RX2 31 yX8_init, Cond.methodLink RX2 38 yX2_forget, Cond.instanceMethod yX2_forget, Cond.selects RX2 yX2_forget yX2_forget, Cond.code yX2_forget cX2_forget 2 none, Cond.methodLink RL 18 yX11_init, Cond.instanceMethod yX11_init, Cond.code yX11_init cX11_init 2 none, Cond.methodLink RX11 7 objectInit, Cond.fieldLink RX11 13 "NearWordsModel" "letters" "I", Cond.fieldLink RX11 16 "NearWordsModel" "cost" "[I", Cond.fieldLink RX11 20 "NearWordsModel" "drop" "I", Cond.fieldLink RX11 23 "NearWordsModel" "word" "[B", Cond.fieldLink RX11 27 "NearWordsModel" "part" "[I", Cond.fieldLink RX11 30 "NearWordsModel" "text" "[B", Cond.fieldLink RX11 33 "NearWordsModel" "textSize" "[I"]
def wsL_law0_r8 : List Cond := [Cond.fieldLink RX11 36 "NearWordsModel" "tape" "[B", Cond.fieldLink RX11 39 "NearWordsModel" "told" "[B", Cond.fieldLink RX11 42 "NearWordsModel" "far" "[I", Cond.constant RX11 45 (131072), Cond.fieldLink RX11 46 "NearWordsModel" "apart" "[B", Cond.fieldLink RX11 49 "NearWordsModel" "row" "[B", Cond.arrayClass .boolean, Cond.fieldLink RX11 52 "NearWordsModel" "isHeld" "[Z", Cond.fieldLink RX11 56 "NearWordsModel" "sets" "[I", Cond.fieldLink RX11 59 "NearWordsModel" "table" "[I", Cond.fieldLink RX11 62 "NearWordsModel" "line" "[I", Cond.fieldLink RX11 65 "NearWordsModel" "middle" "[B", Cond.fieldLink RX11 68 "NearWordsModel" "tried" "[B", Cond.methodLink RL 19 yX10_letters, Cond.instanceMethod yX10_letters, Cond.selects RX10 yX10_letters yX10_letters, Cond.code yX10_letters cX10_letters 2 (some .boolean), Cond.fieldLink RX10 78 "NearWords$Words" "size" "I", Cond.fieldLink RX10 82 "NearWords$Texts" "size" "I", Cond.fieldLink RX10 83 "NearWords$Rules" "letters" "I", Cond.methodLink RL 23 yX11_letters, Cond.instanceMethod yX11_letters, Cond.selects RX11 yX11_letters yX11_letters, Cond.code yX11_letters cX11_letters 2 (some .boolean)]
def wsL_law0_r9 : List Cond := [Cond.fieldLink RX11 1 "NearWordsModel" "thrown" "I", Cond.fieldLink RX11 85 "NearWordsModel" "words" "I", Cond.fieldLink RX11 88 "NearWordsModel" "texts" "I", Cond.methodLink RX11 81 yX11_within, Cond.static yX11_within, Cond.code yX11_within cX11_within 3 (some .boolean), Cond.methodLink RL 24 yX10_cost, Cond.instanceMethod yX10_cost, Cond.selects RX10 yX10_cost yX10_cost, Cond.code yX10_cost cX10_cost 4 (some .boolean), Cond.fieldLink RX10 97 "NearWords$Middle" "fresh" "Z", Cond.methodLink RX10 86 yX10_isLetterOfFour, Cond.static yX10_isLetterOfFour, Cond.code yX10_isLetterOfFour cX10_isLetterOfFour 1 (some .boolean), Cond.methodLink RX10 90 yX3_setPrice, Cond.instanceMethod yX3_setPrice, Cond.selects RX3 yX3_setPrice yX3_setPrice, Cond.code yX3_setPrice cX3_setPrice 4 none, Cond.methodLink RX10 94 yX10_forgetDistances, Cond.instanceMethod yX10_forgetDistances, Cond.selects RX10 yX10_forgetDistances yX10_forgetDistances, Cond.code yX10_forgetDistances cX10_forgetDistances 1 none, Cond.methodLink RX10 110 yX10_forgetCandidates, Cond.instanceMethod yX10_forgetCandidates]
def wsL_law0_r10 : List Cond := [Cond.selects RX10 yX10_forgetCandidates yX10_forgetCandidates, Cond.code yX10_forgetCandidates cX10_forgetCandidates 1 none, Cond.fieldLink RX10 271 "NearWords$Survey" "fresh" "Z", Cond.fieldLink RX10 272 "NearWords$Sets" "fresh" "Z", Cond.methodLink RX10 136 yX2_forget, Cond.methodLink RL 28 yX11_cost, Cond.instanceMethod yX11_cost, Cond.selects RX11 yX11_cost yX11_cost, Cond.code yX11_cost cX11_cost 4 (some .boolean), Cond.methodLink RX11 91 yX11_changes, Cond.instanceMethod yX11_changes, Cond.selects RX11 yX11_changes yX11_changes, Cond.code yX11_changes cX11_changes 1 none, Cond.fieldLink RX11 71 "NearWordsModel" "isKnown" "Z", Cond.fieldLink RX11 75 "NearWordsModel" "isMiddleKnown" "Z", Cond.fieldLink RX11 78 "NearWordsModel" "motifKnown" "I", Cond.methodLink RL 29 yX10_swap, Cond.instanceMethod yX10_swap, Cond.selects RX10 yX10_swap yX10_swap, Cond.code yX10_swap cX10_swap 2 (some .boolean), Cond.fieldLink RX10 101 "NearWords$Rules" "swap" "I", Cond.methodLink RL 32 yX11_swap, Cond.instanceMethod yX11_swap, Cond.selects RX11 yX11_swap yX11_swap]
def wsL_law0_r11 : List Cond := [Cond.code yX11_swap cX11_swap 2 (some .boolean), Cond.fieldLink RX11 94 "NearWordsModel" "swap" "I", Cond.methodLink RL 33 yX10_drop, Cond.instanceMethod yX10_drop, Cond.selects RX10 yX10_drop yX10_drop, Cond.code yX10_drop cX10_drop 2 (some .boolean), Cond.fieldLink RX10 104 "NearWords$Rules" "drop" "I", Cond.methodLink RL 36 yX11_drop, Cond.instanceMethod yX11_drop, Cond.selects RX11 yX11_drop yX11_drop, Cond.code yX11_drop cX11_drop 2 (some .boolean), Cond.methodLink RL 37 yX10_gap, Cond.instanceMethod yX10_gap, Cond.selects RX10 yX10_gap yX10_gap, Cond.code yX10_gap cX10_gap 2 (some .boolean), Cond.fieldLink RX10 107 "NearWords$Rules" "gap" "I", Cond.methodLink RL 40 yX11_gap, Cond.instanceMethod yX11_gap, Cond.selects RX11 yX11_gap yX11_gap, Cond.code yX11_gap cX11_gap 2 (some .boolean), Cond.fieldLink RX11 97 "NearWordsModel" "gap" "I", Cond.methodLink RL 41 yX10_feed, Cond.instanceMethod yX10_feed, Cond.selects RX10 yX10_feed yX10_feed]
def wsL_law0_r12 : List Cond := [Cond.code yX10_feed cX10_feed 6 (some .int), Cond.fieldLink RX10 113 "NearWords$Tape" "size" "I", Cond.methodLink RX10 114 yX6_add, Cond.instanceMethod yX6_add, Cond.selects RX6 yX6_add yX6_add, Cond.code yX6_add cX6_add 3 none, Cond.methodLink RL 45 yX11_feed, Cond.instanceMethod yX11_feed, Cond.selects RX11 yX11_feed yX11_feed, Cond.code yX11_feed cX11_feed 8 (some .int), Cond.fieldLink RX11 100 "NearWordsModel" "taped" "I", Cond.methodLink RL 46 yX10_end, Cond.instanceMethod yX10_end, Cond.selects RX10 yX10_end yX10_end, Cond.code yX10_end cX10_end 2 (some .int), Cond.methodLink RL 50 yX11_end, Cond.instanceMethod yX11_end, Cond.selects RX11 yX11_end yX11_end, Cond.code yX11_end cX11_end 2 (some .int), Cond.methodLink RL 51 yX10_word, Cond.instanceMethod yX10_word, Cond.selects RX10 yX10_word yX10_word, Cond.code yX10_word cX10_word 2 (some .int), Cond.fieldLink RX10 122 "NearWords$Words" "length" "I"]
def wsL_law0_r13 : List Cond := [Cond.fieldLink RX10 125 "NearWords$Tape" "row" "[I", Cond.methodLink RX10 118 yX6_take, Cond.instanceMethod yX6_take, Cond.selects RX6 yX6_take yX6_take, Cond.code yX6_take cX6_take 5 (some .int), Cond.methodLink RX10 129 yX9_add, Cond.instanceMethod yX9_add, Cond.selects RX9 yX9_add yX9_add, Cond.code yX9_add cX9_add 3 none, Cond.methodLink RX9 29 arraycopyName, Cond.native arraycopyName, Cond.static arraycopyName, Cond.initialized "java/lang/System", Cond.methodLink RX9 25 yX9_start, Cond.instanceMethod yX9_start, Cond.selects RX9 yX9_start yX9_start, Cond.code yX9_start cX9_start 2 (some .int), Cond.methodLink RX10 132 yX10_forgetWords, Cond.instanceMethod yX10_forgetWords, Cond.selects RX10 yX10_forgetWords yX10_forgetWords, Cond.code yX10_forgetWords cX10_forgetWords 1 none, Cond.methodLink RL 55 yX11_word, Cond.instanceMethod yX11_word, Cond.selects RX11 yX11_word yX11_word]
def wsL_law0_r14 : List Cond := [Cond.code yX11_word cX11_word 3 (some .int), Cond.fieldLink RX11 110 "NearWordsModel" "length" "I", Cond.fieldLink RX11 103 "NearWordsModel" "toldSize" "I", Cond.methodLink RX11 106 yX11_takes, Cond.instanceMethod yX11_takes, Cond.selects RX11 yX11_takes yX11_takes, Cond.code yX11_takes cX11_takes 5 (some .boolean), Cond.methodLink RL 56 yX10_text, Cond.instanceMethod yX10_text, Cond.selects RX10 yX10_text yX10_text, Cond.code yX10_text cX10_text 2 (some .int), Cond.methodLink RX10 135 yX7_add, Cond.instanceMethod yX7_add, Cond.selects RX7 yX7_add yX7_add, Cond.code yX7_add cX7_add 3 none, Cond.methodLink RX7 26 arraycopyName, Cond.methodLink RX7 22 yX7_start, Cond.instanceMethod yX7_start, Cond.selects RX7 yX7_start yX7_start, Cond.code yX7_start cX7_start 2 (some .int), Cond.methodLink RL 59 yX11_text, Cond.instanceMethod yX11_text, Cond.selects RX11 yX11_text yX11_text, Cond.code yX11_text cX11_text 2 (some .int)]
def wsL_law0_r15 : List Cond := [Cond.methodLink RL 60 yX10_part, Cond.instanceMethod yX10_part, Cond.selects RX10 yX10_part yX10_part, Cond.code yX10_part cX10_part 3 (some .boolean), Cond.fieldLink RX10 142 "NearWords$Words" "parts" "[I", Cond.methodLink RX10 139 yX9_has, Cond.instanceMethod yX9_has, Cond.selects RX9 yX9_has yX9_has, Cond.code yX9_has cX9_has 2 (some .boolean), Cond.methodLink RL 64 yX11_part, Cond.instanceMethod yX11_part, Cond.selects RX11 yX11_part yX11_part, Cond.code yX11_part cX11_part 3 (some .boolean), Cond.methodLink RX11 113 yX11_isWord, Cond.instanceMethod yX11_isWord, Cond.selects RX11 yX11_isWord yX11_isWord, Cond.code yX11_isWord cX11_isWord 2 (some .boolean), Cond.methodLink RL 65 yX10_apart, Cond.instanceMethod yX10_apart, Cond.selects RX10 yX10_apart yX10_apart, Cond.code yX10_apart cX10_apart 3 (some .int), Cond.fieldLink RX10 145 "NearWords$Words" "rows" "[I", Cond.methodLink RX10 148 yX9_start, Cond.methodLink RX10 151 yX3_distance]
def wsL_law0_r16 : List Cond := [Cond.instanceMethod yX3_distance, Cond.selects RX3 yX3_distance yX3_distance, Cond.code yX3_distance cX3_distance 12 (some .int), Cond.methodLink RX3 28 Lib.Math.min.name, Cond.static Lib.Math.min.name, Cond.initialized "java/lang/Math", Cond.code Lib.Math.min.name Lib.Math.min.code 2 (some .int), Cond.methodLink RL 68 yX11_apart, Cond.instanceMethod yX11_apart, Cond.selects RX11 yX11_apart yX11_apart, Cond.code yX11_apart cX11_apart 3 (some .int), Cond.methodLink RX11 123 yX11_distance, Cond.instanceMethod yX11_distance, Cond.selects RX11 yX11_distance yX11_distance, Cond.code yX11_distance cX11_distance 8 (some .int), Cond.methodLink RX11 117 Lib.Math.min.name, Cond.methodLink RL 69 yX10_from, Cond.instanceMethod yX10_from, Cond.selects RX10 yX10_from yX10_from, Cond.code yX10_from cX10_from 3 (some .int), Cond.methodLink RL 72 yX11_from, Cond.instanceMethod yX11_from, Cond.selects RX11 yX11_from yX11_from, Cond.code yX11_from cX11_from 3 (some .int)]
def wsL_law0_r17 : List Cond := [Cond.methodLink RL 73 yX10_centre, Cond.instanceMethod yX10_centre, Cond.selects RX10 yX10_centre yX10_centre, Cond.code yX10_centre cX10_centre 1 (some .int), Cond.fieldLink RX10 158 "NearWords$Survey" "radius" "I", Cond.methodLink RX10 155 yX5_refresh, Cond.instanceMethod yX5_refresh, Cond.selects RX5 yX5_refresh yX5_refresh, Cond.code yX5_refresh cX5_refresh 1 none, Cond.fieldLink RX5 45 "NearWords$Candidates" "words" "LNearWords$Words;", Cond.methodLink RX5 42 yX5_clear, Cond.instanceMethod yX5_clear, Cond.selects RX5 yX5_clear yX5_clear, Cond.code yX5_clear cX5_clear 2 none, Cond.methodLink RX5 51 yX9_hasNear, Cond.instanceMethod yX9_hasNear, Cond.selects RX9 yX9_hasNear yX9_hasNear, Cond.code yX9_hasNear cX9_hasNear 1 (some .boolean), Cond.methodLink RX9 35 yX9_having, Cond.instanceMethod yX9_having, Cond.selects RX9 yX9_having yX9_having, Cond.code yX9_having cX9_having 4 (some .int), Cond.methodLink RX5 57 yX5_lookAtAll, Cond.instanceMethod yX5_lookAtAll]
def wsL_law0_r18 : List Cond := [Cond.selects RX5 yX5_lookAtAll yX5_lookAtAll, Cond.code yX5_lookAtAll cX5_lookAtAll 4 none, Cond.fieldLink RX5 63 "NearWords$Candidates" "walk" "LNearWords$Walk;", Cond.fieldLink RX5 84 "NearWords$Walk" "length" "I", Cond.methodLink RX5 67 yX0_begin, Cond.instanceMethod yX0_begin, Cond.selects RX0 yX0_begin yX0_begin, Cond.code yX0_begin cX0_begin 1 (some .int), Cond.fieldLink RX0 39 "NearWords$Words" "length" "I", Cond.fieldLink RX0 51 "NearWords$Walk" "targets" "I", Cond.fieldLink RX0 54 "NearWords$Rules" "gap" "I", Cond.methodLink RX0 44 yX8_begin, Cond.instanceMethod yX8_begin, Cond.selects RX8 yX8_begin yX8_begin, Cond.code yX8_begin cX8_begin 3 none, Cond.methodLink RX0 48 yX0_aimAtAll, Cond.instanceMethod yX0_aimAtAll, Cond.selects RX0 yX0_aimAtAll yX0_aimAtAll, Cond.code yX0_aimAtAll cX0_aimAtAll 3 none, Cond.fieldLink RX0 63 "NearWords$Words" "size" "I", Cond.fieldLink RX0 66 "NearWords$Words" "parts" "[I", Cond.fieldLink RX0 69 "NearWords$Words" "rows" "[I", Cond.methodLink RX0 72 yX9_start, Cond.methodLink RX0 75 yX8_aimAt]
def wsL_law0_r19 : List Cond := [Cond.instanceMethod yX8_aimAt, Cond.selects RX8 yX8_aimAt yX8_aimAt, Cond.code yX8_aimAt cX8_aimAt 4 none, Cond.methodLink RX0 59 yX3_rowsOf, Cond.instanceMethod yX3_rowsOf, Cond.selects RX3 yX3_rowsOf yX3_rowsOf, Cond.code yX3_rowsOf cX3_rowsOf 4 (some .int), Cond.methodLink RX5 71 yX8_putFrom, Cond.instanceMethod yX8_putFrom, Cond.selects RX8 yX8_putFrom yX8_putFrom, Cond.code yX8_putFrom cX8_putFrom 3 none, Cond.methodLink RX8 53 yX8_put, Cond.instanceMethod yX8_put, Cond.selects RX8 yX8_put yX8_put, Cond.code yX8_put cX8_put 8 none, Cond.fieldLink RX8 41 "NearWords$Rules" "prices" "[I", Cond.fieldLink RX8 46 "NearWords$Rules" "swap" "I", Cond.methodLink RX8 49 yX8_putSwapped, Cond.instanceMethod yX8_putSwapped, Cond.selects RX8 yX8_putSwapped yX8_putSwapped, Cond.code yX8_putSwapped cX8_putSwapped 8 none, Cond.methodLink RX5 77 yX0_isFarEnough, Cond.instanceMethod yX0_isFarEnough, Cond.selects RX0 yX0_isFarEnough yX0_isFarEnough]
def wsL_law0_r20 : List Cond := [Cond.code yX0_isFarEnough cX0_isFarEnough 3 (some .boolean), Cond.fieldLink RX0 83 "NearWords$Walk" "sums" "[I", Cond.methodLink RX0 79 yX8_whole, Cond.instanceMethod yX8_whole, Cond.selects RX8 yX8_whole yX8_whole, Cond.code yX8_whole cX8_whole 1 (some .int), Cond.methodLink RX5 80 yX5_lookAtOne, Cond.instanceMethod yX5_lookAtOne, Cond.selects RX5 yX5_lookAtOne yX5_lookAtOne, Cond.code yX5_lookAtOne cX5_lookAtOne 7 none, Cond.fieldLink RX5 94 "NearWords$Candidates" "near" "I", Cond.fieldLink RX5 97 "NearWords$Walk" "sums" "[I", Cond.methodLink RX5 91 yX8_whole, Cond.methodLink RX5 100 yX8_spotsOfRow, Cond.instanceMethod yX8_spotsOfRow, Cond.selects RX8 yX8_spotsOfRow yX8_spotsOfRow, Cond.code yX8_spotsOfRow cX8_spotsOfRow 1 (some .int), Cond.methodLink RX5 103 yX8_packedRow, Cond.instanceMethod yX8_packedRow, Cond.selects RX8 yX8_packedRow yX8_packedRow, Cond.code yX8_packedRow cX8_packedRow 1 (some .int), Cond.methodLink RX5 87 yX8_advance, Cond.instanceMethod yX8_advance, Cond.selects RX8 yX8_advance yX8_advance]
def wsL_law0_r21 : List Cond := [Cond.code yX8_advance cX8_advance 2 (some .int), Cond.methodLink RX8 56 yX3_advance, Cond.instanceMethod yX3_advance, Cond.selects RX3 yX3_advance yX3_advance, Cond.code yX3_advance cX3_advance 6 (some .int), Cond.methodLink RX5 60 yX5_addUp, Cond.instanceMethod yX5_addUp, Cond.selects RX5 yX5_addUp yX5_addUp, Cond.code yX5_addUp cX5_addUp 2 none, Cond.methodLink RL 76 yX11_centre, Cond.instanceMethod yX11_centre, Cond.selects RX11 yX11_centre yX11_centre, Cond.code yX11_centre cX11_centre 2 (some .int), Cond.methodLink RX11 157 yX11_nearest, Cond.instanceMethod yX11_nearest, Cond.selects RX11 yX11_nearest yX11_nearest, Cond.code yX11_nearest cX11_nearest 6 (some .int), Cond.methodLink RX11 141 yX11_many, Cond.instanceMethod yX11_many, Cond.selects RX11 yX11_many yX11_many, Cond.code yX11_many cX11_many 4 (some .int), Cond.methodLink RX11 145 yX11_knows, Cond.instanceMethod yX11_knows, Cond.selects RX11 yX11_knows yX11_knows]
def wsL_law0_r22 : List Cond := [Cond.code yX11_knows cX11_knows 3 none, Cond.methodLink RX11 130 yX11_rows, Cond.instanceMethod yX11_rows, Cond.selects RX11 yX11_rows yX11_rows, Cond.code yX11_rows cX11_rows 1 (some .int), Cond.methodLink RX11 127 yX11_power, Cond.static yX11_power, Cond.code yX11_power cX11_power 4 (some .int), Cond.methodLink RX11 134 yX11_lays, Cond.instanceMethod yX11_lays, Cond.selects RX11 yX11_lays yX11_lays, Cond.code yX11_lays cX11_lays 5 none, Cond.methodLink RX11 148 yX11_isCandidate, Cond.instanceMethod yX11_isCandidate, Cond.selects RX11 yX11_isCandidate yX11_isCandidate, Cond.code yX11_isCandidate cX11_isCandidate 3 (some .boolean), Cond.methodLink RX11 151 yX11_radius, Cond.instanceMethod yX11_radius, Cond.selects RX11 yX11_radius yX11_radius, Cond.code yX11_radius cX11_radius 4 (some .int), Cond.methodLink RX11 138 Lib.Math.max.name, Cond.static Lib.Math.max.name, Cond.code Lib.Math.max.name Lib.Math.max.code 2 (some .int), Cond.methodLink RX11 154 yX11_radiusBut]
def wsL_law0_r23 : List Cond := [Cond.instanceMethod yX11_radiusBut, Cond.selects RX11 yX11_radiusBut yX11_radiusBut, Cond.code yX11_radiusBut cX11_radiusBut 8 (some .int), Cond.methodLink RL 77 yX10_centreAt, Cond.instanceMethod yX10_centreAt, Cond.selects RX10 yX10_centreAt yX10_centreAt, Cond.code yX10_centreAt cX10_centreAt 2 (some .int), Cond.fieldLink RX10 161 "NearWords$Survey" "centreRow" "I", Cond.methodLink RX10 164 yX9_letterOfRow, Cond.instanceMethod yX9_letterOfRow, Cond.selects RX9 yX9_letterOfRow yX9_letterOfRow, Cond.code yX9_letterOfRow cX9_letterOfRow 3 (some .int), Cond.methodLink RX9 38 yX8_letterAt, Cond.static yX8_letterAt, Cond.code yX8_letterAt cX8_letterAt 3 (some .int), Cond.methodLink RL 80 yX11_centreAt, Cond.instanceMethod yX11_centreAt, Cond.selects RX11 yX11_centreAt yX11_centreAt, Cond.code yX11_centreAt cX11_centreAt 2 (some .int), Cond.methodLink RX11 160 yX11_letterOf, Cond.instanceMethod yX11_letterOf, Cond.selects RX11 yX11_letterOf yX11_letterOf, Cond.code yX11_letterOf cX11_letterOf 3 (some .int), Cond.methodLink RL 81 yX10_without]
def wsL_law0_r24 : List Cond := [Cond.instanceMethod yX10_without, Cond.selects RX10 yX10_without yX10_without, Cond.code yX10_without cX10_without 3 (some .int), Cond.constant RX10 171 (2147483647), Cond.methodLink RX10 168 yX10_keyWithout, Cond.instanceMethod yX10_keyWithout, Cond.selects RX10 yX10_keyWithout yX10_keyWithout, Cond.code yX10_keyWithout cX10_keyWithout 2 (some .int), Cond.methodLink RX10 210 yX9_hasNear, Cond.methodLink RX10 203 yX4_refresh, Cond.instanceMethod yX4_refresh, Cond.selects RX4 yX4_refresh yX4_refresh, Cond.code yX4_refresh cX4_refresh 2 none, Cond.fieldLink RX4 36 "NearWords$Candidates" "words" "LNearWords$Words;", Cond.constant RX4 48 (2147483647), Cond.methodLink RX4 42 yX9_having, Cond.methodLink RX4 49 yX4_lookAtAll, Cond.instanceMethod yX4_lookAtAll, Cond.selects RX4 yX4_lookAtAll yX4_lookAtAll, Cond.code yX4_lookAtAll cX4_lookAtAll 4 none, Cond.fieldLink RX4 58 "NearWords$Candidates" "walk" "LNearWords$Walk;", Cond.fieldLink RX4 66 "NearWords$Candidates" "near" "I", Cond.fieldLink RX4 79 "NearWords$Walk" "sums" "[I", Cond.fieldLink RX4 93 "NearWords$Walk" "length" "I"]
def wsL_law0_r25 : List Cond := [Cond.methodLink RX4 62 yX0_begin, Cond.methodLink RX4 69 yX8_putFrom, Cond.methodLink RX4 75 yX0_isFarEnough, Cond.methodLink RX4 82 yX8_whole, Cond.methodLink RX4 85 yX4_sortByDistance, Cond.instanceMethod yX4_sortByDistance, Cond.selects RX4 yX4_sortByDistance yX4_sortByDistance, Cond.code yX4_sortByDistance cX4_sortByDistance 7 none, Cond.methodLink RX4 89 yX4_holdNearest, Cond.instanceMethod yX4_holdNearest, Cond.selects RX4 yX4_holdNearest yX4_holdNearest, Cond.code yX4_holdNearest cX4_holdNearest 6 none, Cond.fieldLink RX4 106 "NearWords$Candidates" "bits" "[I", Cond.methodLink RX4 99 yX8_packedRow, Cond.methodLink RX4 102 yX4_hold, Cond.instanceMethod yX4_hold, Cond.selects RX4 yX4_hold yX4_hold, Cond.code yX4_hold cX4_hold 3 none, Cond.methodLink RX4 96 yX8_advance, Cond.methodLink RX4 52 yX4_holdSmallerSets, Cond.instanceMethod yX4_holdSmallerSets, Cond.selects RX4 yX4_holdSmallerSets yX4_holdSmallerSets, Cond.code yX4_holdSmallerSets cX4_holdSmallerSets 4 none, Cond.methodLink RX4 55 yX4_coverAll]
def wsL_law0_r26 : List Cond := [Cond.instanceMethod yX4_coverAll, Cond.selects RX4 yX4_coverAll yX4_coverAll, Cond.code yX4_coverAll cX4_coverAll 3 none, Cond.methodLink RX4 109 yX4_reachOf, Cond.instanceMethod yX4_reachOf, Cond.selects RX4 yX4_reachOf yX4_reachOf, Cond.code yX4_reachOf cX4_reachOf 2 (some .int), Cond.methodLink RX4 112 yX4_partOnce, Cond.instanceMethod yX4_partOnce, Cond.selects RX4 yX4_partOnce yX4_partOnce, Cond.code yX4_partOnce cX4_partOnce 5 none, Cond.methodLink RX4 115 Lib.Math.max.name, Cond.methodLink RX10 268 yX4_leastWithout, Cond.instanceMethod yX4_leastWithout, Cond.selects RX4 yX4_leastWithout yX4_leastWithout, Cond.code yX4_leastWithout cX4_leastWithout 5 (some .int), Cond.methodLink RX4 121 yJ6_bitCount_0f7a4, Cond.static yJ6_bitCount_0f7a4, Cond.initialized RJ6, Cond.code yJ6_bitCount_0f7a4 cJ6_bitCount_0f7a4 1 (some .int), Cond.constant RJ6 265 (1431655765), Cond.constant RJ6 266 (858993459), Cond.constant RJ6 267 (252645135), Cond.methodLink RX10 172 yX4_reachOf]
def wsL_law0_r27 : List Cond := [Cond.methodLink RL 84 yX11_without, Cond.instanceMethod yX11_without, Cond.selects RX11 yX11_without yX11_without, Cond.code yX11_without cX11_without 3 (some .int), Cond.methodLink RL 85 yX10_leftOut, Cond.instanceMethod yX10_leftOut, Cond.selects RX10 yX10_leftOut yX10_leftOut, Cond.code yX10_leftOut cX10_leftOut 3 (some .int), Cond.methodLink RX10 175 yX4_rowOf, Cond.instanceMethod yX4_rowOf, Cond.selects RX4 yX4_rowOf yX4_rowOf, Cond.code yX4_rowOf cX4_rowOf 2 (some .int), Cond.methodLink RX10 178 yX0_furtherThan, Cond.instanceMethod yX0_furtherThan, Cond.selects RX0 yX0_furtherThan yX0_furtherThan, Cond.code yX0_furtherThan cX0_furtherThan 5 (some .int), Cond.methodLink RX0 86 yX8_letterAt, Cond.methodLink RX0 90 yX3_distance, Cond.methodLink RL 88 yX11_leftOut, Cond.instanceMethod yX11_leftOut, Cond.selects RX11 yX11_leftOut yX11_leftOut, Cond.code yX11_leftOut cX11_leftOut 6 (some .int), Cond.methodLink RL 89 yX10_within, Cond.instanceMethod yX10_within]
def wsL_law0_r28 : List Cond := [Cond.selects RX10 yX10_within yX10_within, Cond.code yX10_within cX10_within 2 (some .int), Cond.fieldLink RX10 184 "NearWords$Survey" "counts" "[I", Cond.methodLink RX10 181 yX10_asksWithin, Cond.instanceMethod yX10_asksWithin, Cond.selects RX10 yX10_asksWithin yX10_asksWithin, Cond.code yX10_asksWithin cX10_asksWithin 2 (some .boolean), Cond.methodLink RL 92 yX11_within_, Cond.instanceMethod yX11_within_, Cond.selects RX11 yX11_within_ yX11_within_, Cond.code yX11_within_ cX11_within_ 4 (some .int), Cond.methodLink RX11 163 yX11_isAsked, Cond.instanceMethod yX11_isAsked, Cond.selects RX11 yX11_isAsked yX11_isAsked, Cond.code yX11_isAsked cX11_isAsked 2 (some .boolean), Cond.methodLink RL 93 yX10_lettersAt, Cond.instanceMethod yX10_lettersAt, Cond.selects RX10 yX10_lettersAt yX10_lettersAt, Cond.code yX10_lettersAt cX10_lettersAt 3 (some .int), Cond.fieldLink RX10 187 "NearWords$Survey" "seen" "[I", Cond.methodLink RX10 190 yX8_spotAt, Cond.static yX8_spotAt, Cond.code yX8_spotAt cX8_spotAt 2 (some .int), Cond.methodLink RL 96 yX11_lettersAt]
def wsL_law0_r29 : List Cond := [Cond.instanceMethod yX11_lettersAt, Cond.selects RX11 yX11_lettersAt yX11_lettersAt, Cond.code yX11_lettersAt cX11_lettersAt 5 (some .int), Cond.methodLink RL 97 yX10_core, Cond.instanceMethod yX10_core, Cond.selects RX10 yX10_core yX10_core, Cond.code yX10_core cX10_core 3 (some .int), Cond.methodLink RX10 195 yX10_coreSet, Cond.instanceMethod yX10_coreSet, Cond.selects RX10 yX10_coreSet yX10_coreSet, Cond.code yX10_coreSet cX10_coreSet 2 (some .int), Cond.methodLink RX10 204 yX4_leastNotHeld, Cond.instanceMethod yX4_leastNotHeld, Cond.selects RX4 yX4_leastNotHeld yX4_leastNotHeld, Cond.code yX4_leastNotHeld cX4_leastNotHeld 6 (some .int), Cond.methodLink RX10 198 yJ6_bitCount_0f7a4, Cond.methodLink RL 100 yX11_core, Cond.instanceMethod yX11_core, Cond.selects RX11 yX11_core yX11_core, Cond.code yX11_core cX11_core 2 (some .int), Cond.methodLink RX11 176 yX11_coreOf, Cond.instanceMethod yX11_coreOf, Cond.selects RX11 yX11_coreOf yX11_coreOf, Cond.code yX11_coreOf cX11_coreOf 5 (some .int)]
def wsL_law0_r30 : List Cond := [Cond.methodLink RX11 166 yX11_holds, Cond.instanceMethod yX11_holds, Cond.selects RX11 yX11_holds yX11_holds, Cond.code yX11_holds cX11_holds 5 none, Cond.methodLink RX11 170 yX11_nearBits, Cond.instanceMethod yX11_nearBits, Cond.selects RX11 yX11_nearBits yX11_nearBits, Cond.code yX11_nearBits cX11_nearBits 3 (some .int), Cond.methodLink RX11 173 yX11_size, Cond.static yX11_size, Cond.code yX11_size cX11_size 3 (some .int), Cond.methodLink RL 101 yX10_coreSet, Cond.methodLink RL 104 yX11_coreSet, Cond.instanceMethod yX11_coreSet, Cond.selects RX11 yX11_coreSet yX11_coreSet, Cond.code yX11_coreSet cX11_coreSet 2 (some .int), Cond.methodLink RL 105 yX10_cover, Cond.instanceMethod yX10_cover, Cond.selects RX10 yX10_cover yX10_cover, Cond.code yX10_cover cX10_cover 2 (some .int), Cond.methodLink RX10 207 yX4_fewestSets, Cond.instanceMethod yX4_fewestSets, Cond.selects RX4 yX4_fewestSets yX4_fewestSets, Cond.code yX4_fewestSets cX4_fewestSets 3 (some .int)]
def wsL_law0_r31 : List Cond := [Cond.methodLink RL 108 yX11_cover, Cond.instanceMethod yX11_cover, Cond.selects RX11 yX11_cover yX11_cover, Cond.code yX11_cover cX11_cover 3 (some .int), Cond.methodLink RX11 179 yX11_coverOf, Cond.instanceMethod yX11_coverOf, Cond.selects RX11 yX11_coverOf yX11_coverOf, Cond.code yX11_coverOf cX11_coverOf 5 (some .int), Cond.methodLink RL 109 yX10_centres, Cond.instanceMethod yX10_centres, Cond.selects RX10 yX10_centres yX10_centres, Cond.code yX10_centres cX10_centres 3 (some .int), Cond.fieldLink RX10 214 "NearWords$Sets" "covered" "[I", Cond.methodLink RL 112 yX11_centres, Cond.instanceMethod yX11_centres, Cond.selects RX11 yX11_centres yX11_centres, Cond.code yX11_centres cX11_centres 3 (some .int), Cond.methodLink RL 113 yX10_edits, Cond.instanceMethod yX10_edits, Cond.selects RX10 yX10_edits yX10_edits, Cond.code yX10_edits cX10_edits 3 (some .int), Cond.methodLink RX10 217 yX1_editing, Cond.instanceMethod yX1_editing, Cond.selects RX1 yX1_editing yX1_editing]
def wsL_law0_r32 : List Cond := [Cond.code yX1_editing cX1_editing 6 (some .int), Cond.fieldLink RX1 48 "NearWords$Words" "length" "I", Cond.methodLink RX1 40 yX1_firstLine, Cond.instanceMethod yX1_firstLine, Cond.selects RX1 yX1_firstLine yX1_firstLine, Cond.code yX1_firstLine cX1_firstLine 3 none, Cond.fieldLink RX1 51 "NearWords$Rules" "drop" "I", Cond.methodLink RX1 44 yX1_nextLine, Cond.instanceMethod yX1_nextLine, Cond.selects RX1 yX1_nextLine yX1_nextLine, Cond.code yX1_nextLine cX1_nextLine 15 none, Cond.fieldLink RX1 60 "NearWords$Rules" "prices" "[I", Cond.fieldLink RX1 63 "NearWords$Words" "rows" "[I", Cond.methodLink RX1 56 yX9_start, Cond.methodLink RL 116 yX11_edits_, Cond.instanceMethod yX11_edits_, Cond.selects RX11 yX11_edits_ yX11_edits_, Cond.code yX11_edits_ cX11_edits_ 3 (some .int), Cond.methodLink RX11 191 yX11_edits, Cond.instanceMethod yX11_edits, Cond.selects RX11 yX11_edits yX11_edits, Cond.code yX11_edits cX11_edits 10 (some .int), Cond.methodLink RL 117 yX10_editsFrom, Cond.instanceMethod yX10_editsFrom]
def wsL_law0_r33 : List Cond := [Cond.selects RX10 yX10_editsFrom yX10_editsFrom, Cond.code yX10_editsFrom cX10_editsFrom 3 (some .int), Cond.methodLink RL 120 yX11_editsFrom, Cond.instanceMethod yX11_editsFrom, Cond.selects RX11 yX11_editsFrom yX11_editsFrom, Cond.code yX11_editsFrom cX11_editsFrom 3 (some .int), Cond.methodLink RL 121 yX10_middle, Cond.instanceMethod yX10_middle, Cond.selects RX10 yX10_middle yX10_middle, Cond.code yX10_middle cX10_middle 1 (some .int), Cond.fieldLink RX10 222 "NearWords$Middle" "sum" "I", Cond.methodLink RX10 221 yX1_refresh, Cond.instanceMethod yX1_refresh, Cond.selects RX1 yX1_refresh yX1_refresh, Cond.code yX1_refresh cX1_refresh 2 none, Cond.fieldLink RX1 74 "NearWords$Words" "size" "I", Cond.methodLink RX1 66 yX9_hasNear, Cond.methodLink RX1 70 yX1_leastOfNear, Cond.instanceMethod yX1_leastOfNear, Cond.selects RX1 yX1_leastOfNear yX1_leastOfNear, Cond.code yX1_leastOfNear cX1_leastOfNear 3 (some .int), Cond.constant RX1 80 (2147483646), Cond.fieldLink RX1 81 "NearWords$Words" "parts" "[I", Cond.methodLink RX1 87 Lib.Math.min.name]
def wsL_law0_r34 : List Cond := [Cond.methodLink RX1 84 yX1_sumFrom, Cond.instanceMethod yX1_sumFrom, Cond.selects RX1 yX1_sumFrom yX1_sumFrom, Cond.code yX1_sumFrom cX1_sumFrom 4 (some .int), Cond.methodLink RX1 93 yX1_editing, Cond.methodLink RX1 77 yX1_search, Cond.instanceMethod yX1_search, Cond.selects RX1 yX1_search yX1_search, Cond.code yX1_search cX1_search 5 none, Cond.methodLink RX1 97 yX3_rowsOf, Cond.methodLink RX1 100 yX1_descend, Cond.instanceMethod yX1_descend, Cond.selects RX1 yX1_descend yX1_descend, Cond.code yX1_descend cX1_descend 5 (some .int), Cond.methodLink RX1 110 arraycopyName, Cond.methodLink RX1 107 yX1_put, Cond.instanceMethod yX1_put, Cond.selects RX1 yX1_put yX1_put, Cond.code yX1_put cX1_put 5 (some .int), Cond.methodLink RX1 116 yX1_leastEnd, Cond.instanceMethod yX1_leastEnd, Cond.selects RX1 yX1_leastEnd yX1_leastEnd, Cond.code yX1_leastEnd cX1_leastEnd 10 (some .int), Cond.constant RX1 120 (2147483647)]
def wsL_law0_r35 : List Cond := [Cond.methodLink RX1 103 yX3_advance, Cond.methodLink RL 124 yX11_middle, Cond.instanceMethod yX11_middle, Cond.selects RX11 yX11_middle yX11_middle, Cond.code yX11_middle cX11_middle 1 (some .int), Cond.fieldLink RX11 198 "NearWordsModel" "middleSum" "I", Cond.methodLink RX11 207 yX11_hasMiddle, Cond.instanceMethod yX11_hasMiddle, Cond.selects RX11 yX11_hasMiddle yX11_hasMiddle, Cond.code yX11_hasMiddle cX11_hasMiddle 3 (some .boolean), Cond.fieldLink RX11 195 "NearWordsModel" "middleSize" "I", Cond.methodLink RX11 204 yX11_tries, Cond.instanceMethod yX11_tries, Cond.selects RX11 yX11_tries yX11_tries, Cond.code yX11_tries cX11_tries 5 none, Cond.methodLink RX11 201 yX11_goesOn, Cond.instanceMethod yX11_goesOn, Cond.selects RX11 yX11_goesOn yX11_goesOn, Cond.code yX11_goesOn cX11_goesOn 7 none, Cond.methodLink RL 125 yX10_middleLength, Cond.instanceMethod yX10_middleLength, Cond.selects RX10 yX10_middleLength yX10_middleLength, Cond.code yX10_middleLength cX10_middleLength 1 (some .int), Cond.fieldLink RX10 225 "NearWords$Middle" "length" "I"]
def wsL_law0_r36 : List Cond := [Cond.methodLink RL 128 yX11_middleLength, Cond.instanceMethod yX11_middleLength, Cond.selects RX11 yX11_middleLength yX11_middleLength, Cond.code yX11_middleLength cX11_middleLength 1 (some .int), Cond.methodLink RL 129 yX10_middleAt, Cond.instanceMethod yX10_middleAt, Cond.selects RX10 yX10_middleAt yX10_middleAt, Cond.code yX10_middleAt cX10_middleAt 2 (some .int), Cond.fieldLink RX10 226 "NearWords$Middle" "found" "[I", Cond.methodLink RL 132 yX11_middleAt, Cond.instanceMethod yX11_middleAt, Cond.selects RX11 yX11_middleAt yX11_middleAt, Cond.code yX11_middleAt cX11_middleAt 2 (some .int), Cond.methodLink RL 133 yX10_median, Cond.instanceMethod yX10_median, Cond.selects RX10 yX10_median yX10_median, Cond.code yX10_median cX10_median 1 (some .int), Cond.fieldLink RX10 229 "NearWords$Survey" "sum" "I", Cond.methodLink RL 136 yX11_median, Cond.instanceMethod yX11_median, Cond.selects RX11 yX11_median yX11_median, Cond.code yX11_median cX11_median 2 (some .int), Cond.methodLink RX11 188 yX11_leastSum, Cond.instanceMethod yX11_leastSum]
def wsL_law0_r37 : List Cond := [Cond.selects RX11 yX11_leastSum yX11_leastSum, Cond.code yX11_leastSum cX11_leastSum 5 (some .int), Cond.fieldLink RX11 182 "NearWordsModel" "sameSums" "I", Cond.methodLink RX11 185 yX11_sumOf, Cond.instanceMethod yX11_sumOf, Cond.selects RX11 yX11_sumOf yX11_sumOf, Cond.code yX11_sumOf cX11_sumOf 4 (some .int), Cond.methodLink RL 137 yX10_medianAt, Cond.instanceMethod yX10_medianAt, Cond.selects RX10 yX10_medianAt yX10_medianAt, Cond.code yX10_medianAt cX10_medianAt 2 (some .int), Cond.fieldLink RX10 230 "NearWords$Survey" "medianRow" "I", Cond.methodLink RL 140 yX11_medianAt, Cond.instanceMethod yX11_medianAt, Cond.selects RX11 yX11_medianAt yX11_medianAt, Cond.code yX11_medianAt cX11_medianAt 2 (some .int), Cond.methodLink RL 141 yX10_medians, Cond.instanceMethod yX10_medians, Cond.selects RX10 yX10_medians yX10_medians, Cond.code yX10_medians cX10_medians 1 (some .int), Cond.fieldLink RX10 233 "NearWords$Survey" "medians" "I", Cond.methodLink RL 144 yX11_medians, Cond.instanceMethod yX11_medians, Cond.selects RX11 yX11_medians yX11_medians]
def wsL_law0_r38 : List Cond := [Cond.code yX11_medians cX11_medians 1 (some .int), Cond.methodLink RL 145 yX10_motif, Cond.instanceMethod yX10_motif, Cond.selects RX10 yX10_motif yX10_motif, Cond.code yX10_motif cX10_motif 2 (some .int), Cond.fieldLink RX10 241 "NearWords$Motif" "reach" "[I", Cond.methodLink RX10 236 yX7_allHave, Cond.instanceMethod yX7_allHave, Cond.selects RX7 yX7_allHave yX7_allHave, Cond.code yX7_allHave cX7_allHave 3 (some .boolean), Cond.methodLink RX10 239 yX2_refresh, Cond.instanceMethod yX2_refresh, Cond.selects RX2 yX2_refresh yX2_refresh, Cond.code yX2_refresh cX2_refresh 4 none, Cond.constant RX2 41 (2147483647), Cond.fieldLink RX2 46 "NearWords$Texts" "size" "I", Cond.fieldLink RX2 56 "NearWords$Texts" "rows" "[I", Cond.methodLink RX2 42 yX8_begin, Cond.methodLink RX2 52 yX7_piecesOf, Cond.instanceMethod yX7_piecesOf, Cond.selects RX7 yX7_piecesOf yX7_piecesOf, Cond.code yX7_piecesOf cX7_piecesOf 3 (some .int), Cond.methodLink RX2 59 yX7_start, Cond.methodLink RX2 63 yX8_aimAt]
def wsL_law0_r39 : List Cond := [Cond.methodLink RX2 67 yX3_rowsOf, Cond.methodLink RX2 72 yX2_descend, Cond.instanceMethod yX2_descend, Cond.selects RX2 yX2_descend yX2_descend, Cond.code yX2_descend cX2_descend 5 (some .int), Cond.methodLink RX2 78 yX8_put, Cond.methodLink RX2 81 yX2_leastReach, Cond.instanceMethod yX2_leastReach, Cond.selects RX2 yX2_leastReach yX2_leastReach, Cond.code yX2_leastReach cX2_leastReach 7 (some .int), Cond.methodLink RX2 92 Lib.Math.max.name, Cond.methodLink RX2 88 yX2_leastSum, Cond.instanceMethod yX2_leastSum, Cond.selects RX2 yX2_leastSum yX2_leastSum, Cond.code yX2_leastSum cX2_leastSum 9 (some .int), Cond.fieldLink RX2 97 "NearWords$Walk" "width" "I", Cond.fieldLink RX2 100 "NearWords$Rules" "swap" "I", Cond.fieldLink RX2 103 "NearWords$Walk" "length" "I", Cond.fieldLink RX2 106 "NearWords$Walk" "sums" "[I", Cond.methodLink RX2 84 yX8_packedRow, Cond.methodLink RX2 75 yX8_advance, Cond.methodLink RL 148 yX11_motif, Cond.instanceMethod yX11_motif, Cond.selects RX11 yX11_motif yX11_motif]
def wsL_law0_r40 : List Cond := [Cond.code yX11_motif cX11_motif 2 (some .int), Cond.fieldLink RX11 217 "NearWordsModel" "motifFar" "I", Cond.methodLink RX11 220 yX11_hasMotif, Cond.instanceMethod yX11_hasMotif, Cond.selects RX11 yX11_hasMotif yX11_hasMotif, Cond.code yX11_hasMotif cX11_hasMotif 5 (some .boolean), Cond.fieldLink RX11 211 "NearWordsModel" "motifRow" "I", Cond.methodLink RX11 214 yX11_pieceFar, Cond.instanceMethod yX11_pieceFar, Cond.selects RX11 yX11_pieceFar yX11_pieceFar, Cond.code yX11_pieceFar cX11_pieceFar 5 (some .int), Cond.methodLink RL 149 yX10_motifAt, Cond.instanceMethod yX10_motifAt, Cond.selects RX10 yX10_motifAt yX10_motifAt, Cond.code yX10_motifAt cX10_motifAt 3 (some .int), Cond.fieldLink RX10 244 "NearWords$Motif" "found" "[I", Cond.methodLink RX10 245 yX8_letterAt, Cond.methodLink RL 152 yX11_motifAt, Cond.instanceMethod yX11_motifAt, Cond.selects RX11 yX11_motifAt yX11_motifAt, Cond.code yX11_motifAt cX11_motifAt 3 (some .int), Cond.methodLink RL 153 yL_motifIn, Cond.static yL_motifIn, Cond.initialized RL]
def wsL_law0_r41 : List Cond := [Cond.codeWith yL_motifIn cL_motifIn 5 (some .int) [(0, 10, 13, 13)], Cond.classLink RL 13 "java/util/NoSuchElementException", Cond.methodLink RL 7 yX10_motifIn, Cond.instanceMethod yX10_motifIn, Cond.selects RX10 yX10_motifIn yX10_motifIn, Cond.code yX10_motifIn cX10_motifIn 3 (some .int), Cond.classLink RX10 250 "java/util/NoSuchElementException", Cond.initialized "java/util/NoSuchElementException", Cond.methodLink RX10 249 yX7_has, Cond.instanceMethod yX7_has, Cond.selects RX7 yX7_has yX7_has, Cond.code yX7_has cX7_has 2 (some .boolean), Cond.methodLink RX10 259 yX2_nearestPiece, Cond.instanceMethod yX2_nearestPiece, Cond.selects RX2 yX2_nearestPiece yX2_nearestPiece, Cond.code yX2_nearestPiece cX2_nearestPiece 7 (some .int), Cond.methodLink RX2 109 yX8_letterAt, Cond.methodLink RX2 112 yX3_distance, Cond.methodLink RL 158 yX11_motifIn, Cond.instanceMethod yX11_motifIn, Cond.selects RX11 yX11_motifIn yX11_motifIn, Cond.code yX11_motifIn cX11_motifIn 3 (some .int), Cond.methodLink RX11 223 yX11_nearestPiece, Cond.instanceMethod yX11_nearestPiece]
def wsL_law0_r42 : List Cond := [Cond.selects RX11 yX11_nearestPiece yX11_nearestPiece, Cond.code yX11_nearestPiece cX11_nearestPiece 5 (some .int), Cond.methodLink RL 159 yX11_thrown, Cond.instanceMethod yX11_thrown, Cond.selects RX11 yX11_thrown yX11_thrown, Cond.code yX11_thrown cX11_thrown 1 (some .int), Cond.methodLink RL 162 yX10_of, Cond.instanceMethod yX10_of, Cond.selects RX10 yX10_of yX10_of, Cond.code yX10_of cX10_of 3 (some .int), Cond.methodLink RL 165 yX11_of, Cond.instanceMethod yX11_of, Cond.selects RX11 yX11_of yX11_of, Cond.code yX11_of cX11_of 3 (some .int), Cond.methodLink RL 166 yX10_count, Cond.instanceMethod yX10_count, Cond.selects RX10 yX10_count yX10_count, Cond.code yX10_count cX10_count 2 (some .int), Cond.fieldLink RX10 265 "NearWords$Texts" "lengths" "[I", Cond.methodLink RX10 262 yX9_having, Cond.methodLink RL 169 yX11_count, Cond.instanceMethod yX11_count, Cond.selects RX11 yX11_count yX11_count, Cond.code yX11_count cX11_count 2 (some .int)]
def wsL_law0 : List Cond := (wsL_law0_r1 ++ (wsL_law0_r2 ++ (wsL_law0_r3 ++ (wsL_law0_r4 ++ (wsL_law0_r5 ++ (wsL_law0_r6 ++ (wsL_law0_r7 ++ (wsL_law0_r8 ++ (wsL_law0_r9 ++ (wsL_law0_r10 ++ (wsL_law0_r11 ++ (wsL_law0_r12 ++ (wsL_law0_r13 ++ (wsL_law0_r14 ++ (wsL_law0_r15 ++ (wsL_law0_r16 ++ (wsL_law0_r17 ++ (wsL_law0_r18 ++ (wsL_law0_r19 ++ (wsL_law0_r20 ++ (wsL_law0_r21 ++ (wsL_law0_r22 ++ (wsL_law0_r23 ++ (wsL_law0_r24 ++ (wsL_law0_r25 ++ (wsL_law0_r26 ++ (wsL_law0_r27 ++ (wsL_law0_r28 ++ (wsL_law0_r29 ++ (wsL_law0_r30 ++ (wsL_law0_r31 ++ (wsL_law0_r32 ++ (wsL_law0_r33 ++ (wsL_law0_r34 ++ (wsL_law0_r35 ++ (wsL_law0_r36 ++ (wsL_law0_r37 ++ (wsL_law0_r38 ++ (wsL_law0_r39 ++ (wsL_law0_r40 ++ (wsL_law0_r41 ++ wsL_law0_r42))))))))))))))))))))))))))))))))))))))))) ++ wsX100 ++ wsX110 ++ wsX30 ++ wsX60 ++ wsX90 ++ wsX70 ++ wsX00 ++ wsX50 ++ wsX40 ++ wsX10 ++ wsX20 ++ wsX80 ++ ([] : List Cond)
abbrev vwCl : List vw_C := [(RX0, TX0, 6), (RX1, TX1, 8), (RX2, TX2, 6), (RX3, TX3, 5), (RX4, TX4, 7), (RX5, TX5, 9), (RX6, TX6, 3), (RX7, TX7, 3), (RX8, TX8, 9), (RX9, TX9, 4), (RX10, TX10, 9), (RX11, TX11, 34)]
end
section
theorem gT_base : ∀ w, w ∈ (wsL_law0_r1 ++ (wsL_law0_r2 ++ (wsL_law0_r3 ++ (wsL_law0_r4 ++ (wsL_law0_r5 ++ (wsL_law0_r6 ++ (wsL_law0_r7 ++ (wsL_law0_r8 ++ (wsL_law0_r9 ++ (wsL_law0_r10 ++ (wsL_law0_r11 ++ (wsL_law0_r12 ++ (wsL_law0_r13 ++ (wsL_law0_r14 ++ (wsL_law0_r15 ++ (wsL_law0_r16 ++ (wsL_law0_r17 ++ (wsL_law0_r18 ++ (wsL_law0_r19 ++ (wsL_law0_r20 ++ (wsL_law0_r21 ++ (wsL_law0_r22 ++ (wsL_law0_r23 ++ (wsL_law0_r24 ++ (wsL_law0_r25 ++ (wsL_law0_r26 ++ (wsL_law0_r27 ++ (wsL_law0_r28 ++ (wsL_law0_r29 ++ (wsL_law0_r30 ++ (wsL_law0_r31 ++ (wsL_law0_r32 ++ (wsL_law0_r33 ++ (wsL_law0_r34 ++ (wsL_law0_r35 ++ (wsL_law0_r36 ++ (wsL_law0_r37 ++ (wsL_law0_r38 ++ (wsL_law0_r39 ++ (wsL_law0_r40 ++ (wsL_law0_r41 ++ wsL_law0_r42))))))))))))))))))))))))))))))))))))))))) → w ∈ wsL_law0 := fun _ h => List.mem_append_left _ (List.mem_append_left _ (List.mem_append_left _ (List.mem_append_left _ (List.mem_append_left _ (List.mem_append_left _ (List.mem_append_left _ (List.mem_append_left _ (List.mem_append_left _ (List.mem_append_left _ (List.mem_append_left _ (List.mem_append_left _ (List.mem_append_left _ (h)))))))))))))
theorem gT_c1 : ∀ w ∈ wsL_law0_r1, w ∈ wsL_law0 := fun w h => gT_base w (List.mem_append_left _ h)
theorem gT_c2 : ∀ w ∈ wsL_law0_r2, w ∈ wsL_law0 := fun w h => gT_base w (List.mem_append_right _ (List.mem_append_left _ h))
theorem gT_c3 : ∀ w ∈ wsL_law0_r3, w ∈ wsL_law0 := fun w h => gT_base w (List.mem_append_right _ (List.mem_append_right _ (List.mem_append_left _ h)))
theorem gT_c4 : ∀ w ∈ wsL_law0_r4, w ∈ wsL_law0 := fun w h => gT_base w (List.mem_append_right _ (List.mem_append_right _ (List.mem_append_right _ (List.mem_append_left _ h))))
theorem gT_c5 : ∀ w ∈ wsL_law0_r5, w ∈ wsL_law0 := fun w h => gT_base w (List.mem_append_right _ (List.mem_append_right _ (List.mem_append_right _ (List.mem_append_right _ (List.mem_append_left _ h)))))
theorem gT_c6 : ∀ w ∈ wsL_law0_r6, w ∈ wsL_law0 := fun w h => gT_base w (List.mem_append_right _ (List.mem_append_right _ (List.mem_append_right _ (List.mem_append_right _ (List.mem_append_right _ (List.mem_append_left _ h))))))
theorem gT_c7 : ∀ w ∈ wsL_law0_r7, w ∈ wsL_law0 := fun w h => gT_base w (List.mem_append_right _ (List.mem_append_right _ (List.mem_append_right _ (List.mem_append_right _ (List.mem_append_right _ (List.mem_append_right _ (List.mem_append_left _ h)))))))
theorem gT_c8 : ∀ w ∈ wsL_law0_r8, w ∈ wsL_law0 := fun w h => gT_base w (List.mem_append_right _ (List.mem_append_right _ (List.mem_append_right _ (List.mem_append_right _ (List.mem_append_right _ (List.mem_append_right _ (List.mem_append_right _ (List.mem_append_left _ h))))))))
theorem gT_c9 : ∀ w ∈ wsL_law0_r9, w ∈ wsL_law0 := fun w h => gT_base w (List.mem_append_right _ (List.mem_append_right _ (List.mem_append_right _ (List.mem_append_right _ (List.mem_append_right _ (List.mem_append_right _ (List.mem_append_right _ (List.mem_append_right _ (List.mem_append_left _ h)))))))))
theorem gT_c10 : ∀ w ∈ wsL_law0_r10, w ∈ wsL_law0 := fun w h => gT_base w (List.mem_append_right _ (List.mem_append_right _ (List.mem_append_right _ (List.mem_append_right _ (List.mem_append_right _ (List.mem_append_right _ (List.mem_append_right _ (List.mem_append_right _ (List.mem_append_right _ (List.mem_append_left _ h))))))))))
theorem gT_c11 : ∀ w ∈ wsL_law0_r11, w ∈ wsL_law0 := fun w h => gT_base w (List.mem_append_right _ (List.mem_append_right _ (List.mem_append_right _ (List.mem_append_right _ (List.mem_append_right _ (List.mem_append_right _ (List.mem_append_right _ (List.mem_append_right _ (List.mem_append_right _ (List.mem_append_right _ (List.mem_append_left _ h)))))))))))
theorem gT_c12 : ∀ w ∈ wsL_law0_r12, w ∈ wsL_law0 := fun w h => gT_base w (List.mem_append_right _ (List.mem_append_right _ (List.mem_append_right _ (List.mem_append_right _ (List.mem_append_right _ (List.mem_append_right _ (List.mem_append_right _ (List.mem_append_right _ (List.mem_append_right _ (List.mem_append_right _ (List.mem_append_right _ (List.mem_append_left _ h))))))))))))
theorem gT_c13 : ∀ w ∈ wsL_law0_r13, w ∈ wsL_law0 := fun w h => gT_base w (List.mem_append_right _ (List.mem_append_right _ (List.mem_append_right _ (List.mem_append_right _ (List.mem_append_right _ (List.mem_append_right _ (List.mem_append_right _ (List.mem_append_right _ (List.mem_append_right _ (List.mem_append_right _ (List.mem_append_right _ (List.mem_append_right _ (List.mem_append_left _ h)))))))))))))
theorem gT_c14 : ∀ w ∈ wsL_law0_r14, w ∈ wsL_law0 := fun w h => gT_base w (List.mem_append_right _ (List.mem_append_right _ (List.mem_append_right _ (List.mem_append_right _ (List.mem_append_right _ (List.mem_append_right _ (List.mem_append_right _ (List.mem_append_right _ (List.mem_append_right _ (List.mem_append_right _ (List.mem_append_right _ (List.mem_append_right _ (List.mem_append_right _ (List.mem_append_left _ h))))))))))))))
theorem gT_c15 : ∀ w ∈ wsL_law0_r15, w ∈ wsL_law0 := fun w h => gT_base w (List.mem_append_right _ (List.mem_append_right _ (List.mem_append_right _ (List.mem_append_right _ (List.mem_append_right _ (List.mem_append_right _ (List.mem_append_right _ (List.mem_append_right _ (List.mem_append_right _ (List.mem_append_right _ (List.mem_append_right _ (List.mem_append_right _ (List.mem_append_right _ (List.mem_append_right _ (List.mem_append_left _ h)))))))))))))))
theorem gT_c16 : ∀ w ∈ wsL_law0_r16, w ∈ wsL_law0 := fun w h => gT_base w (List.mem_append_right _ (List.mem_append_right _ (List.mem_append_right _ (List.mem_append_right _ (List.mem_append_right _ (List.mem_append_right _ (List.mem_append_right _ (List.mem_append_right _ (List.mem_append_right _ (List.mem_append_right _ (List.mem_append_right _ (List.mem_append_right _ (List.mem_append_right _ (List.mem_append_right _ (List.mem_append_right _ (List.mem_append_left _ h))))))))))))))))
theorem gT_c17 : ∀ w ∈ wsL_law0_r17, w ∈ wsL_law0 := fun w h => gT_base w (List.mem_append_right _ (List.mem_append_right _ (List.mem_append_right _ (List.mem_append_right _ (List.mem_append_right _ (List.mem_append_right _ (List.mem_append_right _ (List.mem_append_right _ (List.mem_append_right _ (List.mem_append_right _ (List.mem_append_right _ (List.mem_append_right _ (List.mem_append_right _ (List.mem_append_right _ (List.mem_append_right _ (List.mem_append_right _ (List.mem_append_left _ h)))))))))))))))))
theorem gT_c18 : ∀ w ∈ wsL_law0_r18, w ∈ wsL_law0 := fun w h => gT_base w (List.mem_append_right _ (List.mem_append_right _ (List.mem_append_right _ (List.mem_append_right _ (List.mem_append_right _ (List.mem_append_right _ (List.mem_append_right _ (List.mem_append_right _ (List.mem_append_right _ (List.mem_append_right _ (List.mem_append_right _ (List.mem_append_right _ (List.mem_append_right _ (List.mem_append_right _ (List.mem_append_right _ (List.mem_append_right _ (List.mem_append_right _ (List.mem_append_left _ h))))))))))))))))))
theorem gT_c19 : ∀ w ∈ wsL_law0_r19, w ∈ wsL_law0 := fun w h => gT_base w (List.mem_append_right _ (List.mem_append_right _ (List.mem_append_right _ (List.mem_append_right _ (List.mem_append_right _ (List.mem_append_right _ (List.mem_append_right _ (List.mem_append_right _ (List.mem_append_right _ (List.mem_append_right _ (List.mem_append_right _ (List.mem_append_right _ (List.mem_append_right _ (List.mem_append_right _ (List.mem_append_right _ (List.mem_append_right _ (List.mem_append_right _ (List.mem_append_right _ (List.mem_append_left _ h)))))))))))))))))))
theorem gT_c20 : ∀ w ∈ wsL_law0_r20, w ∈ wsL_law0 := fun w h => gT_base w (List.mem_append_right _ (List.mem_append_right _ (List.mem_append_right _ (List.mem_append_right _ (List.mem_append_right _ (List.mem_append_right _ (List.mem_append_right _ (List.mem_append_right _ (List.mem_append_right _ (List.mem_append_right _ (List.mem_append_right _ (List.mem_append_right _ (List.mem_append_right _ (List.mem_append_right _ (List.mem_append_right _ (List.mem_append_right _ (List.mem_append_right _ (List.mem_append_right _ (List.mem_append_right _ (List.mem_append_left _ h))))))))))))))))))))
theorem gT_c21 : ∀ w ∈ wsL_law0_r21, w ∈ wsL_law0 := fun w h => gT_base w (List.mem_append_right _ (List.mem_append_right _ (List.mem_append_right _ (List.mem_append_right _ (List.mem_append_right _ (List.mem_append_right _ (List.mem_append_right _ (List.mem_append_right _ (List.mem_append_right _ (List.mem_append_right _ (List.mem_append_right _ (List.mem_append_right _ (List.mem_append_right _ (List.mem_append_right _ (List.mem_append_right _ (List.mem_append_right _ (List.mem_append_right _ (List.mem_append_right _ (List.mem_append_right _ (List.mem_append_right _ (List.mem_append_left _ h)))))))))))))))))))))
theorem gT_c22 : ∀ w ∈ wsL_law0_r22, w ∈ wsL_law0 := fun w h => gT_base w (List.mem_append_right _ (List.mem_append_right _ (List.mem_append_right _ (List.mem_append_right _ (List.mem_append_right _ (List.mem_append_right _ (List.mem_append_right _ (List.mem_append_right _ (List.mem_append_right _ (List.mem_append_right _ (List.mem_append_right _ (List.mem_append_right _ (List.mem_append_right _ (List.mem_append_right _ (List.mem_append_right _ (List.mem_append_right _ (List.mem_append_right _ (List.mem_append_right _ (List.mem_append_right _ (List.mem_append_right _ (List.mem_append_right _ (List.mem_append_left _ h))))))))))))))))))))))
theorem gT_c23 : ∀ w ∈ wsL_law0_r23, w ∈ wsL_law0 := fun w h => gT_base w (List.mem_append_right _ (List.mem_append_right _ (List.mem_append_right _ (List.mem_append_right _ (List.mem_append_right _ (List.mem_append_right _ (List.mem_append_right _ (List.mem_append_right _ (List.mem_append_right _ (List.mem_append_right _ (List.mem_append_right _ (List.mem_append_right _ (List.mem_append_right _ (List.mem_append_right _ (List.mem_append_right _ (List.mem_append_right _ (List.mem_append_right _ (List.mem_append_right _ (List.mem_append_right _ (List.mem_append_right _ (List.mem_append_right _ (List.mem_append_right _ (List.mem_append_left _ h)))))))))))))))))))))))
theorem gT_c24 : ∀ w ∈ wsL_law0_r24, w ∈ wsL_law0 := fun w h => gT_base w (List.mem_append_right _ (List.mem_append_right _ (List.mem_append_right _ (List.mem_append_right _ (List.mem_append_right _ (List.mem_append_right _ (List.mem_append_right _ (List.mem_append_right _ (List.mem_append_right _ (List.mem_append_right _ (List.mem_append_right _ (List.mem_append_right _ (List.mem_append_right _ (List.mem_append_right _ (List.mem_append_right _ (List.mem_append_right _ (List.mem_append_right _ (List.mem_append_right _ (List.mem_append_right _ (List.mem_append_right _ (List.mem_append_right _ (List.mem_append_right _ (List.mem_append_right _ (List.mem_append_left _ h))))))))))))))))))))))))
theorem gT_c25 : ∀ w ∈ wsL_law0_r25, w ∈ wsL_law0 := fun w h => gT_base w (List.mem_append_right _ (List.mem_append_right _ (List.mem_append_right _ (List.mem_append_right _ (List.mem_append_right _ (List.mem_append_right _ (List.mem_append_right _ (List.mem_append_right _ (List.mem_append_right _ (List.mem_append_right _ (List.mem_append_right _ (List.mem_append_right _ (List.mem_append_right _ (List.mem_append_right _ (List.mem_append_right _ (List.mem_append_right _ (List.mem_append_right _ (List.mem_append_right _ (List.mem_append_right _ (List.mem_append_right _ (List.mem_append_right _ (List.mem_append_right _ (List.mem_append_right _ (List.mem_append_right _ (List.mem_append_left _ h)))))))))))))))))))))))))
theorem gT_c26 : ∀ w ∈ wsL_law0_r26, w ∈ wsL_law0 := fun w h => gT_base w (List.mem_append_right _ (List.mem_append_right _ (List.mem_append_right _ (List.mem_append_right _ (List.mem_append_right _ (List.mem_append_right _ (List.mem_append_right _ (List.mem_append_right _ (List.mem_append_right _ (List.mem_append_right _ (List.mem_append_right _ (List.mem_append_right _ (List.mem_append_right _ (List.mem_append_right _ (List.mem_append_right _ (List.mem_append_right _ (List.mem_append_right _ (List.mem_append_right _ (List.mem_append_right _ (List.mem_append_right _ (List.mem_append_right _ (List.mem_append_right _ (List.mem_append_right _ (List.mem_append_right _ (List.mem_append_right _ (List.mem_append_left _ h))))))))))))))))))))))))))
theorem gT_c27 : ∀ w ∈ wsL_law0_r27, w ∈ wsL_law0 := fun w h => gT_base w (List.mem_append_right _ (List.mem_append_right _ (List.mem_append_right _ (List.mem_append_right _ (List.mem_append_right _ (List.mem_append_right _ (List.mem_append_right _ (List.mem_append_right _ (List.mem_append_right _ (List.mem_append_right _ (List.mem_append_right _ (List.mem_append_right _ (List.mem_append_right _ (List.mem_append_right _ (List.mem_append_right _ (List.mem_append_right _ (List.mem_append_right _ (List.mem_append_right _ (List.mem_append_right _ (List.mem_append_right _ (List.mem_append_right _ (List.mem_append_right _ (List.mem_append_right _ (List.mem_append_right _ (List.mem_append_right _ (List.mem_append_right _ (List.mem_append_left _ h)))))))))))))))))))))))))))
theorem gT_c28 : ∀ w ∈ wsL_law0_r28, w ∈ wsL_law0 := fun w h => gT_base w (List.mem_append_right _ (List.mem_append_right _ (List.mem_append_right _ (List.mem_append_right _ (List.mem_append_right _ (List.mem_append_right _ (List.mem_append_right _ (List.mem_append_right _ (List.mem_append_right _ (List.mem_append_right _ (List.mem_append_right _ (List.mem_append_right _ (List.mem_append_right _ (List.mem_append_right _ (List.mem_append_right _ (List.mem_append_right _ (List.mem_append_right _ (List.mem_append_right _ (List.mem_append_right _ (List.mem_append_right _ (List.mem_append_right _ (List.mem_append_right _ (List.mem_append_right _ (List.mem_append_right _ (List.mem_append_right _ (List.mem_append_right _ (List.mem_append_right _ (List.mem_append_left _ h))))))))))))))))))))))))))))
theorem gT_c29 : ∀ w ∈ wsL_law0_r29, w ∈ wsL_law0 := fun w h => gT_base w (List.mem_append_right _ (List.mem_append_right _ (List.mem_append_right _ (List.mem_append_right _ (List.mem_append_right _ (List.mem_append_right _ (List.mem_append_right _ (List.mem_append_right _ (List.mem_append_right _ (List.mem_append_right _ (List.mem_append_right _ (List.mem_append_right _ (List.mem_append_right _ (List.mem_append_right _ (List.mem_append_right _ (List.mem_append_right _ (List.mem_append_right _ (List.mem_append_right _ (List.mem_append_right _ (List.mem_append_right _ (List.mem_append_right _ (List.mem_append_right _ (List.mem_append_right _ (List.mem_append_right _ (List.mem_append_right _ (List.mem_append_right _ (List.mem_append_right _ (List.mem_append_right _ (List.mem_append_left _ h)))))))))))))))))))))))))))))
theorem gT_c30 : ∀ w ∈ wsL_law0_r30, w ∈ wsL_law0 := fun w h => gT_base w (List.mem_append_right _ (List.mem_append_right _ (List.mem_append_right _ (List.mem_append_right _ (List.mem_append_right _ (List.mem_append_right _ (List.mem_append_right _ (List.mem_append_right _ (List.mem_append_right _ (List.mem_append_right _ (List.mem_append_right _ (List.mem_append_right _ (List.mem_append_right _ (List.mem_append_right _ (List.mem_append_right _ (List.mem_append_right _ (List.mem_append_right _ (List.mem_append_right _ (List.mem_append_right _ (List.mem_append_right _ (List.mem_append_right _ (List.mem_append_right _ (List.mem_append_right _ (List.mem_append_right _ (List.mem_append_right _ (List.mem_append_right _ (List.mem_append_right _ (List.mem_append_right _ (List.mem_append_right _ (List.mem_append_left _ h))))))))))))))))))))))))))))))
theorem gT_c31 : ∀ w ∈ wsL_law0_r31, w ∈ wsL_law0 := fun w h => gT_base w (List.mem_append_right _ (List.mem_append_right _ (List.mem_append_right _ (List.mem_append_right _ (List.mem_append_right _ (List.mem_append_right _ (List.mem_append_right _ (List.mem_append_right _ (List.mem_append_right _ (List.mem_append_right _ (List.mem_append_right _ (List.mem_append_right _ (List.mem_append_right _ (List.mem_append_right _ (List.mem_append_right _ (List.mem_append_right _ (List.mem_append_right _ (List.mem_append_right _ (List.mem_append_right _ (List.mem_append_right _ (List.mem_append_right _ (List.mem_append_right _ (List.mem_append_right _ (List.mem_append_right _ (List.mem_append_right _ (List.mem_append_right _ (List.mem_append_right _ (List.mem_append_right _ (List.mem_append_right _ (List.mem_append_right _ (List.mem_append_left _ h)))))))))))))))))))))))))))))))
theorem gT_c32 : ∀ w ∈ wsL_law0_r32, w ∈ wsL_law0 := fun w h => gT_base w (List.mem_append_right _ (List.mem_append_right _ (List.mem_append_right _ (List.mem_append_right _ (List.mem_append_right _ (List.mem_append_right _ (List.mem_append_right _ (List.mem_append_right _ (List.mem_append_right _ (List.mem_append_right _ (List.mem_append_right _ (List.mem_append_right _ (List.mem_append_right _ (List.mem_append_right _ (List.mem_append_right _ (List.mem_append_right _ (List.mem_append_right _ (List.mem_append_right _ (List.mem_append_right _ (List.mem_append_right _ (List.mem_append_right _ (List.mem_append_right _ (List.mem_append_right _ (List.mem_append_right _ (List.mem_append_right _ (List.mem_append_right _ (List.mem_append_right _ (List.mem_append_right _ (List.mem_append_right _ (List.mem_append_right _ (List.mem_append_right _ (List.mem_append_left _ h))))))))))))))))))))))))))))))))
theorem gT_c33 : ∀ w ∈ wsL_law0_r33, w ∈ wsL_law0 := fun w h => gT_base w (List.mem_append_right _ (List.mem_append_right _ (List.mem_append_right _ (List.mem_append_right _ (List.mem_append_right _ (List.mem_append_right _ (List.mem_append_right _ (List.mem_append_right _ (List.mem_append_right _ (List.mem_append_right _ (List.mem_append_right _ (List.mem_append_right _ (List.mem_append_right _ (List.mem_append_right _ (List.mem_append_right _ (List.mem_append_right _ (List.mem_append_right _ (List.mem_append_right _ (List.mem_append_right _ (List.mem_append_right _ (List.mem_append_right _ (List.mem_append_right _ (List.mem_append_right _ (List.mem_append_right _ (List.mem_append_right _ (List.mem_append_right _ (List.mem_append_right _ (List.mem_append_right _ (List.mem_append_right _ (List.mem_append_right _ (List.mem_append_right _ (List.mem_append_right _ (List.mem_append_left _ h)))))))))))))))))))))))))))))))))
theorem gT_c34 : ∀ w ∈ wsL_law0_r34, w ∈ wsL_law0 := fun w h => gT_base w (List.mem_append_right _ (List.mem_append_right _ (List.mem_append_right _ (List.mem_append_right _ (List.mem_append_right _ (List.mem_append_right _ (List.mem_append_right _ (List.mem_append_right _ (List.mem_append_right _ (List.mem_append_right _ (List.mem_append_right _ (List.mem_append_right _ (List.mem_append_right _ (List.mem_append_right _ (List.mem_append_right _ (List.mem_append_right _ (List.mem_append_right _ (List.mem_append_right _ (List.mem_append_right _ (List.mem_append_right _ (List.mem_append_right _ (List.mem_append_right _ (List.mem_append_right _ (List.mem_append_right _ (List.mem_append_right _ (List.mem_append_right _ (List.mem_append_right _ (List.mem_append_right _ (List.mem_append_right _ (List.mem_append_right _ (List.mem_append_right _ (List.mem_append_right _ (List.mem_append_right _ (List.mem_append_left _ h))))))))))))))))))))))))))))))))))
theorem gT_c35 : ∀ w ∈ wsL_law0_r35, w ∈ wsL_law0 := fun w h => gT_base w (List.mem_append_right _ (List.mem_append_right _ (List.mem_append_right _ (List.mem_append_right _ (List.mem_append_right _ (List.mem_append_right _ (List.mem_append_right _ (List.mem_append_right _ (List.mem_append_right _ (List.mem_append_right _ (List.mem_append_right _ (List.mem_append_right _ (List.mem_append_right _ (List.mem_append_right _ (List.mem_append_right _ (List.mem_append_right _ (List.mem_append_right _ (List.mem_append_right _ (List.mem_append_right _ (List.mem_append_right _ (List.mem_append_right _ (List.mem_append_right _ (List.mem_append_right _ (List.mem_append_right _ (List.mem_append_right _ (List.mem_append_right _ (List.mem_append_right _ (List.mem_append_right _ (List.mem_append_right _ (List.mem_append_right _ (List.mem_append_right _ (List.mem_append_right _ (List.mem_append_right _ (List.mem_append_right _ (List.mem_append_left _ h)))))))))))))))))))))))))))))))))))
theorem gT_c36 : ∀ w ∈ wsL_law0_r36, w ∈ wsL_law0 := fun w h => gT_base w (List.mem_append_right _ (List.mem_append_right _ (List.mem_append_right _ (List.mem_append_right _ (List.mem_append_right _ (List.mem_append_right _ (List.mem_append_right _ (List.mem_append_right _ (List.mem_append_right _ (List.mem_append_right _ (List.mem_append_right _ (List.mem_append_right _ (List.mem_append_right _ (List.mem_append_right _ (List.mem_append_right _ (List.mem_append_right _ (List.mem_append_right _ (List.mem_append_right _ (List.mem_append_right _ (List.mem_append_right _ (List.mem_append_right _ (List.mem_append_right _ (List.mem_append_right _ (List.mem_append_right _ (List.mem_append_right _ (List.mem_append_right _ (List.mem_append_right _ (List.mem_append_right _ (List.mem_append_right _ (List.mem_append_right _ (List.mem_append_right _ (List.mem_append_right _ (List.mem_append_right _ (List.mem_append_right _ (List.mem_append_right _ (List.mem_append_left _ h))))))))))))))))))))))))))))))))))))
theorem gT_c37 : ∀ w ∈ wsL_law0_r37, w ∈ wsL_law0 := fun w h => gT_base w (List.mem_append_right _ (List.mem_append_right _ (List.mem_append_right _ (List.mem_append_right _ (List.mem_append_right _ (List.mem_append_right _ (List.mem_append_right _ (List.mem_append_right _ (List.mem_append_right _ (List.mem_append_right _ (List.mem_append_right _ (List.mem_append_right _ (List.mem_append_right _ (List.mem_append_right _ (List.mem_append_right _ (List.mem_append_right _ (List.mem_append_right _ (List.mem_append_right _ (List.mem_append_right _ (List.mem_append_right _ (List.mem_append_right _ (List.mem_append_right _ (List.mem_append_right _ (List.mem_append_right _ (List.mem_append_right _ (List.mem_append_right _ (List.mem_append_right _ (List.mem_append_right _ (List.mem_append_right _ (List.mem_append_right _ (List.mem_append_right _ (List.mem_append_right _ (List.mem_append_right _ (List.mem_append_right _ (List.mem_append_right _ (List.mem_append_right _ (List.mem_append_left _ h)))))))))))))))))))))))))))))))))))))
theorem gT_c38 : ∀ w ∈ wsL_law0_r38, w ∈ wsL_law0 := fun w h => gT_base w (List.mem_append_right _ (List.mem_append_right _ (List.mem_append_right _ (List.mem_append_right _ (List.mem_append_right _ (List.mem_append_right _ (List.mem_append_right _ (List.mem_append_right _ (List.mem_append_right _ (List.mem_append_right _ (List.mem_append_right _ (List.mem_append_right _ (List.mem_append_right _ (List.mem_append_right _ (List.mem_append_right _ (List.mem_append_right _ (List.mem_append_right _ (List.mem_append_right _ (List.mem_append_right _ (List.mem_append_right _ (List.mem_append_right _ (List.mem_append_right _ (List.mem_append_right _ (List.mem_append_right _ (List.mem_append_right _ (List.mem_append_right _ (List.mem_append_right _ (List.mem_append_right _ (List.mem_append_right _ (List.mem_append_right _ (List.mem_append_right _ (List.mem_append_right _ (List.mem_append_right _ (List.mem_append_right _ (List.mem_append_right _ (List.mem_append_right _ (List.mem_append_right _ (List.mem_append_left _ h))))))))))))))))))))))))))))))))))))))
theorem gT_c39 : ∀ w ∈ wsL_law0_r39, w ∈ wsL_law0 := fun w h => gT_base w (List.mem_append_right _ (List.mem_append_right _ (List.mem_append_right _ (List.mem_append_right _ (List.mem_append_right _ (List.mem_append_right _ (List.mem_append_right _ (List.mem_append_right _ (List.mem_append_right _ (List.mem_append_right _ (List.mem_append_right _ (List.mem_append_right _ (List.mem_append_right _ (List.mem_append_right _ (List.mem_append_right _ (List.mem_append_right _ (List.mem_append_right _ (List.mem_append_right _ (List.mem_append_right _ (List.mem_append_right _ (List.mem_append_right _ (List.mem_append_right _ (List.mem_append_right _ (List.mem_append_right _ (List.mem_append_right _ (List.mem_append_right _ (List.mem_append_right _ (List.mem_append_right _ (List.mem_append_right _ (List.mem_append_right _ (List.mem_append_right _ (List.mem_append_right _ (List.mem_append_right _ (List.mem_append_right _ (List.mem_append_right _ (List.mem_append_right _ (List.mem_append_right _ (List.mem_append_right _ (List.mem_append_left _ h)))))))))))))))))))))))))))))))))))))))
theorem gT_c40 : ∀ w ∈ wsL_law0_r40, w ∈ wsL_law0 := fun w h => gT_base w (List.mem_append_right _ (List.mem_append_right _ (List.mem_append_right _ (List.mem_append_right _ (List.mem_append_right _ (List.mem_append_right _ (List.mem_append_right _ (List.mem_append_right _ (List.mem_append_right _ (List.mem_append_right _ (List.mem_append_right _ (List.mem_append_right _ (List.mem_append_right _ (List.mem_append_right _ (List.mem_append_right _ (List.mem_append_right _ (List.mem_append_right _ (List.mem_append_right _ (List.mem_append_right _ (List.mem_append_right _ (List.mem_append_right _ (List.mem_append_right _ (List.mem_append_right _ (List.mem_append_right _ (List.mem_append_right _ (List.mem_append_right _ (List.mem_append_right _ (List.mem_append_right _ (List.mem_append_right _ (List.mem_append_right _ (List.mem_append_right _ (List.mem_append_right _ (List.mem_append_right _ (List.mem_append_right _ (List.mem_append_right _ (List.mem_append_right _ (List.mem_append_right _ (List.mem_append_right _ (List.mem_append_right _ (List.mem_append_left _ h))))))))))))))))))))))))))))))))))))))))
theorem gT_c41 : ∀ w ∈ wsL_law0_r41, w ∈ wsL_law0 := fun w h => gT_base w (List.mem_append_right _ (List.mem_append_right _ (List.mem_append_right _ (List.mem_append_right _ (List.mem_append_right _ (List.mem_append_right _ (List.mem_append_right _ (List.mem_append_right _ (List.mem_append_right _ (List.mem_append_right _ (List.mem_append_right _ (List.mem_append_right _ (List.mem_append_right _ (List.mem_append_right _ (List.mem_append_right _ (List.mem_append_right _ (List.mem_append_right _ (List.mem_append_right _ (List.mem_append_right _ (List.mem_append_right _ (List.mem_append_right _ (List.mem_append_right _ (List.mem_append_right _ (List.mem_append_right _ (List.mem_append_right _ (List.mem_append_right _ (List.mem_append_right _ (List.mem_append_right _ (List.mem_append_right _ (List.mem_append_right _ (List.mem_append_right _ (List.mem_append_right _ (List.mem_append_right _ (List.mem_append_right _ (List.mem_append_right _ (List.mem_append_right _ (List.mem_append_right _ (List.mem_append_right _ (List.mem_append_right _ (List.mem_append_right _ (List.mem_append_left _ h)))))))))))))))))))))))))))))))))))))))))
theorem gT_c42 : ∀ w ∈ wsL_law0_r42, w ∈ wsL_law0 := fun w h => gT_base w (List.mem_append_right _ (List.mem_append_right _ (List.mem_append_right _ (List.mem_append_right _ (List.mem_append_right _ (List.mem_append_right _ (List.mem_append_right _ (List.mem_append_right _ (List.mem_append_right _ (List.mem_append_right _ (List.mem_append_right _ (List.mem_append_right _ (List.mem_append_right _ (List.mem_append_right _ (List.mem_append_right _ (List.mem_append_right _ (List.mem_append_right _ (List.mem_append_right _ (List.mem_append_right _ (List.mem_append_right _ (List.mem_append_right _ (List.mem_append_right _ (List.mem_append_right _ (List.mem_append_right _ (List.mem_append_right _ (List.mem_append_right _ (List.mem_append_right _ (List.mem_append_right _ (List.mem_append_right _ (List.mem_append_right _ (List.mem_append_right _ (List.mem_append_right _ (List.mem_append_right _ (List.mem_append_right _ (List.mem_append_right _ (List.mem_append_right _ (List.mem_append_right _ (List.mem_append_right _ (List.mem_append_right _ (List.mem_append_right _ (List.mem_append_right _ (h))))))))))))))))))))))))))))))))))))))))))
theorem gT_wsX100 : ∀ w ∈ wsX100, w ∈ wsL_law0 := fun _ h => List.mem_append_left _ (List.mem_append_left _ (List.mem_append_left _ (List.mem_append_left _ (List.mem_append_left _ (List.mem_append_left _ (List.mem_append_left _ (List.mem_append_left _ (List.mem_append_left _ (List.mem_append_left _ (List.mem_append_left _ (List.mem_append_left _ (List.mem_append_right _ h))))))))))))
theorem gT_wsX110 : ∀ w ∈ wsX110, w ∈ wsL_law0 := fun _ h => List.mem_append_left _ (List.mem_append_left _ (List.mem_append_left _ (List.mem_append_left _ (List.mem_append_left _ (List.mem_append_left _ (List.mem_append_left _ (List.mem_append_left _ (List.mem_append_left _ (List.mem_append_left _ (List.mem_append_left _ (List.mem_append_right _ h)))))))))))
theorem gT_wsX30 : ∀ w ∈ wsX30, w ∈ wsL_law0 := fun _ h => List.mem_append_left _ (List.mem_append_left _ (List.mem_append_left _ (List.mem_append_left _ (List.mem_append_left _ (List.mem_append_left _ (List.mem_append_left _ (List.mem_append_left _ (List.mem_append_left _ (List.mem_append_left _ (List.mem_append_right _ h))))))))))
theorem gT_wsX60 : ∀ w ∈ wsX60, w ∈ wsL_law0 := fun _ h => List.mem_append_left _ (List.mem_append_left _ (List.mem_append_left _ (List.mem_append_left _ (List.mem_append_left _ (List.mem_append_left _ (List.mem_append_left _ (List.mem_append_left _ (List.mem_append_left _ (List.mem_append_right _ h)))))))))
theorem gT_wsX90 : ∀ w ∈ wsX90, w ∈ wsL_law0 := fun _ h => List.mem_append_left _ (List.mem_append_left _ (List.mem_append_left _ (List.mem_append_left _ (List.mem_append_left _ (List.mem_append_left _ (List.mem_append_left _ (List.mem_append_left _ (List.mem_append_right _ h))))))))
theorem gT_wsX70 : ∀ w ∈ wsX70, w ∈ wsL_law0 := fun _ h => List.mem_append_left _ (List.mem_append_left _ (List.mem_append_left _ (List.mem_append_left _ (List.mem_append_left _ (List.mem_append_left _ (List.mem_append_left _ (List.mem_append_right _ h)))))))
theorem gT_wsX00 : ∀ w ∈ wsX00, w ∈ wsL_law0 := fun _ h => List.mem_append_left _ (List.mem_append_left _ (List.mem_append_left _ (List.mem_append_left _ (List.mem_append_left _ (List.mem_append_left _ (List.mem_append_right _ h))))))
theorem gT_wsX50 : ∀ w ∈ wsX50, w ∈ wsL_law0 := fun _ h => List.mem_append_left _ (List.mem_append_left _ (List.mem_append_left _ (List.mem_append_left _ (List.mem_append_left _ (List.mem_append_right _ h)))))
theorem gT_wsX40 : ∀ w ∈ wsX40, w ∈ wsL_law0 := fun _ h => List.mem_append_left _ (List.mem_append_left _ (List.mem_append_left _ (List.mem_append_left _ (List.mem_append_right _ h))))
theorem gT_wsX10 : ∀ w ∈ wsX10, w ∈ wsL_law0 := fun _ h => List.mem_append_left _ (List.mem_append_left _ (List.mem_append_left _ (List.mem_append_right _ h)))
theorem gT_wsX20 : ∀ w ∈ wsX20, w ∈ wsL_law0 := fun _ h => List.mem_append_left _ (List.mem_append_left _ (List.mem_append_right _ h))
theorem gT_wsX80 : ∀ w ∈ wsX80, w ∈ wsL_law0 := fun _ h => List.mem_append_left _ (List.mem_append_right _ h)
theorem cl_L_8 : Cond.classLink RL 8 RX10 ∈ wsL_law0 := gT_c1 _ (List.mem_of_getElem? (i := 0) rfl)
theorem it_RX10 : Cond.instantiable RX10 9 ∈ wsL_law0 := gT_c1 _ (List.mem_of_getElem? (i := 1) rfl)
theorem in_RX10 : Cond.initialized RX10 ∈ wsL_law0 := gT_c1 _ (List.mem_of_getElem? (i := 2) rfl)
theorem cl_L_16 : Cond.classLink RL 16 RX11 ∈ wsL_law0 := gT_c1 _ (List.mem_of_getElem? (i := 3) rfl)
theorem it_RX11 : Cond.instantiable RX11 34 ∈ wsL_law0 := gT_c1 _ (List.mem_of_getElem? (i := 4) rfl)
theorem in_RX11 : Cond.initialized RX11 ∈ wsL_law0 := gT_c1 _ (List.mem_of_getElem? (i := 5) rfl)
theorem ac__long : Cond.arrayClass .long ∈ wsL_law0 := gT_c1 _ (List.mem_of_getElem? (i := 6) rfl)
theorem ml_L_15 : Cond.methodLink RL 15 yX10_init ∈ wsL_law0 := gT_c1 _ (List.mem_of_getElem? (i := 7) rfl)
theorem im_yX10_init : Cond.instanceMethod yX10_init ∈ wsL_law0 := gT_c1 _ (List.mem_of_getElem? (i := 8) rfl)
theorem cd_yX10_init : Cond.code yX10_init cX10_init 1 none ∈ wsL_law0 := gT_c1 _ (List.mem_of_getElem? (i := 9) rfl)
theorem ml_X10_1 : Cond.methodLink RX10 1 objectInit ∈ wsL_law0 := gT_c1 _ (List.mem_of_getElem? (i := 10) rfl)
theorem im_objectInit : Cond.instanceMethod objectInit ∈ wsL_law0 := gT_c1 _ (List.mem_of_getElem? (i := 11) rfl)
theorem cd_objectInit : Cond.code objectInit ⟨#[0xb1]⟩ 1 none ∈ wsL_law0 := gT_c1 _ (List.mem_of_getElem? (i := 12) rfl)
theorem cl_X10_7 : Cond.classLink RX10 7 RX3 ∈ wsL_law0 := gT_c1 _ (List.mem_of_getElem? (i := 13) rfl)
theorem it_RX3 : Cond.instantiable RX3 5 ∈ wsL_law0 := gT_c1 _ (List.mem_of_getElem? (i := 14) rfl)
theorem in_RX3 : Cond.initialized RX3 ∈ wsL_law0 := gT_c1 _ (List.mem_of_getElem? (i := 15) rfl)
theorem fl_X10_10 : Cond.fieldLink RX10 10 "NearWords" "rules" "LNearWords$Rules;" ∈ wsL_law0 := gT_c1 _ (List.mem_of_getElem? (i := 16) rfl)
theorem cl_X10_16 : Cond.classLink RX10 16 RX6 ∈ wsL_law0 := gT_c1 _ (List.mem_of_getElem? (i := 17) rfl)
theorem it_RX6 : Cond.instantiable RX6 3 ∈ wsL_law0 := gT_c1 _ (List.mem_of_getElem? (i := 18) rfl)
theorem in_RX6 : Cond.initialized RX6 ∈ wsL_law0 := gT_c1 _ (List.mem_of_getElem? (i := 19) rfl)
theorem fl_X10_19 : Cond.fieldLink RX10 19 "NearWords" "tape" "LNearWords$Tape;" ∈ wsL_law0 := gT_c1 _ (List.mem_of_getElem? (i := 20) rfl)
theorem cl_X10_23 : Cond.classLink RX10 23 RX9 ∈ wsL_law0 := gT_c1 _ (List.mem_of_getElem? (i := 21) rfl)
theorem it_RX9 : Cond.instantiable RX9 4 ∈ wsL_law0 := gT_c1 _ (List.mem_of_getElem? (i := 22) rfl)
theorem in_RX9 : Cond.initialized RX9 ∈ wsL_law0 := gT_c1 _ (List.mem_of_getElem? (i := 23) rfl)
theorem fl_X10_26 : Cond.fieldLink RX10 26 "NearWords" "words" "LNearWords$Words;" ∈ wsL_law0 := gT_c2 _ (List.mem_of_getElem? (i := 0) rfl)
theorem cl_X10_30 : Cond.classLink RX10 30 RX7 ∈ wsL_law0 := gT_c2 _ (List.mem_of_getElem? (i := 1) rfl)
theorem it_RX7 : Cond.instantiable RX7 3 ∈ wsL_law0 := gT_c2 _ (List.mem_of_getElem? (i := 2) rfl)
theorem in_RX7 : Cond.initialized RX7 ∈ wsL_law0 := gT_c2 _ (List.mem_of_getElem? (i := 3) rfl)
theorem fl_X10_33 : Cond.fieldLink RX10 33 "NearWords" "texts" "LNearWords$Texts;" ∈ wsL_law0 := gT_c2 _ (List.mem_of_getElem? (i := 4) rfl)
theorem cl_X10_37 : Cond.classLink RX10 37 RX0 ∈ wsL_law0 := gT_c2 _ (List.mem_of_getElem? (i := 5) rfl)
theorem it_RX0 : Cond.instantiable RX0 6 ∈ wsL_law0 := gT_c2 _ (List.mem_of_getElem? (i := 6) rfl)
theorem in_RX0 : Cond.initialized RX0 ∈ wsL_law0 := gT_c2 _ (List.mem_of_getElem? (i := 7) rfl)
theorem fl_X10_42 : Cond.fieldLink RX10 42 "NearWords" "candidates" "LNearWords$Candidates;" ∈ wsL_law0 := gT_c2 _ (List.mem_of_getElem? (i := 8) rfl)
theorem cl_X10_46 : Cond.classLink RX10 46 RX5 ∈ wsL_law0 := gT_c2 _ (List.mem_of_getElem? (i := 9) rfl)
theorem it_RX5 : Cond.instantiable RX5 9 ∈ wsL_law0 := gT_c2 _ (List.mem_of_getElem? (i := 10) rfl)
theorem in_RX5 : Cond.initialized RX5 ∈ wsL_law0 := gT_c2 _ (List.mem_of_getElem? (i := 11) rfl)
theorem fl_X10_51 : Cond.fieldLink RX10 51 "NearWords" "survey" "LNearWords$Survey;" ∈ wsL_law0 := gT_c2 _ (List.mem_of_getElem? (i := 12) rfl)
theorem cl_X10_55 : Cond.classLink RX10 55 RX4 ∈ wsL_law0 := gT_c2 _ (List.mem_of_getElem? (i := 13) rfl)
theorem it_RX4 : Cond.instantiable RX4 7 ∈ wsL_law0 := gT_c2 _ (List.mem_of_getElem? (i := 14) rfl)
theorem in_RX4 : Cond.initialized RX4 ∈ wsL_law0 := gT_c2 _ (List.mem_of_getElem? (i := 15) rfl)
theorem fl_X10_58 : Cond.fieldLink RX10 58 "NearWords" "sets" "LNearWords$Sets;" ∈ wsL_law0 := gT_c2 _ (List.mem_of_getElem? (i := 16) rfl)
theorem cl_X10_62 : Cond.classLink RX10 62 RX1 ∈ wsL_law0 := gT_c2 _ (List.mem_of_getElem? (i := 17) rfl)
theorem it_RX1 : Cond.instantiable RX1 8 ∈ wsL_law0 := gT_c2 _ (List.mem_of_getElem? (i := 18) rfl)
theorem in_RX1 : Cond.initialized RX1 ∈ wsL_law0 := gT_c2 _ (List.mem_of_getElem? (i := 19) rfl)
theorem fl_X10_65 : Cond.fieldLink RX10 65 "NearWords" "middles" "LNearWords$Middle;" ∈ wsL_law0 := gT_c2 _ (List.mem_of_getElem? (i := 20) rfl)
theorem cl_X10_69 : Cond.classLink RX10 69 RX2 ∈ wsL_law0 := gT_c2 _ (List.mem_of_getElem? (i := 21) rfl)
theorem it_RX2 : Cond.instantiable RX2 6 ∈ wsL_law0 := gT_c2 _ (List.mem_of_getElem? (i := 22) rfl)
theorem in_RX2 : Cond.initialized RX2 ∈ wsL_law0 := gT_c2 _ (List.mem_of_getElem? (i := 23) rfl)
theorem fl_X10_74 : Cond.fieldLink RX10 74 "NearWords" "motifs" "LNearWords$Motif;" ∈ wsL_law0 := gT_c3 _ (List.mem_of_getElem? (i := 0) rfl)
theorem ml_X10_9 : Cond.methodLink RX10 9 yX3_init ∈ wsL_law0 := gT_c3 _ (List.mem_of_getElem? (i := 1) rfl)
theorem im_yX3_init : Cond.instanceMethod yX3_init ∈ wsL_law0 := gT_c3 _ (List.mem_of_getElem? (i := 2) rfl)
theorem cd_yX3_init : Cond.code yX3_init cX3_init 3 none ∈ wsL_law0 := gT_c3 _ (List.mem_of_getElem? (i := 3) rfl)
theorem ml_X3_3 : Cond.methodLink RX3 3 objectInit ∈ wsL_law0 := gT_c3 _ (List.mem_of_getElem? (i := 4) rfl)
theorem fl_X3_9 : Cond.fieldLink RX3 9 "NearWords$Rules" "letters" "I" ∈ wsL_law0 := gT_c3 _ (List.mem_of_getElem? (i := 5) rfl)
theorem fl_X3_15 : Cond.fieldLink RX3 15 "NearWords$Rules" "swap" "I" ∈ wsL_law0 := gT_c3 _ (List.mem_of_getElem? (i := 6) rfl)
theorem fl_X3_18 : Cond.fieldLink RX3 18 "NearWords$Rules" "drop" "I" ∈ wsL_law0 := gT_c3 _ (List.mem_of_getElem? (i := 7) rfl)
theorem fl_X3_21 : Cond.fieldLink RX3 21 "NearWords$Rules" "gap" "I" ∈ wsL_law0 := gT_c3 _ (List.mem_of_getElem? (i := 8) rfl)
theorem ac__int : Cond.arrayClass .int ∈ wsL_law0 := gT_c3 _ (List.mem_of_getElem? (i := 9) rfl)
theorem fl_X3_24 : Cond.fieldLink RX3 24 "NearWords$Rules" "prices" "[I" ∈ wsL_law0 := gT_c3 _ (List.mem_of_getElem? (i := 10) rfl)
theorem im_yX6_init : Cond.instanceMethod yX6_init ∈ wsL_law0 := gT_c3 _ (List.mem_of_getElem? (i := 11) rfl)
theorem cd_yX6_init : Cond.code yX6_init cX6_init 1 none ∈ wsL_law0 := gT_c3 _ (List.mem_of_getElem? (i := 12) rfl)
theorem ml_X6_3 : Cond.methodLink RX6 3 objectInit ∈ wsL_law0 := gT_c3 _ (List.mem_of_getElem? (i := 13) rfl)
theorem fl_X6_9 : Cond.fieldLink RX6 9 "NearWords$Tape" "size" "I" ∈ wsL_law0 := gT_c3 _ (List.mem_of_getElem? (i := 14) rfl)
theorem fl_X6_15 : Cond.fieldLink RX6 15 "NearWords$Tape" "row" "[I" ∈ wsL_law0 := gT_c3 _ (List.mem_of_getElem? (i := 15) rfl)
theorem ac__byte : Cond.arrayClass .byte ∈ wsL_law0 := gT_c3 _ (List.mem_of_getElem? (i := 16) rfl)
theorem fl_X6_19 : Cond.fieldLink RX6 19 "NearWords$Tape" "bytes" "[B" ∈ wsL_law0 := gT_c3 _ (List.mem_of_getElem? (i := 17) rfl)
theorem im_yX9_init : Cond.instanceMethod yX9_init ∈ wsL_law0 := gT_c3 _ (List.mem_of_getElem? (i := 18) rfl)
theorem cd_yX9_init : Cond.code yX9_init cX9_init 1 none ∈ wsL_law0 := gT_c3 _ (List.mem_of_getElem? (i := 19) rfl)
theorem ml_X9_3 : Cond.methodLink RX9 3 objectInit ∈ wsL_law0 := gT_c3 _ (List.mem_of_getElem? (i := 20) rfl)
theorem fl_X9_9 : Cond.fieldLink RX9 9 "NearWords$Words" "size" "I" ∈ wsL_law0 := gT_c3 _ (List.mem_of_getElem? (i := 21) rfl)
theorem fl_X9_15 : Cond.fieldLink RX9 15 "NearWords$Words" "length" "I" ∈ wsL_law0 := gT_c3 _ (List.mem_of_getElem? (i := 22) rfl)
theorem fl_X9_18 : Cond.fieldLink RX9 18 "NearWords$Words" "rows" "[I" ∈ wsL_law0 := gT_c3 _ (List.mem_of_getElem? (i := 23) rfl)
theorem fl_X9_22 : Cond.fieldLink RX9 22 "NearWords$Words" "parts" "[I" ∈ wsL_law0 := gT_c4 _ (List.mem_of_getElem? (i := 0) rfl)
theorem im_yX7_init : Cond.instanceMethod yX7_init ∈ wsL_law0 := gT_c4 _ (List.mem_of_getElem? (i := 1) rfl)
theorem cd_yX7_init : Cond.code yX7_init cX7_init 1 none ∈ wsL_law0 := gT_c4 _ (List.mem_of_getElem? (i := 2) rfl)
theorem ml_X7_3 : Cond.methodLink RX7 3 objectInit ∈ wsL_law0 := gT_c4 _ (List.mem_of_getElem? (i := 3) rfl)
theorem fl_X7_9 : Cond.fieldLink RX7 9 "NearWords$Texts" "size" "I" ∈ wsL_law0 := gT_c4 _ (List.mem_of_getElem? (i := 4) rfl)
theorem fl_X7_15 : Cond.fieldLink RX7 15 "NearWords$Texts" "rows" "[I" ∈ wsL_law0 := gT_c4 _ (List.mem_of_getElem? (i := 5) rfl)
theorem fl_X7_19 : Cond.fieldLink RX7 19 "NearWords$Texts" "lengths" "[I" ∈ wsL_law0 := gT_c4 _ (List.mem_of_getElem? (i := 6) rfl)
theorem ml_X10_39 : Cond.methodLink RX10 39 yX0_init ∈ wsL_law0 := gT_c4 _ (List.mem_of_getElem? (i := 7) rfl)
theorem im_yX0_init : Cond.instanceMethod yX0_init ∈ wsL_law0 := gT_c4 _ (List.mem_of_getElem? (i := 8) rfl)
theorem cd_yX0_init : Cond.code yX0_init cX0_init 3 none ∈ wsL_law0 := gT_c4 _ (List.mem_of_getElem? (i := 9) rfl)
theorem ml_X0_3 : Cond.methodLink RX0 3 objectInit ∈ wsL_law0 := gT_c4 _ (List.mem_of_getElem? (i := 10) rfl)
theorem fl_X0_9 : Cond.fieldLink RX0 9 "NearWords$Candidates" "near" "I" ∈ wsL_law0 := gT_c4 _ (List.mem_of_getElem? (i := 11) rfl)
theorem fl_X0_15 : Cond.fieldLink RX0 15 "NearWords$Candidates" "bits" "[I" ∈ wsL_law0 := gT_c4 _ (List.mem_of_getElem? (i := 12) rfl)
theorem fl_X0_19 : Cond.fieldLink RX0 19 "NearWords$Candidates" "row" "[I" ∈ wsL_law0 := gT_c4 _ (List.mem_of_getElem? (i := 13) rfl)
theorem fl_X0_22 : Cond.fieldLink RX0 22 "NearWords$Candidates" "rules" "LNearWords$Rules;" ∈ wsL_law0 := gT_c4 _ (List.mem_of_getElem? (i := 14) rfl)
theorem fl_X0_26 : Cond.fieldLink RX0 26 "NearWords$Candidates" "words" "LNearWords$Words;" ∈ wsL_law0 := gT_c4 _ (List.mem_of_getElem? (i := 15) rfl)
theorem cl_X0_30 : Cond.classLink RX0 30 RX8 ∈ wsL_law0 := gT_c4 _ (List.mem_of_getElem? (i := 16) rfl)
theorem it_RX8 : Cond.instantiable RX8 9 ∈ wsL_law0 := gT_c4 _ (List.mem_of_getElem? (i := 17) rfl)
theorem in_RX8 : Cond.initialized RX8 ∈ wsL_law0 := gT_c4 _ (List.mem_of_getElem? (i := 18) rfl)
theorem fl_X0_35 : Cond.fieldLink RX0 35 "NearWords$Candidates" "walk" "LNearWords$Walk;" ∈ wsL_law0 := gT_c4 _ (List.mem_of_getElem? (i := 19) rfl)
theorem ml_X0_32 : Cond.methodLink RX0 32 yX8_init ∈ wsL_law0 := gT_c4 _ (List.mem_of_getElem? (i := 20) rfl)
theorem im_yX8_init : Cond.instanceMethod yX8_init ∈ wsL_law0 := gT_c4 _ (List.mem_of_getElem? (i := 21) rfl)
theorem cd_yX8_init : Cond.code yX8_init cX8_init 4 none ∈ wsL_law0 := gT_c4 _ (List.mem_of_getElem? (i := 22) rfl)
theorem ml_X8_3 : Cond.methodLink RX8 3 objectInit ∈ wsL_law0 := gT_c4 _ (List.mem_of_getElem? (i := 23) rfl)
theorem fl_X8_9 : Cond.fieldLink RX8 9 "NearWords$Walk" "length" "I" ∈ wsL_law0 := gT_c5 _ (List.mem_of_getElem? (i := 0) rfl)
theorem fl_X8_15 : Cond.fieldLink RX8 15 "NearWords$Walk" "targets" "I" ∈ wsL_law0 := gT_c5 _ (List.mem_of_getElem? (i := 1) rfl)
theorem fl_X8_18 : Cond.fieldLink RX8 18 "NearWords$Walk" "rules" "LNearWords$Rules;" ∈ wsL_law0 := gT_c5 _ (List.mem_of_getElem? (i := 2) rfl)
theorem fl_X8_22 : Cond.fieldLink RX8 22 "NearWords$Walk" "width" "I" ∈ wsL_law0 := gT_c5 _ (List.mem_of_getElem? (i := 3) rfl)
theorem fl_X8_25 : Cond.fieldLink RX8 25 "NearWords$Walk" "row" "[I" ∈ wsL_law0 := gT_c5 _ (List.mem_of_getElem? (i := 4) rfl)
theorem fl_X8_29 : Cond.fieldLink RX8 29 "NearWords$Walk" "sums" "[I" ∈ wsL_law0 := gT_c5 _ (List.mem_of_getElem? (i := 5) rfl)
theorem fl_X8_32 : Cond.fieldLink RX8 32 "NearWords$Walk" "aims" "[I" ∈ wsL_law0 := gT_c5 _ (List.mem_of_getElem? (i := 6) rfl)
theorem fl_X8_35 : Cond.fieldLink RX8 35 "NearWords$Walk" "packed" "[I" ∈ wsL_law0 := gT_c5 _ (List.mem_of_getElem? (i := 7) rfl)
theorem fl_X8_38 : Cond.fieldLink RX8 38 "NearWords$Walk" "spots" "[I" ∈ wsL_law0 := gT_c5 _ (List.mem_of_getElem? (i := 8) rfl)
theorem ml_X10_48 : Cond.methodLink RX10 48 yX5_init ∈ wsL_law0 := gT_c5 _ (List.mem_of_getElem? (i := 9) rfl)
theorem im_yX5_init : Cond.instanceMethod yX5_init ∈ wsL_law0 := gT_c5 _ (List.mem_of_getElem? (i := 10) rfl)
theorem cd_yX5_init : Cond.code yX5_init cX5_init 2 none ∈ wsL_law0 := gT_c5 _ (List.mem_of_getElem? (i := 11) rfl)
theorem ml_X5_3 : Cond.methodLink RX5 3 objectInit ∈ wsL_law0 := gT_c5 _ (List.mem_of_getElem? (i := 12) rfl)
theorem fl_X5_9 : Cond.fieldLink RX5 9 "NearWords$Survey" "fresh" "Z" ∈ wsL_law0 := gT_c5 _ (List.mem_of_getElem? (i := 13) rfl)
theorem fl_X5_15 : Cond.fieldLink RX5 15 "NearWords$Survey" "radius" "I" ∈ wsL_law0 := gT_c5 _ (List.mem_of_getElem? (i := 14) rfl)
theorem fl_X5_19 : Cond.fieldLink RX5 19 "NearWords$Survey" "centreRow" "I" ∈ wsL_law0 := gT_c5 _ (List.mem_of_getElem? (i := 15) rfl)
theorem fl_X5_22 : Cond.fieldLink RX5 22 "NearWords$Survey" "sum" "I" ∈ wsL_law0 := gT_c5 _ (List.mem_of_getElem? (i := 16) rfl)
theorem fl_X5_25 : Cond.fieldLink RX5 25 "NearWords$Survey" "medianRow" "I" ∈ wsL_law0 := gT_c5 _ (List.mem_of_getElem? (i := 17) rfl)
theorem fl_X5_28 : Cond.fieldLink RX5 28 "NearWords$Survey" "medians" "I" ∈ wsL_law0 := gT_c5 _ (List.mem_of_getElem? (i := 18) rfl)
theorem fl_X5_31 : Cond.fieldLink RX5 31 "NearWords$Survey" "counts" "[I" ∈ wsL_law0 := gT_c5 _ (List.mem_of_getElem? (i := 19) rfl)
theorem fl_X5_35 : Cond.fieldLink RX5 35 "NearWords$Survey" "seen" "[I" ∈ wsL_law0 := gT_c5 _ (List.mem_of_getElem? (i := 20) rfl)
theorem fl_X5_38 : Cond.fieldLink RX5 38 "NearWords$Survey" "candidates" "LNearWords$Candidates;" ∈ wsL_law0 := gT_c5 _ (List.mem_of_getElem? (i := 21) rfl)
theorem ml_X10_57 : Cond.methodLink RX10 57 yX4_init ∈ wsL_law0 := gT_c5 _ (List.mem_of_getElem? (i := 22) rfl)
theorem im_yX4_init : Cond.instanceMethod yX4_init ∈ wsL_law0 := gT_c5 _ (List.mem_of_getElem? (i := 23) rfl)
theorem cd_yX4_init : Cond.code yX4_init cX4_init 2 none ∈ wsL_law0 := gT_c6 _ (List.mem_of_getElem? (i := 0) rfl)
theorem ml_X4_3 : Cond.methodLink RX4 3 objectInit ∈ wsL_law0 := gT_c6 _ (List.mem_of_getElem? (i := 1) rfl)
theorem fl_X4_9 : Cond.fieldLink RX4 9 "NearWords$Sets" "fresh" "Z" ∈ wsL_law0 := gT_c6 _ (List.mem_of_getElem? (i := 2) rfl)
theorem fl_X4_15 : Cond.fieldLink RX4 15 "NearWords$Sets" "covered" "[I" ∈ wsL_law0 := gT_c6 _ (List.mem_of_getElem? (i := 3) rfl)
theorem fl_X4_19 : Cond.fieldLink RX4 19 "NearWords$Sets" "keys" "[I" ∈ wsL_law0 := gT_c6 _ (List.mem_of_getElem? (i := 4) rfl)
theorem fl_X4_22 : Cond.fieldLink RX4 22 "NearWords$Sets" "parted" "[I" ∈ wsL_law0 := gT_c6 _ (List.mem_of_getElem? (i := 5) rfl)
theorem fl_X4_25 : Cond.fieldLink RX4 25 "NearWords$Sets" "order" "[I" ∈ wsL_law0 := gT_c6 _ (List.mem_of_getElem? (i := 6) rfl)
theorem fl_X4_28 : Cond.fieldLink RX4 28 "NearWords$Sets" "nearBits" "I" ∈ wsL_law0 := gT_c6 _ (List.mem_of_getElem? (i := 7) rfl)
theorem fl_X4_32 : Cond.fieldLink RX4 32 "NearWords$Sets" "candidates" "LNearWords$Candidates;" ∈ wsL_law0 := gT_c6 _ (List.mem_of_getElem? (i := 8) rfl)
theorem ml_X10_64 : Cond.methodLink RX10 64 yX1_init ∈ wsL_law0 := gT_c6 _ (List.mem_of_getElem? (i := 9) rfl)
theorem im_yX1_init : Cond.instanceMethod yX1_init ∈ wsL_law0 := gT_c6 _ (List.mem_of_getElem? (i := 10) rfl)
theorem cd_yX1_init : Cond.code yX1_init cX1_init 3 none ∈ wsL_law0 := gT_c6 _ (List.mem_of_getElem? (i := 11) rfl)
theorem ml_X1_5 : Cond.methodLink RX1 5 objectInit ∈ wsL_law0 := gT_c6 _ (List.mem_of_getElem? (i := 12) rfl)
theorem fl_X1_11 : Cond.fieldLink RX1 11 "NearWords$Middle" "fresh" "Z" ∈ wsL_law0 := gT_c6 _ (List.mem_of_getElem? (i := 13) rfl)
theorem fl_X1_15 : Cond.fieldLink RX1 15 "NearWords$Middle" "sum" "I" ∈ wsL_law0 := gT_c6 _ (List.mem_of_getElem? (i := 14) rfl)
theorem fl_X1_19 : Cond.fieldLink RX1 19 "NearWords$Middle" "length" "I" ∈ wsL_law0 := gT_c6 _ (List.mem_of_getElem? (i := 15) rfl)
theorem fl_X1_22 : Cond.fieldLink RX1 22 "NearWords$Middle" "found" "[I" ∈ wsL_law0 := gT_c6 _ (List.mem_of_getElem? (i := 16) rfl)
theorem fl_X1_26 : Cond.fieldLink RX1 26 "NearWords$Middle" "row" "[I" ∈ wsL_law0 := gT_c6 _ (List.mem_of_getElem? (i := 17) rfl)
theorem fl_X1_29 : Cond.fieldLink RX1 29 "NearWords$Middle" "lines" "[I" ∈ wsL_law0 := gT_c6 _ (List.mem_of_getElem? (i := 18) rfl)
theorem fl_X1_32 : Cond.fieldLink RX1 32 "NearWords$Middle" "rules" "LNearWords$Rules;" ∈ wsL_law0 := gT_c6 _ (List.mem_of_getElem? (i := 19) rfl)
theorem fl_X1_36 : Cond.fieldLink RX1 36 "NearWords$Middle" "words" "LNearWords$Words;" ∈ wsL_law0 := gT_c6 _ (List.mem_of_getElem? (i := 20) rfl)
theorem ml_X10_71 : Cond.methodLink RX10 71 yX2_init ∈ wsL_law0 := gT_c6 _ (List.mem_of_getElem? (i := 21) rfl)
theorem im_yX2_init : Cond.instanceMethod yX2_init ∈ wsL_law0 := gT_c6 _ (List.mem_of_getElem? (i := 22) rfl)
theorem cd_yX2_init : Cond.code yX2_init cX2_init 3 none ∈ wsL_law0 := gT_c6 _ (List.mem_of_getElem? (i := 23) rfl)
theorem ml_X2_3 : Cond.methodLink RX2 3 objectInit ∈ wsL_law0 := gT_c7 _ (List.mem_of_getElem? (i := 0) rfl)
theorem fl_X2_9 : Cond.fieldLink RX2 9 "NearWords$Motif" "reach" "[I" ∈ wsL_law0 := gT_c7 _ (List.mem_of_getElem? (i := 1) rfl)
theorem fl_X2_15 : Cond.fieldLink RX2 15 "NearWords$Motif" "found" "[I" ∈ wsL_law0 := gT_c7 _ (List.mem_of_getElem? (i := 2) rfl)
theorem fl_X2_18 : Cond.fieldLink RX2 18 "NearWords$Motif" "row" "[I" ∈ wsL_law0 := gT_c7 _ (List.mem_of_getElem? (i := 3) rfl)
theorem fl_X2_21 : Cond.fieldLink RX2 21 "NearWords$Motif" "rules" "LNearWords$Rules;" ∈ wsL_law0 := gT_c7 _ (List.mem_of_getElem? (i := 4) rfl)
theorem fl_X2_25 : Cond.fieldLink RX2 25 "NearWords$Motif" "texts" "LNearWords$Texts;" ∈ wsL_law0 := gT_c7 _ (List.mem_of_getElem? (i := 5) rfl)
theorem cl_X2_29 : Cond.classLink RX2 29 RX8 ∈ wsL_law0 := gT_c7 _ (List.mem_of_getElem? (i := 6) rfl)
theorem fl_X2_34 : Cond.fieldLink RX2 34 "NearWords$Motif" "walk" "LNearWords$Walk;" ∈ wsL_law0 := gT_c7 _ (List.mem_of_getElem? (i := 7) rfl)
theorem ml_X2_31 : Cond.methodLink RX2 31 yX8_init ∈ wsL_law0 := gT_c7 _ (List.mem_of_getElem? (i := 8) rfl)
theorem ml_X2_38 : Cond.methodLink RX2 38 yX2_forget ∈ wsL_law0 := gT_c7 _ (List.mem_of_getElem? (i := 9) rfl)
theorem im_yX2_forget : Cond.instanceMethod yX2_forget ∈ wsL_law0 := gT_c7 _ (List.mem_of_getElem? (i := 10) rfl)
theorem se_yX2_forget_RX2 : Cond.selects RX2 yX2_forget yX2_forget ∈ wsL_law0 := gT_c7 _ (List.mem_of_getElem? (i := 11) rfl)
theorem cd_yX2_forget : Cond.code yX2_forget cX2_forget 2 none ∈ wsL_law0 := gT_c7 _ (List.mem_of_getElem? (i := 12) rfl)
theorem ml_L_18 : Cond.methodLink RL 18 yX11_init ∈ wsL_law0 := gT_c7 _ (List.mem_of_getElem? (i := 13) rfl)
theorem im_yX11_init : Cond.instanceMethod yX11_init ∈ wsL_law0 := gT_c7 _ (List.mem_of_getElem? (i := 14) rfl)
theorem cd_yX11_init : Cond.code yX11_init cX11_init 2 none ∈ wsL_law0 := gT_c7 _ (List.mem_of_getElem? (i := 15) rfl)
theorem ml_X11_7 : Cond.methodLink RX11 7 objectInit ∈ wsL_law0 := gT_c7 _ (List.mem_of_getElem? (i := 16) rfl)
theorem fl_X11_13 : Cond.fieldLink RX11 13 "NearWordsModel" "letters" "I" ∈ wsL_law0 := gT_c7 _ (List.mem_of_getElem? (i := 17) rfl)
theorem fl_X11_16 : Cond.fieldLink RX11 16 "NearWordsModel" "cost" "[I" ∈ wsL_law0 := gT_c7 _ (List.mem_of_getElem? (i := 18) rfl)
theorem fl_X11_20 : Cond.fieldLink RX11 20 "NearWordsModel" "drop" "I" ∈ wsL_law0 := gT_c7 _ (List.mem_of_getElem? (i := 19) rfl)
theorem fl_X11_23 : Cond.fieldLink RX11 23 "NearWordsModel" "word" "[B" ∈ wsL_law0 := gT_c7 _ (List.mem_of_getElem? (i := 20) rfl)
theorem fl_X11_27 : Cond.fieldLink RX11 27 "NearWordsModel" "part" "[I" ∈ wsL_law0 := gT_c7 _ (List.mem_of_getElem? (i := 21) rfl)
theorem fl_X11_30 : Cond.fieldLink RX11 30 "NearWordsModel" "text" "[B" ∈ wsL_law0 := gT_c7 _ (List.mem_of_getElem? (i := 22) rfl)
theorem fl_X11_33 : Cond.fieldLink RX11 33 "NearWordsModel" "textSize" "[I" ∈ wsL_law0 := gT_c7 _ (List.mem_of_getElem? (i := 23) rfl)
theorem fl_X11_36 : Cond.fieldLink RX11 36 "NearWordsModel" "tape" "[B" ∈ wsL_law0 := gT_c8 _ (List.mem_of_getElem? (i := 0) rfl)
theorem fl_X11_39 : Cond.fieldLink RX11 39 "NearWordsModel" "told" "[B" ∈ wsL_law0 := gT_c8 _ (List.mem_of_getElem? (i := 1) rfl)
theorem fl_X11_42 : Cond.fieldLink RX11 42 "NearWordsModel" "far" "[I" ∈ wsL_law0 := gT_c8 _ (List.mem_of_getElem? (i := 2) rfl)
theorem ct_X11_45 : Cond.constant RX11 45 (131072) ∈ wsL_law0 := gT_c8 _ (List.mem_of_getElem? (i := 3) rfl)
theorem fl_X11_46 : Cond.fieldLink RX11 46 "NearWordsModel" "apart" "[B" ∈ wsL_law0 := gT_c8 _ (List.mem_of_getElem? (i := 4) rfl)
theorem fl_X11_49 : Cond.fieldLink RX11 49 "NearWordsModel" "row" "[B" ∈ wsL_law0 := gT_c8 _ (List.mem_of_getElem? (i := 5) rfl)
theorem ac__boolean : Cond.arrayClass .boolean ∈ wsL_law0 := gT_c8 _ (List.mem_of_getElem? (i := 6) rfl)
theorem fl_X11_52 : Cond.fieldLink RX11 52 "NearWordsModel" "isHeld" "[Z" ∈ wsL_law0 := gT_c8 _ (List.mem_of_getElem? (i := 7) rfl)
theorem fl_X11_56 : Cond.fieldLink RX11 56 "NearWordsModel" "sets" "[I" ∈ wsL_law0 := gT_c8 _ (List.mem_of_getElem? (i := 8) rfl)
theorem fl_X11_59 : Cond.fieldLink RX11 59 "NearWordsModel" "table" "[I" ∈ wsL_law0 := gT_c8 _ (List.mem_of_getElem? (i := 9) rfl)
theorem fl_X11_62 : Cond.fieldLink RX11 62 "NearWordsModel" "line" "[I" ∈ wsL_law0 := gT_c8 _ (List.mem_of_getElem? (i := 10) rfl)
theorem fl_X11_65 : Cond.fieldLink RX11 65 "NearWordsModel" "middle" "[B" ∈ wsL_law0 := gT_c8 _ (List.mem_of_getElem? (i := 11) rfl)
theorem fl_X11_68 : Cond.fieldLink RX11 68 "NearWordsModel" "tried" "[B" ∈ wsL_law0 := gT_c8 _ (List.mem_of_getElem? (i := 12) rfl)
theorem ml_L_19 : Cond.methodLink RL 19 yX10_letters ∈ wsL_law0 := gT_c8 _ (List.mem_of_getElem? (i := 13) rfl)
theorem im_yX10_letters : Cond.instanceMethod yX10_letters ∈ wsL_law0 := gT_c8 _ (List.mem_of_getElem? (i := 14) rfl)
theorem se_yX10_letters_RX10 : Cond.selects RX10 yX10_letters yX10_letters ∈ wsL_law0 := gT_c8 _ (List.mem_of_getElem? (i := 15) rfl)
theorem cd_yX10_letters : Cond.code yX10_letters cX10_letters 2 (some .boolean) ∈ wsL_law0 := gT_c8 _ (List.mem_of_getElem? (i := 16) rfl)
theorem fl_X10_78 : Cond.fieldLink RX10 78 "NearWords$Words" "size" "I" ∈ wsL_law0 := gT_c8 _ (List.mem_of_getElem? (i := 17) rfl)
theorem fl_X10_82 : Cond.fieldLink RX10 82 "NearWords$Texts" "size" "I" ∈ wsL_law0 := gT_c8 _ (List.mem_of_getElem? (i := 18) rfl)
theorem fl_X10_83 : Cond.fieldLink RX10 83 "NearWords$Rules" "letters" "I" ∈ wsL_law0 := gT_c8 _ (List.mem_of_getElem? (i := 19) rfl)
theorem ml_L_23 : Cond.methodLink RL 23 yX11_letters ∈ wsL_law0 := gT_c8 _ (List.mem_of_getElem? (i := 20) rfl)
theorem im_yX11_letters : Cond.instanceMethod yX11_letters ∈ wsL_law0 := gT_c8 _ (List.mem_of_getElem? (i := 21) rfl)
theorem se_yX11_letters_RX11 : Cond.selects RX11 yX11_letters yX11_letters ∈ wsL_law0 := gT_c8 _ (List.mem_of_getElem? (i := 22) rfl)
theorem cd_yX11_letters : Cond.code yX11_letters cX11_letters 2 (some .boolean) ∈ wsL_law0 := gT_c8 _ (List.mem_of_getElem? (i := 23) rfl)
theorem fl_X11_1 : Cond.fieldLink RX11 1 "NearWordsModel" "thrown" "I" ∈ wsL_law0 := gT_c9 _ (List.mem_of_getElem? (i := 0) rfl)
theorem fl_X11_85 : Cond.fieldLink RX11 85 "NearWordsModel" "words" "I" ∈ wsL_law0 := gT_c9 _ (List.mem_of_getElem? (i := 1) rfl)
theorem fl_X11_88 : Cond.fieldLink RX11 88 "NearWordsModel" "texts" "I" ∈ wsL_law0 := gT_c9 _ (List.mem_of_getElem? (i := 2) rfl)
theorem ml_X11_81 : Cond.methodLink RX11 81 yX11_within ∈ wsL_law0 := gT_c9 _ (List.mem_of_getElem? (i := 3) rfl)
theorem st_yX11_within : Cond.static yX11_within ∈ wsL_law0 := gT_c9 _ (List.mem_of_getElem? (i := 4) rfl)
theorem cd_yX11_within : Cond.code yX11_within cX11_within 3 (some .boolean) ∈ wsL_law0 := gT_c9 _ (List.mem_of_getElem? (i := 5) rfl)
theorem ml_L_24 : Cond.methodLink RL 24 yX10_cost ∈ wsL_law0 := gT_c9 _ (List.mem_of_getElem? (i := 6) rfl)
theorem im_yX10_cost : Cond.instanceMethod yX10_cost ∈ wsL_law0 := gT_c9 _ (List.mem_of_getElem? (i := 7) rfl)
theorem se_yX10_cost_RX10 : Cond.selects RX10 yX10_cost yX10_cost ∈ wsL_law0 := gT_c9 _ (List.mem_of_getElem? (i := 8) rfl)
theorem cd_yX10_cost : Cond.code yX10_cost cX10_cost 4 (some .boolean) ∈ wsL_law0 := gT_c9 _ (List.mem_of_getElem? (i := 9) rfl)
theorem fl_X10_97 : Cond.fieldLink RX10 97 "NearWords$Middle" "fresh" "Z" ∈ wsL_law0 := gT_c9 _ (List.mem_of_getElem? (i := 10) rfl)
theorem ml_X10_86 : Cond.methodLink RX10 86 yX10_isLetterOfFour ∈ wsL_law0 := gT_c9 _ (List.mem_of_getElem? (i := 11) rfl)
theorem st_yX10_isLetterOfFour : Cond.static yX10_isLetterOfFour ∈ wsL_law0 := gT_c9 _ (List.mem_of_getElem? (i := 12) rfl)
theorem cd_yX10_isLetterOfFour : Cond.code yX10_isLetterOfFour cX10_isLetterOfFour 1 (some .boolean) ∈ wsL_law0 := gT_c9 _ (List.mem_of_getElem? (i := 13) rfl)
theorem ml_X10_90 : Cond.methodLink RX10 90 yX3_setPrice ∈ wsL_law0 := gT_c9 _ (List.mem_of_getElem? (i := 14) rfl)
theorem im_yX3_setPrice : Cond.instanceMethod yX3_setPrice ∈ wsL_law0 := gT_c9 _ (List.mem_of_getElem? (i := 15) rfl)
theorem se_yX3_setPrice_RX3 : Cond.selects RX3 yX3_setPrice yX3_setPrice ∈ wsL_law0 := gT_c9 _ (List.mem_of_getElem? (i := 16) rfl)
theorem cd_yX3_setPrice : Cond.code yX3_setPrice cX3_setPrice 4 none ∈ wsL_law0 := gT_c9 _ (List.mem_of_getElem? (i := 17) rfl)
theorem ml_X10_94 : Cond.methodLink RX10 94 yX10_forgetDistances ∈ wsL_law0 := gT_c9 _ (List.mem_of_getElem? (i := 18) rfl)
theorem im_yX10_forgetDistances : Cond.instanceMethod yX10_forgetDistances ∈ wsL_law0 := gT_c9 _ (List.mem_of_getElem? (i := 19) rfl)
theorem se_yX10_forgetDistances_RX10 : Cond.selects RX10 yX10_forgetDistances yX10_forgetDistances ∈ wsL_law0 := gT_c9 _ (List.mem_of_getElem? (i := 20) rfl)
theorem cd_yX10_forgetDistances : Cond.code yX10_forgetDistances cX10_forgetDistances 1 none ∈ wsL_law0 := gT_c9 _ (List.mem_of_getElem? (i := 21) rfl)
theorem ml_X10_110 : Cond.methodLink RX10 110 yX10_forgetCandidates ∈ wsL_law0 := gT_c9 _ (List.mem_of_getElem? (i := 22) rfl)
theorem im_yX10_forgetCandidates : Cond.instanceMethod yX10_forgetCandidates ∈ wsL_law0 := gT_c9 _ (List.mem_of_getElem? (i := 23) rfl)
theorem se_yX10_forgetCandidates_RX10 : Cond.selects RX10 yX10_forgetCandidates yX10_forgetCandidates ∈ wsL_law0 := gT_c10 _ (List.mem_of_getElem? (i := 0) rfl)
theorem cd_yX10_forgetCandidates : Cond.code yX10_forgetCandidates cX10_forgetCandidates 1 none ∈ wsL_law0 := gT_c10 _ (List.mem_of_getElem? (i := 1) rfl)
theorem fl_X10_271 : Cond.fieldLink RX10 271 "NearWords$Survey" "fresh" "Z" ∈ wsL_law0 := gT_c10 _ (List.mem_of_getElem? (i := 2) rfl)
theorem fl_X10_272 : Cond.fieldLink RX10 272 "NearWords$Sets" "fresh" "Z" ∈ wsL_law0 := gT_c10 _ (List.mem_of_getElem? (i := 3) rfl)
theorem ml_X10_136 : Cond.methodLink RX10 136 yX2_forget ∈ wsL_law0 := gT_c10 _ (List.mem_of_getElem? (i := 4) rfl)
theorem ml_L_28 : Cond.methodLink RL 28 yX11_cost ∈ wsL_law0 := gT_c10 _ (List.mem_of_getElem? (i := 5) rfl)
theorem im_yX11_cost : Cond.instanceMethod yX11_cost ∈ wsL_law0 := gT_c10 _ (List.mem_of_getElem? (i := 6) rfl)
theorem se_yX11_cost_RX11 : Cond.selects RX11 yX11_cost yX11_cost ∈ wsL_law0 := gT_c10 _ (List.mem_of_getElem? (i := 7) rfl)
theorem cd_yX11_cost : Cond.code yX11_cost cX11_cost 4 (some .boolean) ∈ wsL_law0 := gT_c10 _ (List.mem_of_getElem? (i := 8) rfl)
theorem ml_X11_91 : Cond.methodLink RX11 91 yX11_changes ∈ wsL_law0 := gT_c10 _ (List.mem_of_getElem? (i := 9) rfl)
theorem im_yX11_changes : Cond.instanceMethod yX11_changes ∈ wsL_law0 := gT_c10 _ (List.mem_of_getElem? (i := 10) rfl)
theorem se_yX11_changes_RX11 : Cond.selects RX11 yX11_changes yX11_changes ∈ wsL_law0 := gT_c10 _ (List.mem_of_getElem? (i := 11) rfl)
theorem cd_yX11_changes : Cond.code yX11_changes cX11_changes 1 none ∈ wsL_law0 := gT_c10 _ (List.mem_of_getElem? (i := 12) rfl)
theorem fl_X11_71 : Cond.fieldLink RX11 71 "NearWordsModel" "isKnown" "Z" ∈ wsL_law0 := gT_c10 _ (List.mem_of_getElem? (i := 13) rfl)
theorem fl_X11_75 : Cond.fieldLink RX11 75 "NearWordsModel" "isMiddleKnown" "Z" ∈ wsL_law0 := gT_c10 _ (List.mem_of_getElem? (i := 14) rfl)
theorem fl_X11_78 : Cond.fieldLink RX11 78 "NearWordsModel" "motifKnown" "I" ∈ wsL_law0 := gT_c10 _ (List.mem_of_getElem? (i := 15) rfl)
theorem ml_L_29 : Cond.methodLink RL 29 yX10_swap ∈ wsL_law0 := gT_c10 _ (List.mem_of_getElem? (i := 16) rfl)
theorem im_yX10_swap : Cond.instanceMethod yX10_swap ∈ wsL_law0 := gT_c10 _ (List.mem_of_getElem? (i := 17) rfl)
theorem se_yX10_swap_RX10 : Cond.selects RX10 yX10_swap yX10_swap ∈ wsL_law0 := gT_c10 _ (List.mem_of_getElem? (i := 18) rfl)
theorem cd_yX10_swap : Cond.code yX10_swap cX10_swap 2 (some .boolean) ∈ wsL_law0 := gT_c10 _ (List.mem_of_getElem? (i := 19) rfl)
theorem fl_X10_101 : Cond.fieldLink RX10 101 "NearWords$Rules" "swap" "I" ∈ wsL_law0 := gT_c10 _ (List.mem_of_getElem? (i := 20) rfl)
theorem ml_L_32 : Cond.methodLink RL 32 yX11_swap ∈ wsL_law0 := gT_c10 _ (List.mem_of_getElem? (i := 21) rfl)
theorem im_yX11_swap : Cond.instanceMethod yX11_swap ∈ wsL_law0 := gT_c10 _ (List.mem_of_getElem? (i := 22) rfl)
theorem se_yX11_swap_RX11 : Cond.selects RX11 yX11_swap yX11_swap ∈ wsL_law0 := gT_c10 _ (List.mem_of_getElem? (i := 23) rfl)
theorem cd_yX11_swap : Cond.code yX11_swap cX11_swap 2 (some .boolean) ∈ wsL_law0 := gT_c11 _ (List.mem_of_getElem? (i := 0) rfl)
theorem fl_X11_94 : Cond.fieldLink RX11 94 "NearWordsModel" "swap" "I" ∈ wsL_law0 := gT_c11 _ (List.mem_of_getElem? (i := 1) rfl)
theorem ml_L_33 : Cond.methodLink RL 33 yX10_drop ∈ wsL_law0 := gT_c11 _ (List.mem_of_getElem? (i := 2) rfl)
theorem im_yX10_drop : Cond.instanceMethod yX10_drop ∈ wsL_law0 := gT_c11 _ (List.mem_of_getElem? (i := 3) rfl)
theorem se_yX10_drop_RX10 : Cond.selects RX10 yX10_drop yX10_drop ∈ wsL_law0 := gT_c11 _ (List.mem_of_getElem? (i := 4) rfl)
theorem cd_yX10_drop : Cond.code yX10_drop cX10_drop 2 (some .boolean) ∈ wsL_law0 := gT_c11 _ (List.mem_of_getElem? (i := 5) rfl)
theorem fl_X10_104 : Cond.fieldLink RX10 104 "NearWords$Rules" "drop" "I" ∈ wsL_law0 := gT_c11 _ (List.mem_of_getElem? (i := 6) rfl)
theorem ml_L_36 : Cond.methodLink RL 36 yX11_drop ∈ wsL_law0 := gT_c11 _ (List.mem_of_getElem? (i := 7) rfl)
theorem im_yX11_drop : Cond.instanceMethod yX11_drop ∈ wsL_law0 := gT_c11 _ (List.mem_of_getElem? (i := 8) rfl)
theorem se_yX11_drop_RX11 : Cond.selects RX11 yX11_drop yX11_drop ∈ wsL_law0 := gT_c11 _ (List.mem_of_getElem? (i := 9) rfl)
theorem cd_yX11_drop : Cond.code yX11_drop cX11_drop 2 (some .boolean) ∈ wsL_law0 := gT_c11 _ (List.mem_of_getElem? (i := 10) rfl)
theorem ml_L_37 : Cond.methodLink RL 37 yX10_gap ∈ wsL_law0 := gT_c11 _ (List.mem_of_getElem? (i := 11) rfl)
theorem im_yX10_gap : Cond.instanceMethod yX10_gap ∈ wsL_law0 := gT_c11 _ (List.mem_of_getElem? (i := 12) rfl)
theorem se_yX10_gap_RX10 : Cond.selects RX10 yX10_gap yX10_gap ∈ wsL_law0 := gT_c11 _ (List.mem_of_getElem? (i := 13) rfl)
theorem cd_yX10_gap : Cond.code yX10_gap cX10_gap 2 (some .boolean) ∈ wsL_law0 := gT_c11 _ (List.mem_of_getElem? (i := 14) rfl)
theorem fl_X10_107 : Cond.fieldLink RX10 107 "NearWords$Rules" "gap" "I" ∈ wsL_law0 := gT_c11 _ (List.mem_of_getElem? (i := 15) rfl)
theorem ml_L_40 : Cond.methodLink RL 40 yX11_gap ∈ wsL_law0 := gT_c11 _ (List.mem_of_getElem? (i := 16) rfl)
theorem im_yX11_gap : Cond.instanceMethod yX11_gap ∈ wsL_law0 := gT_c11 _ (List.mem_of_getElem? (i := 17) rfl)
theorem se_yX11_gap_RX11 : Cond.selects RX11 yX11_gap yX11_gap ∈ wsL_law0 := gT_c11 _ (List.mem_of_getElem? (i := 18) rfl)
theorem cd_yX11_gap : Cond.code yX11_gap cX11_gap 2 (some .boolean) ∈ wsL_law0 := gT_c11 _ (List.mem_of_getElem? (i := 19) rfl)
theorem fl_X11_97 : Cond.fieldLink RX11 97 "NearWordsModel" "gap" "I" ∈ wsL_law0 := gT_c11 _ (List.mem_of_getElem? (i := 20) rfl)
theorem ml_L_41 : Cond.methodLink RL 41 yX10_feed ∈ wsL_law0 := gT_c11 _ (List.mem_of_getElem? (i := 21) rfl)
theorem im_yX10_feed : Cond.instanceMethod yX10_feed ∈ wsL_law0 := gT_c11 _ (List.mem_of_getElem? (i := 22) rfl)
theorem se_yX10_feed_RX10 : Cond.selects RX10 yX10_feed yX10_feed ∈ wsL_law0 := gT_c11 _ (List.mem_of_getElem? (i := 23) rfl)
theorem cd_yX10_feed : Cond.code yX10_feed cX10_feed 6 (some .int) ∈ wsL_law0 := gT_c12 _ (List.mem_of_getElem? (i := 0) rfl)
theorem fl_X10_113 : Cond.fieldLink RX10 113 "NearWords$Tape" "size" "I" ∈ wsL_law0 := gT_c12 _ (List.mem_of_getElem? (i := 1) rfl)
theorem ml_X10_114 : Cond.methodLink RX10 114 yX6_add ∈ wsL_law0 := gT_c12 _ (List.mem_of_getElem? (i := 2) rfl)
theorem im_yX6_add : Cond.instanceMethod yX6_add ∈ wsL_law0 := gT_c12 _ (List.mem_of_getElem? (i := 3) rfl)
theorem se_yX6_add_RX6 : Cond.selects RX6 yX6_add yX6_add ∈ wsL_law0 := gT_c12 _ (List.mem_of_getElem? (i := 4) rfl)
theorem cd_yX6_add : Cond.code yX6_add cX6_add 3 none ∈ wsL_law0 := gT_c12 _ (List.mem_of_getElem? (i := 5) rfl)
theorem ml_L_45 : Cond.methodLink RL 45 yX11_feed ∈ wsL_law0 := gT_c12 _ (List.mem_of_getElem? (i := 6) rfl)
theorem im_yX11_feed : Cond.instanceMethod yX11_feed ∈ wsL_law0 := gT_c12 _ (List.mem_of_getElem? (i := 7) rfl)
theorem se_yX11_feed_RX11 : Cond.selects RX11 yX11_feed yX11_feed ∈ wsL_law0 := gT_c12 _ (List.mem_of_getElem? (i := 8) rfl)
theorem cd_yX11_feed : Cond.code yX11_feed cX11_feed 8 (some .int) ∈ wsL_law0 := gT_c12 _ (List.mem_of_getElem? (i := 9) rfl)
theorem fl_X11_100 : Cond.fieldLink RX11 100 "NearWordsModel" "taped" "I" ∈ wsL_law0 := gT_c12 _ (List.mem_of_getElem? (i := 10) rfl)
theorem ml_L_46 : Cond.methodLink RL 46 yX10_end ∈ wsL_law0 := gT_c12 _ (List.mem_of_getElem? (i := 11) rfl)
theorem im_yX10_end : Cond.instanceMethod yX10_end ∈ wsL_law0 := gT_c12 _ (List.mem_of_getElem? (i := 12) rfl)
theorem se_yX10_end_RX10 : Cond.selects RX10 yX10_end yX10_end ∈ wsL_law0 := gT_c12 _ (List.mem_of_getElem? (i := 13) rfl)
theorem cd_yX10_end : Cond.code yX10_end cX10_end 2 (some .int) ∈ wsL_law0 := gT_c12 _ (List.mem_of_getElem? (i := 14) rfl)
theorem ml_L_50 : Cond.methodLink RL 50 yX11_end ∈ wsL_law0 := gT_c12 _ (List.mem_of_getElem? (i := 15) rfl)
theorem im_yX11_end : Cond.instanceMethod yX11_end ∈ wsL_law0 := gT_c12 _ (List.mem_of_getElem? (i := 16) rfl)
theorem se_yX11_end_RX11 : Cond.selects RX11 yX11_end yX11_end ∈ wsL_law0 := gT_c12 _ (List.mem_of_getElem? (i := 17) rfl)
theorem cd_yX11_end : Cond.code yX11_end cX11_end 2 (some .int) ∈ wsL_law0 := gT_c12 _ (List.mem_of_getElem? (i := 18) rfl)
theorem ml_L_51 : Cond.methodLink RL 51 yX10_word ∈ wsL_law0 := gT_c12 _ (List.mem_of_getElem? (i := 19) rfl)
theorem im_yX10_word : Cond.instanceMethod yX10_word ∈ wsL_law0 := gT_c12 _ (List.mem_of_getElem? (i := 20) rfl)
theorem se_yX10_word_RX10 : Cond.selects RX10 yX10_word yX10_word ∈ wsL_law0 := gT_c12 _ (List.mem_of_getElem? (i := 21) rfl)
theorem cd_yX10_word : Cond.code yX10_word cX10_word 2 (some .int) ∈ wsL_law0 := gT_c12 _ (List.mem_of_getElem? (i := 22) rfl)
theorem fl_X10_122 : Cond.fieldLink RX10 122 "NearWords$Words" "length" "I" ∈ wsL_law0 := gT_c12 _ (List.mem_of_getElem? (i := 23) rfl)
theorem fl_X10_125 : Cond.fieldLink RX10 125 "NearWords$Tape" "row" "[I" ∈ wsL_law0 := gT_c13 _ (List.mem_of_getElem? (i := 0) rfl)
theorem ml_X10_118 : Cond.methodLink RX10 118 yX6_take ∈ wsL_law0 := gT_c13 _ (List.mem_of_getElem? (i := 1) rfl)
theorem im_yX6_take : Cond.instanceMethod yX6_take ∈ wsL_law0 := gT_c13 _ (List.mem_of_getElem? (i := 2) rfl)
theorem se_yX6_take_RX6 : Cond.selects RX6 yX6_take yX6_take ∈ wsL_law0 := gT_c13 _ (List.mem_of_getElem? (i := 3) rfl)
theorem cd_yX6_take : Cond.code yX6_take cX6_take 5 (some .int) ∈ wsL_law0 := gT_c13 _ (List.mem_of_getElem? (i := 4) rfl)
theorem ml_X10_129 : Cond.methodLink RX10 129 yX9_add ∈ wsL_law0 := gT_c13 _ (List.mem_of_getElem? (i := 5) rfl)
theorem im_yX9_add : Cond.instanceMethod yX9_add ∈ wsL_law0 := gT_c13 _ (List.mem_of_getElem? (i := 6) rfl)
theorem se_yX9_add_RX9 : Cond.selects RX9 yX9_add yX9_add ∈ wsL_law0 := gT_c13 _ (List.mem_of_getElem? (i := 7) rfl)
theorem cd_yX9_add : Cond.code yX9_add cX9_add 3 none ∈ wsL_law0 := gT_c13 _ (List.mem_of_getElem? (i := 8) rfl)
theorem ml_X9_29 : Cond.methodLink RX9 29 arraycopyName ∈ wsL_law0 := gT_c13 _ (List.mem_of_getElem? (i := 9) rfl)
theorem nt_arraycopyName : Cond.native arraycopyName ∈ wsL_law0 := gT_c13 _ (List.mem_of_getElem? (i := 10) rfl)
theorem st_arraycopyName : Cond.static arraycopyName ∈ wsL_law0 := gT_c13 _ (List.mem_of_getElem? (i := 11) rfl)
theorem in__java_lang_System_ : Cond.initialized "java/lang/System" ∈ wsL_law0 := gT_c13 _ (List.mem_of_getElem? (i := 12) rfl)
theorem ml_X9_25 : Cond.methodLink RX9 25 yX9_start ∈ wsL_law0 := gT_c13 _ (List.mem_of_getElem? (i := 13) rfl)
theorem im_yX9_start : Cond.instanceMethod yX9_start ∈ wsL_law0 := gT_c13 _ (List.mem_of_getElem? (i := 14) rfl)
theorem se_yX9_start_RX9 : Cond.selects RX9 yX9_start yX9_start ∈ wsL_law0 := gT_c13 _ (List.mem_of_getElem? (i := 15) rfl)
theorem cd_yX9_start : Cond.code yX9_start cX9_start 2 (some .int) ∈ wsL_law0 := gT_c13 _ (List.mem_of_getElem? (i := 16) rfl)
theorem ml_X10_132 : Cond.methodLink RX10 132 yX10_forgetWords ∈ wsL_law0 := gT_c13 _ (List.mem_of_getElem? (i := 17) rfl)
theorem im_yX10_forgetWords : Cond.instanceMethod yX10_forgetWords ∈ wsL_law0 := gT_c13 _ (List.mem_of_getElem? (i := 18) rfl)
theorem se_yX10_forgetWords_RX10 : Cond.selects RX10 yX10_forgetWords yX10_forgetWords ∈ wsL_law0 := gT_c13 _ (List.mem_of_getElem? (i := 19) rfl)
theorem cd_yX10_forgetWords : Cond.code yX10_forgetWords cX10_forgetWords 1 none ∈ wsL_law0 := gT_c13 _ (List.mem_of_getElem? (i := 20) rfl)
theorem ml_L_55 : Cond.methodLink RL 55 yX11_word ∈ wsL_law0 := gT_c13 _ (List.mem_of_getElem? (i := 21) rfl)
theorem im_yX11_word : Cond.instanceMethod yX11_word ∈ wsL_law0 := gT_c13 _ (List.mem_of_getElem? (i := 22) rfl)
theorem se_yX11_word_RX11 : Cond.selects RX11 yX11_word yX11_word ∈ wsL_law0 := gT_c13 _ (List.mem_of_getElem? (i := 23) rfl)
theorem cd_yX11_word : Cond.code yX11_word cX11_word 3 (some .int) ∈ wsL_law0 := gT_c14 _ (List.mem_of_getElem? (i := 0) rfl)
theorem fl_X11_110 : Cond.fieldLink RX11 110 "NearWordsModel" "length" "I" ∈ wsL_law0 := gT_c14 _ (List.mem_of_getElem? (i := 1) rfl)
theorem fl_X11_103 : Cond.fieldLink RX11 103 "NearWordsModel" "toldSize" "I" ∈ wsL_law0 := gT_c14 _ (List.mem_of_getElem? (i := 2) rfl)
theorem ml_X11_106 : Cond.methodLink RX11 106 yX11_takes ∈ wsL_law0 := gT_c14 _ (List.mem_of_getElem? (i := 3) rfl)
theorem im_yX11_takes : Cond.instanceMethod yX11_takes ∈ wsL_law0 := gT_c14 _ (List.mem_of_getElem? (i := 4) rfl)
theorem se_yX11_takes_RX11 : Cond.selects RX11 yX11_takes yX11_takes ∈ wsL_law0 := gT_c14 _ (List.mem_of_getElem? (i := 5) rfl)
theorem cd_yX11_takes : Cond.code yX11_takes cX11_takes 5 (some .boolean) ∈ wsL_law0 := gT_c14 _ (List.mem_of_getElem? (i := 6) rfl)
theorem ml_L_56 : Cond.methodLink RL 56 yX10_text ∈ wsL_law0 := gT_c14 _ (List.mem_of_getElem? (i := 7) rfl)
theorem im_yX10_text : Cond.instanceMethod yX10_text ∈ wsL_law0 := gT_c14 _ (List.mem_of_getElem? (i := 8) rfl)
theorem se_yX10_text_RX10 : Cond.selects RX10 yX10_text yX10_text ∈ wsL_law0 := gT_c14 _ (List.mem_of_getElem? (i := 9) rfl)
theorem cd_yX10_text : Cond.code yX10_text cX10_text 2 (some .int) ∈ wsL_law0 := gT_c14 _ (List.mem_of_getElem? (i := 10) rfl)
theorem ml_X10_135 : Cond.methodLink RX10 135 yX7_add ∈ wsL_law0 := gT_c14 _ (List.mem_of_getElem? (i := 11) rfl)
theorem im_yX7_add : Cond.instanceMethod yX7_add ∈ wsL_law0 := gT_c14 _ (List.mem_of_getElem? (i := 12) rfl)
theorem se_yX7_add_RX7 : Cond.selects RX7 yX7_add yX7_add ∈ wsL_law0 := gT_c14 _ (List.mem_of_getElem? (i := 13) rfl)
theorem cd_yX7_add : Cond.code yX7_add cX7_add 3 none ∈ wsL_law0 := gT_c14 _ (List.mem_of_getElem? (i := 14) rfl)
theorem ml_X7_26 : Cond.methodLink RX7 26 arraycopyName ∈ wsL_law0 := gT_c14 _ (List.mem_of_getElem? (i := 15) rfl)
theorem ml_X7_22 : Cond.methodLink RX7 22 yX7_start ∈ wsL_law0 := gT_c14 _ (List.mem_of_getElem? (i := 16) rfl)
theorem im_yX7_start : Cond.instanceMethod yX7_start ∈ wsL_law0 := gT_c14 _ (List.mem_of_getElem? (i := 17) rfl)
theorem se_yX7_start_RX7 : Cond.selects RX7 yX7_start yX7_start ∈ wsL_law0 := gT_c14 _ (List.mem_of_getElem? (i := 18) rfl)
theorem cd_yX7_start : Cond.code yX7_start cX7_start 2 (some .int) ∈ wsL_law0 := gT_c14 _ (List.mem_of_getElem? (i := 19) rfl)
theorem ml_L_59 : Cond.methodLink RL 59 yX11_text ∈ wsL_law0 := gT_c14 _ (List.mem_of_getElem? (i := 20) rfl)
theorem im_yX11_text : Cond.instanceMethod yX11_text ∈ wsL_law0 := gT_c14 _ (List.mem_of_getElem? (i := 21) rfl)
theorem se_yX11_text_RX11 : Cond.selects RX11 yX11_text yX11_text ∈ wsL_law0 := gT_c14 _ (List.mem_of_getElem? (i := 22) rfl)
theorem cd_yX11_text : Cond.code yX11_text cX11_text 2 (some .int) ∈ wsL_law0 := gT_c14 _ (List.mem_of_getElem? (i := 23) rfl)
theorem ml_L_60 : Cond.methodLink RL 60 yX10_part ∈ wsL_law0 := gT_c15 _ (List.mem_of_getElem? (i := 0) rfl)
theorem im_yX10_part : Cond.instanceMethod yX10_part ∈ wsL_law0 := gT_c15 _ (List.mem_of_getElem? (i := 1) rfl)
theorem se_yX10_part_RX10 : Cond.selects RX10 yX10_part yX10_part ∈ wsL_law0 := gT_c15 _ (List.mem_of_getElem? (i := 2) rfl)
theorem cd_yX10_part : Cond.code yX10_part cX10_part 3 (some .boolean) ∈ wsL_law0 := gT_c15 _ (List.mem_of_getElem? (i := 3) rfl)
theorem fl_X10_142 : Cond.fieldLink RX10 142 "NearWords$Words" "parts" "[I" ∈ wsL_law0 := gT_c15 _ (List.mem_of_getElem? (i := 4) rfl)
theorem ml_X10_139 : Cond.methodLink RX10 139 yX9_has ∈ wsL_law0 := gT_c15 _ (List.mem_of_getElem? (i := 5) rfl)
theorem im_yX9_has : Cond.instanceMethod yX9_has ∈ wsL_law0 := gT_c15 _ (List.mem_of_getElem? (i := 6) rfl)
theorem se_yX9_has_RX9 : Cond.selects RX9 yX9_has yX9_has ∈ wsL_law0 := gT_c15 _ (List.mem_of_getElem? (i := 7) rfl)
theorem cd_yX9_has : Cond.code yX9_has cX9_has 2 (some .boolean) ∈ wsL_law0 := gT_c15 _ (List.mem_of_getElem? (i := 8) rfl)
theorem ml_L_64 : Cond.methodLink RL 64 yX11_part ∈ wsL_law0 := gT_c15 _ (List.mem_of_getElem? (i := 9) rfl)
theorem im_yX11_part : Cond.instanceMethod yX11_part ∈ wsL_law0 := gT_c15 _ (List.mem_of_getElem? (i := 10) rfl)
theorem se_yX11_part_RX11 : Cond.selects RX11 yX11_part yX11_part ∈ wsL_law0 := gT_c15 _ (List.mem_of_getElem? (i := 11) rfl)
theorem cd_yX11_part : Cond.code yX11_part cX11_part 3 (some .boolean) ∈ wsL_law0 := gT_c15 _ (List.mem_of_getElem? (i := 12) rfl)
theorem ml_X11_113 : Cond.methodLink RX11 113 yX11_isWord ∈ wsL_law0 := gT_c15 _ (List.mem_of_getElem? (i := 13) rfl)
theorem im_yX11_isWord : Cond.instanceMethod yX11_isWord ∈ wsL_law0 := gT_c15 _ (List.mem_of_getElem? (i := 14) rfl)
theorem se_yX11_isWord_RX11 : Cond.selects RX11 yX11_isWord yX11_isWord ∈ wsL_law0 := gT_c15 _ (List.mem_of_getElem? (i := 15) rfl)
theorem cd_yX11_isWord : Cond.code yX11_isWord cX11_isWord 2 (some .boolean) ∈ wsL_law0 := gT_c15 _ (List.mem_of_getElem? (i := 16) rfl)
theorem ml_L_65 : Cond.methodLink RL 65 yX10_apart ∈ wsL_law0 := gT_c15 _ (List.mem_of_getElem? (i := 17) rfl)
theorem im_yX10_apart : Cond.instanceMethod yX10_apart ∈ wsL_law0 := gT_c15 _ (List.mem_of_getElem? (i := 18) rfl)
theorem se_yX10_apart_RX10 : Cond.selects RX10 yX10_apart yX10_apart ∈ wsL_law0 := gT_c15 _ (List.mem_of_getElem? (i := 19) rfl)
theorem cd_yX10_apart : Cond.code yX10_apart cX10_apart 3 (some .int) ∈ wsL_law0 := gT_c15 _ (List.mem_of_getElem? (i := 20) rfl)
theorem fl_X10_145 : Cond.fieldLink RX10 145 "NearWords$Words" "rows" "[I" ∈ wsL_law0 := gT_c15 _ (List.mem_of_getElem? (i := 21) rfl)
theorem ml_X10_148 : Cond.methodLink RX10 148 yX9_start ∈ wsL_law0 := gT_c15 _ (List.mem_of_getElem? (i := 22) rfl)
theorem ml_X10_151 : Cond.methodLink RX10 151 yX3_distance ∈ wsL_law0 := gT_c15 _ (List.mem_of_getElem? (i := 23) rfl)
theorem im_yX3_distance : Cond.instanceMethod yX3_distance ∈ wsL_law0 := gT_c16 _ (List.mem_of_getElem? (i := 0) rfl)
theorem se_yX3_distance_RX3 : Cond.selects RX3 yX3_distance yX3_distance ∈ wsL_law0 := gT_c16 _ (List.mem_of_getElem? (i := 1) rfl)
theorem cd_yX3_distance : Cond.code yX3_distance cX3_distance 12 (some .int) ∈ wsL_law0 := gT_c16 _ (List.mem_of_getElem? (i := 2) rfl)
theorem ml_X3_28 : Cond.methodLink RX3 28 Lib.Math.min.name ∈ wsL_law0 := gT_c16 _ (List.mem_of_getElem? (i := 3) rfl)
theorem st_Lib_Math_min_name : Cond.static Lib.Math.min.name ∈ wsL_law0 := gT_c16 _ (List.mem_of_getElem? (i := 4) rfl)
theorem in__java_lang_Math_ : Cond.initialized "java/lang/Math" ∈ wsL_law0 := gT_c16 _ (List.mem_of_getElem? (i := 5) rfl)
theorem cd_Lib_Math_min_name : Cond.code Lib.Math.min.name Lib.Math.min.code 2 (some .int) ∈ wsL_law0 := gT_c16 _ (List.mem_of_getElem? (i := 6) rfl)
theorem ml_L_68 : Cond.methodLink RL 68 yX11_apart ∈ wsL_law0 := gT_c16 _ (List.mem_of_getElem? (i := 7) rfl)
theorem im_yX11_apart : Cond.instanceMethod yX11_apart ∈ wsL_law0 := gT_c16 _ (List.mem_of_getElem? (i := 8) rfl)
theorem se_yX11_apart_RX11 : Cond.selects RX11 yX11_apart yX11_apart ∈ wsL_law0 := gT_c16 _ (List.mem_of_getElem? (i := 9) rfl)
theorem cd_yX11_apart : Cond.code yX11_apart cX11_apart 3 (some .int) ∈ wsL_law0 := gT_c16 _ (List.mem_of_getElem? (i := 10) rfl)
theorem ml_X11_123 : Cond.methodLink RX11 123 yX11_distance ∈ wsL_law0 := gT_c16 _ (List.mem_of_getElem? (i := 11) rfl)
theorem im_yX11_distance : Cond.instanceMethod yX11_distance ∈ wsL_law0 := gT_c16 _ (List.mem_of_getElem? (i := 12) rfl)
theorem se_yX11_distance_RX11 : Cond.selects RX11 yX11_distance yX11_distance ∈ wsL_law0 := gT_c16 _ (List.mem_of_getElem? (i := 13) rfl)
theorem cd_yX11_distance : Cond.code yX11_distance cX11_distance 8 (some .int) ∈ wsL_law0 := gT_c16 _ (List.mem_of_getElem? (i := 14) rfl)
theorem ml_X11_117 : Cond.methodLink RX11 117 Lib.Math.min.name ∈ wsL_law0 := gT_c16 _ (List.mem_of_getElem? (i := 15) rfl)
theorem ml_L_69 : Cond.methodLink RL 69 yX10_from ∈ wsL_law0 := gT_c16 _ (List.mem_of_getElem? (i := 16) rfl)
theorem im_yX10_from : Cond.instanceMethod yX10_from ∈ wsL_law0 := gT_c16 _ (List.mem_of_getElem? (i := 17) rfl)
theorem se_yX10_from_RX10 : Cond.selects RX10 yX10_from yX10_from ∈ wsL_law0 := gT_c16 _ (List.mem_of_getElem? (i := 18) rfl)
theorem cd_yX10_from : Cond.code yX10_from cX10_from 3 (some .int) ∈ wsL_law0 := gT_c16 _ (List.mem_of_getElem? (i := 19) rfl)
theorem ml_L_72 : Cond.methodLink RL 72 yX11_from ∈ wsL_law0 := gT_c16 _ (List.mem_of_getElem? (i := 20) rfl)
theorem im_yX11_from : Cond.instanceMethod yX11_from ∈ wsL_law0 := gT_c16 _ (List.mem_of_getElem? (i := 21) rfl)
theorem se_yX11_from_RX11 : Cond.selects RX11 yX11_from yX11_from ∈ wsL_law0 := gT_c16 _ (List.mem_of_getElem? (i := 22) rfl)
theorem cd_yX11_from : Cond.code yX11_from cX11_from 3 (some .int) ∈ wsL_law0 := gT_c16 _ (List.mem_of_getElem? (i := 23) rfl)
theorem ml_L_73 : Cond.methodLink RL 73 yX10_centre ∈ wsL_law0 := gT_c17 _ (List.mem_of_getElem? (i := 0) rfl)
theorem im_yX10_centre : Cond.instanceMethod yX10_centre ∈ wsL_law0 := gT_c17 _ (List.mem_of_getElem? (i := 1) rfl)
theorem se_yX10_centre_RX10 : Cond.selects RX10 yX10_centre yX10_centre ∈ wsL_law0 := gT_c17 _ (List.mem_of_getElem? (i := 2) rfl)
theorem cd_yX10_centre : Cond.code yX10_centre cX10_centre 1 (some .int) ∈ wsL_law0 := gT_c17 _ (List.mem_of_getElem? (i := 3) rfl)
theorem fl_X10_158 : Cond.fieldLink RX10 158 "NearWords$Survey" "radius" "I" ∈ wsL_law0 := gT_c17 _ (List.mem_of_getElem? (i := 4) rfl)
theorem ml_X10_155 : Cond.methodLink RX10 155 yX5_refresh ∈ wsL_law0 := gT_c17 _ (List.mem_of_getElem? (i := 5) rfl)
theorem im_yX5_refresh : Cond.instanceMethod yX5_refresh ∈ wsL_law0 := gT_c17 _ (List.mem_of_getElem? (i := 6) rfl)
theorem se_yX5_refresh_RX5 : Cond.selects RX5 yX5_refresh yX5_refresh ∈ wsL_law0 := gT_c17 _ (List.mem_of_getElem? (i := 7) rfl)
theorem cd_yX5_refresh : Cond.code yX5_refresh cX5_refresh 1 none ∈ wsL_law0 := gT_c17 _ (List.mem_of_getElem? (i := 8) rfl)
theorem fl_X5_45 : Cond.fieldLink RX5 45 "NearWords$Candidates" "words" "LNearWords$Words;" ∈ wsL_law0 := gT_c17 _ (List.mem_of_getElem? (i := 9) rfl)
theorem ml_X5_42 : Cond.methodLink RX5 42 yX5_clear ∈ wsL_law0 := gT_c17 _ (List.mem_of_getElem? (i := 10) rfl)
theorem im_yX5_clear : Cond.instanceMethod yX5_clear ∈ wsL_law0 := gT_c17 _ (List.mem_of_getElem? (i := 11) rfl)
theorem se_yX5_clear_RX5 : Cond.selects RX5 yX5_clear yX5_clear ∈ wsL_law0 := gT_c17 _ (List.mem_of_getElem? (i := 12) rfl)
theorem cd_yX5_clear : Cond.code yX5_clear cX5_clear 2 none ∈ wsL_law0 := gT_c17 _ (List.mem_of_getElem? (i := 13) rfl)
theorem ml_X5_51 : Cond.methodLink RX5 51 yX9_hasNear ∈ wsL_law0 := gT_c17 _ (List.mem_of_getElem? (i := 14) rfl)
theorem im_yX9_hasNear : Cond.instanceMethod yX9_hasNear ∈ wsL_law0 := gT_c17 _ (List.mem_of_getElem? (i := 15) rfl)
theorem se_yX9_hasNear_RX9 : Cond.selects RX9 yX9_hasNear yX9_hasNear ∈ wsL_law0 := gT_c17 _ (List.mem_of_getElem? (i := 16) rfl)
theorem cd_yX9_hasNear : Cond.code yX9_hasNear cX9_hasNear 1 (some .boolean) ∈ wsL_law0 := gT_c17 _ (List.mem_of_getElem? (i := 17) rfl)
theorem ml_X9_35 : Cond.methodLink RX9 35 yX9_having ∈ wsL_law0 := gT_c17 _ (List.mem_of_getElem? (i := 18) rfl)
theorem im_yX9_having : Cond.instanceMethod yX9_having ∈ wsL_law0 := gT_c17 _ (List.mem_of_getElem? (i := 19) rfl)
theorem se_yX9_having_RX9 : Cond.selects RX9 yX9_having yX9_having ∈ wsL_law0 := gT_c17 _ (List.mem_of_getElem? (i := 20) rfl)
theorem cd_yX9_having : Cond.code yX9_having cX9_having 4 (some .int) ∈ wsL_law0 := gT_c17 _ (List.mem_of_getElem? (i := 21) rfl)
theorem ml_X5_57 : Cond.methodLink RX5 57 yX5_lookAtAll ∈ wsL_law0 := gT_c17 _ (List.mem_of_getElem? (i := 22) rfl)
theorem im_yX5_lookAtAll : Cond.instanceMethod yX5_lookAtAll ∈ wsL_law0 := gT_c17 _ (List.mem_of_getElem? (i := 23) rfl)
theorem se_yX5_lookAtAll_RX5 : Cond.selects RX5 yX5_lookAtAll yX5_lookAtAll ∈ wsL_law0 := gT_c18 _ (List.mem_of_getElem? (i := 0) rfl)
theorem cd_yX5_lookAtAll : Cond.code yX5_lookAtAll cX5_lookAtAll 4 none ∈ wsL_law0 := gT_c18 _ (List.mem_of_getElem? (i := 1) rfl)
theorem fl_X5_63 : Cond.fieldLink RX5 63 "NearWords$Candidates" "walk" "LNearWords$Walk;" ∈ wsL_law0 := gT_c18 _ (List.mem_of_getElem? (i := 2) rfl)
theorem fl_X5_84 : Cond.fieldLink RX5 84 "NearWords$Walk" "length" "I" ∈ wsL_law0 := gT_c18 _ (List.mem_of_getElem? (i := 3) rfl)
theorem ml_X5_67 : Cond.methodLink RX5 67 yX0_begin ∈ wsL_law0 := gT_c18 _ (List.mem_of_getElem? (i := 4) rfl)
theorem im_yX0_begin : Cond.instanceMethod yX0_begin ∈ wsL_law0 := gT_c18 _ (List.mem_of_getElem? (i := 5) rfl)
theorem se_yX0_begin_RX0 : Cond.selects RX0 yX0_begin yX0_begin ∈ wsL_law0 := gT_c18 _ (List.mem_of_getElem? (i := 6) rfl)
theorem cd_yX0_begin : Cond.code yX0_begin cX0_begin 1 (some .int) ∈ wsL_law0 := gT_c18 _ (List.mem_of_getElem? (i := 7) rfl)
theorem fl_X0_39 : Cond.fieldLink RX0 39 "NearWords$Words" "length" "I" ∈ wsL_law0 := gT_c18 _ (List.mem_of_getElem? (i := 8) rfl)
theorem fl_X0_51 : Cond.fieldLink RX0 51 "NearWords$Walk" "targets" "I" ∈ wsL_law0 := gT_c18 _ (List.mem_of_getElem? (i := 9) rfl)
theorem fl_X0_54 : Cond.fieldLink RX0 54 "NearWords$Rules" "gap" "I" ∈ wsL_law0 := gT_c18 _ (List.mem_of_getElem? (i := 10) rfl)
theorem ml_X0_44 : Cond.methodLink RX0 44 yX8_begin ∈ wsL_law0 := gT_c18 _ (List.mem_of_getElem? (i := 11) rfl)
theorem im_yX8_begin : Cond.instanceMethod yX8_begin ∈ wsL_law0 := gT_c18 _ (List.mem_of_getElem? (i := 12) rfl)
theorem se_yX8_begin_RX8 : Cond.selects RX8 yX8_begin yX8_begin ∈ wsL_law0 := gT_c18 _ (List.mem_of_getElem? (i := 13) rfl)
theorem cd_yX8_begin : Cond.code yX8_begin cX8_begin 3 none ∈ wsL_law0 := gT_c18 _ (List.mem_of_getElem? (i := 14) rfl)
theorem ml_X0_48 : Cond.methodLink RX0 48 yX0_aimAtAll ∈ wsL_law0 := gT_c18 _ (List.mem_of_getElem? (i := 15) rfl)
theorem im_yX0_aimAtAll : Cond.instanceMethod yX0_aimAtAll ∈ wsL_law0 := gT_c18 _ (List.mem_of_getElem? (i := 16) rfl)
theorem se_yX0_aimAtAll_RX0 : Cond.selects RX0 yX0_aimAtAll yX0_aimAtAll ∈ wsL_law0 := gT_c18 _ (List.mem_of_getElem? (i := 17) rfl)
theorem cd_yX0_aimAtAll : Cond.code yX0_aimAtAll cX0_aimAtAll 3 none ∈ wsL_law0 := gT_c18 _ (List.mem_of_getElem? (i := 18) rfl)
theorem fl_X0_63 : Cond.fieldLink RX0 63 "NearWords$Words" "size" "I" ∈ wsL_law0 := gT_c18 _ (List.mem_of_getElem? (i := 19) rfl)
theorem fl_X0_66 : Cond.fieldLink RX0 66 "NearWords$Words" "parts" "[I" ∈ wsL_law0 := gT_c18 _ (List.mem_of_getElem? (i := 20) rfl)
theorem fl_X0_69 : Cond.fieldLink RX0 69 "NearWords$Words" "rows" "[I" ∈ wsL_law0 := gT_c18 _ (List.mem_of_getElem? (i := 21) rfl)
theorem ml_X0_72 : Cond.methodLink RX0 72 yX9_start ∈ wsL_law0 := gT_c18 _ (List.mem_of_getElem? (i := 22) rfl)
theorem ml_X0_75 : Cond.methodLink RX0 75 yX8_aimAt ∈ wsL_law0 := gT_c18 _ (List.mem_of_getElem? (i := 23) rfl)
theorem im_yX8_aimAt : Cond.instanceMethod yX8_aimAt ∈ wsL_law0 := gT_c19 _ (List.mem_of_getElem? (i := 0) rfl)
theorem se_yX8_aimAt_RX8 : Cond.selects RX8 yX8_aimAt yX8_aimAt ∈ wsL_law0 := gT_c19 _ (List.mem_of_getElem? (i := 1) rfl)
theorem cd_yX8_aimAt : Cond.code yX8_aimAt cX8_aimAt 4 none ∈ wsL_law0 := gT_c19 _ (List.mem_of_getElem? (i := 2) rfl)
theorem ml_X0_59 : Cond.methodLink RX0 59 yX3_rowsOf ∈ wsL_law0 := gT_c19 _ (List.mem_of_getElem? (i := 3) rfl)
theorem im_yX3_rowsOf : Cond.instanceMethod yX3_rowsOf ∈ wsL_law0 := gT_c19 _ (List.mem_of_getElem? (i := 4) rfl)
theorem se_yX3_rowsOf_RX3 : Cond.selects RX3 yX3_rowsOf yX3_rowsOf ∈ wsL_law0 := gT_c19 _ (List.mem_of_getElem? (i := 5) rfl)
theorem cd_yX3_rowsOf : Cond.code yX3_rowsOf cX3_rowsOf 4 (some .int) ∈ wsL_law0 := gT_c19 _ (List.mem_of_getElem? (i := 6) rfl)
theorem ml_X5_71 : Cond.methodLink RX5 71 yX8_putFrom ∈ wsL_law0 := gT_c19 _ (List.mem_of_getElem? (i := 7) rfl)
theorem im_yX8_putFrom : Cond.instanceMethod yX8_putFrom ∈ wsL_law0 := gT_c19 _ (List.mem_of_getElem? (i := 8) rfl)
theorem se_yX8_putFrom_RX8 : Cond.selects RX8 yX8_putFrom yX8_putFrom ∈ wsL_law0 := gT_c19 _ (List.mem_of_getElem? (i := 9) rfl)
theorem cd_yX8_putFrom : Cond.code yX8_putFrom cX8_putFrom 3 none ∈ wsL_law0 := gT_c19 _ (List.mem_of_getElem? (i := 10) rfl)
theorem ml_X8_53 : Cond.methodLink RX8 53 yX8_put ∈ wsL_law0 := gT_c19 _ (List.mem_of_getElem? (i := 11) rfl)
theorem im_yX8_put : Cond.instanceMethod yX8_put ∈ wsL_law0 := gT_c19 _ (List.mem_of_getElem? (i := 12) rfl)
theorem se_yX8_put_RX8 : Cond.selects RX8 yX8_put yX8_put ∈ wsL_law0 := gT_c19 _ (List.mem_of_getElem? (i := 13) rfl)
theorem cd_yX8_put : Cond.code yX8_put cX8_put 8 none ∈ wsL_law0 := gT_c19 _ (List.mem_of_getElem? (i := 14) rfl)
theorem fl_X8_41 : Cond.fieldLink RX8 41 "NearWords$Rules" "prices" "[I" ∈ wsL_law0 := gT_c19 _ (List.mem_of_getElem? (i := 15) rfl)
theorem fl_X8_46 : Cond.fieldLink RX8 46 "NearWords$Rules" "swap" "I" ∈ wsL_law0 := gT_c19 _ (List.mem_of_getElem? (i := 16) rfl)
theorem ml_X8_49 : Cond.methodLink RX8 49 yX8_putSwapped ∈ wsL_law0 := gT_c19 _ (List.mem_of_getElem? (i := 17) rfl)
theorem im_yX8_putSwapped : Cond.instanceMethod yX8_putSwapped ∈ wsL_law0 := gT_c19 _ (List.mem_of_getElem? (i := 18) rfl)
theorem se_yX8_putSwapped_RX8 : Cond.selects RX8 yX8_putSwapped yX8_putSwapped ∈ wsL_law0 := gT_c19 _ (List.mem_of_getElem? (i := 19) rfl)
theorem cd_yX8_putSwapped : Cond.code yX8_putSwapped cX8_putSwapped 8 none ∈ wsL_law0 := gT_c19 _ (List.mem_of_getElem? (i := 20) rfl)
theorem ml_X5_77 : Cond.methodLink RX5 77 yX0_isFarEnough ∈ wsL_law0 := gT_c19 _ (List.mem_of_getElem? (i := 21) rfl)
theorem im_yX0_isFarEnough : Cond.instanceMethod yX0_isFarEnough ∈ wsL_law0 := gT_c19 _ (List.mem_of_getElem? (i := 22) rfl)
theorem se_yX0_isFarEnough_RX0 : Cond.selects RX0 yX0_isFarEnough yX0_isFarEnough ∈ wsL_law0 := gT_c19 _ (List.mem_of_getElem? (i := 23) rfl)
theorem cd_yX0_isFarEnough : Cond.code yX0_isFarEnough cX0_isFarEnough 3 (some .boolean) ∈ wsL_law0 := gT_c20 _ (List.mem_of_getElem? (i := 0) rfl)
theorem fl_X0_83 : Cond.fieldLink RX0 83 "NearWords$Walk" "sums" "[I" ∈ wsL_law0 := gT_c20 _ (List.mem_of_getElem? (i := 1) rfl)
theorem ml_X0_79 : Cond.methodLink RX0 79 yX8_whole ∈ wsL_law0 := gT_c20 _ (List.mem_of_getElem? (i := 2) rfl)
theorem im_yX8_whole : Cond.instanceMethod yX8_whole ∈ wsL_law0 := gT_c20 _ (List.mem_of_getElem? (i := 3) rfl)
theorem se_yX8_whole_RX8 : Cond.selects RX8 yX8_whole yX8_whole ∈ wsL_law0 := gT_c20 _ (List.mem_of_getElem? (i := 4) rfl)
theorem cd_yX8_whole : Cond.code yX8_whole cX8_whole 1 (some .int) ∈ wsL_law0 := gT_c20 _ (List.mem_of_getElem? (i := 5) rfl)
theorem ml_X5_80 : Cond.methodLink RX5 80 yX5_lookAtOne ∈ wsL_law0 := gT_c20 _ (List.mem_of_getElem? (i := 6) rfl)
theorem im_yX5_lookAtOne : Cond.instanceMethod yX5_lookAtOne ∈ wsL_law0 := gT_c20 _ (List.mem_of_getElem? (i := 7) rfl)
theorem se_yX5_lookAtOne_RX5 : Cond.selects RX5 yX5_lookAtOne yX5_lookAtOne ∈ wsL_law0 := gT_c20 _ (List.mem_of_getElem? (i := 8) rfl)
theorem cd_yX5_lookAtOne : Cond.code yX5_lookAtOne cX5_lookAtOne 7 none ∈ wsL_law0 := gT_c20 _ (List.mem_of_getElem? (i := 9) rfl)
theorem fl_X5_94 : Cond.fieldLink RX5 94 "NearWords$Candidates" "near" "I" ∈ wsL_law0 := gT_c20 _ (List.mem_of_getElem? (i := 10) rfl)
theorem fl_X5_97 : Cond.fieldLink RX5 97 "NearWords$Walk" "sums" "[I" ∈ wsL_law0 := gT_c20 _ (List.mem_of_getElem? (i := 11) rfl)
theorem ml_X5_91 : Cond.methodLink RX5 91 yX8_whole ∈ wsL_law0 := gT_c20 _ (List.mem_of_getElem? (i := 12) rfl)
theorem ml_X5_100 : Cond.methodLink RX5 100 yX8_spotsOfRow ∈ wsL_law0 := gT_c20 _ (List.mem_of_getElem? (i := 13) rfl)
theorem im_yX8_spotsOfRow : Cond.instanceMethod yX8_spotsOfRow ∈ wsL_law0 := gT_c20 _ (List.mem_of_getElem? (i := 14) rfl)
theorem se_yX8_spotsOfRow_RX8 : Cond.selects RX8 yX8_spotsOfRow yX8_spotsOfRow ∈ wsL_law0 := gT_c20 _ (List.mem_of_getElem? (i := 15) rfl)
theorem cd_yX8_spotsOfRow : Cond.code yX8_spotsOfRow cX8_spotsOfRow 1 (some .int) ∈ wsL_law0 := gT_c20 _ (List.mem_of_getElem? (i := 16) rfl)
theorem ml_X5_103 : Cond.methodLink RX5 103 yX8_packedRow ∈ wsL_law0 := gT_c20 _ (List.mem_of_getElem? (i := 17) rfl)
theorem im_yX8_packedRow : Cond.instanceMethod yX8_packedRow ∈ wsL_law0 := gT_c20 _ (List.mem_of_getElem? (i := 18) rfl)
theorem se_yX8_packedRow_RX8 : Cond.selects RX8 yX8_packedRow yX8_packedRow ∈ wsL_law0 := gT_c20 _ (List.mem_of_getElem? (i := 19) rfl)
theorem cd_yX8_packedRow : Cond.code yX8_packedRow cX8_packedRow 1 (some .int) ∈ wsL_law0 := gT_c20 _ (List.mem_of_getElem? (i := 20) rfl)
theorem ml_X5_87 : Cond.methodLink RX5 87 yX8_advance ∈ wsL_law0 := gT_c20 _ (List.mem_of_getElem? (i := 21) rfl)
theorem im_yX8_advance : Cond.instanceMethod yX8_advance ∈ wsL_law0 := gT_c20 _ (List.mem_of_getElem? (i := 22) rfl)
theorem se_yX8_advance_RX8 : Cond.selects RX8 yX8_advance yX8_advance ∈ wsL_law0 := gT_c20 _ (List.mem_of_getElem? (i := 23) rfl)
theorem cd_yX8_advance : Cond.code yX8_advance cX8_advance 2 (some .int) ∈ wsL_law0 := gT_c21 _ (List.mem_of_getElem? (i := 0) rfl)
theorem ml_X8_56 : Cond.methodLink RX8 56 yX3_advance ∈ wsL_law0 := gT_c21 _ (List.mem_of_getElem? (i := 1) rfl)
theorem im_yX3_advance : Cond.instanceMethod yX3_advance ∈ wsL_law0 := gT_c21 _ (List.mem_of_getElem? (i := 2) rfl)
theorem se_yX3_advance_RX3 : Cond.selects RX3 yX3_advance yX3_advance ∈ wsL_law0 := gT_c21 _ (List.mem_of_getElem? (i := 3) rfl)
theorem cd_yX3_advance : Cond.code yX3_advance cX3_advance 6 (some .int) ∈ wsL_law0 := gT_c21 _ (List.mem_of_getElem? (i := 4) rfl)
theorem ml_X5_60 : Cond.methodLink RX5 60 yX5_addUp ∈ wsL_law0 := gT_c21 _ (List.mem_of_getElem? (i := 5) rfl)
theorem im_yX5_addUp : Cond.instanceMethod yX5_addUp ∈ wsL_law0 := gT_c21 _ (List.mem_of_getElem? (i := 6) rfl)
theorem se_yX5_addUp_RX5 : Cond.selects RX5 yX5_addUp yX5_addUp ∈ wsL_law0 := gT_c21 _ (List.mem_of_getElem? (i := 7) rfl)
theorem cd_yX5_addUp : Cond.code yX5_addUp cX5_addUp 2 none ∈ wsL_law0 := gT_c21 _ (List.mem_of_getElem? (i := 8) rfl)
theorem ml_L_76 : Cond.methodLink RL 76 yX11_centre ∈ wsL_law0 := gT_c21 _ (List.mem_of_getElem? (i := 9) rfl)
theorem im_yX11_centre : Cond.instanceMethod yX11_centre ∈ wsL_law0 := gT_c21 _ (List.mem_of_getElem? (i := 10) rfl)
theorem se_yX11_centre_RX11 : Cond.selects RX11 yX11_centre yX11_centre ∈ wsL_law0 := gT_c21 _ (List.mem_of_getElem? (i := 11) rfl)
theorem cd_yX11_centre : Cond.code yX11_centre cX11_centre 2 (some .int) ∈ wsL_law0 := gT_c21 _ (List.mem_of_getElem? (i := 12) rfl)
theorem ml_X11_157 : Cond.methodLink RX11 157 yX11_nearest ∈ wsL_law0 := gT_c21 _ (List.mem_of_getElem? (i := 13) rfl)
theorem im_yX11_nearest : Cond.instanceMethod yX11_nearest ∈ wsL_law0 := gT_c21 _ (List.mem_of_getElem? (i := 14) rfl)
theorem se_yX11_nearest_RX11 : Cond.selects RX11 yX11_nearest yX11_nearest ∈ wsL_law0 := gT_c21 _ (List.mem_of_getElem? (i := 15) rfl)
theorem cd_yX11_nearest : Cond.code yX11_nearest cX11_nearest 6 (some .int) ∈ wsL_law0 := gT_c21 _ (List.mem_of_getElem? (i := 16) rfl)
theorem ml_X11_141 : Cond.methodLink RX11 141 yX11_many ∈ wsL_law0 := gT_c21 _ (List.mem_of_getElem? (i := 17) rfl)
theorem im_yX11_many : Cond.instanceMethod yX11_many ∈ wsL_law0 := gT_c21 _ (List.mem_of_getElem? (i := 18) rfl)
theorem se_yX11_many_RX11 : Cond.selects RX11 yX11_many yX11_many ∈ wsL_law0 := gT_c21 _ (List.mem_of_getElem? (i := 19) rfl)
theorem cd_yX11_many : Cond.code yX11_many cX11_many 4 (some .int) ∈ wsL_law0 := gT_c21 _ (List.mem_of_getElem? (i := 20) rfl)
theorem ml_X11_145 : Cond.methodLink RX11 145 yX11_knows ∈ wsL_law0 := gT_c21 _ (List.mem_of_getElem? (i := 21) rfl)
theorem im_yX11_knows : Cond.instanceMethod yX11_knows ∈ wsL_law0 := gT_c21 _ (List.mem_of_getElem? (i := 22) rfl)
theorem se_yX11_knows_RX11 : Cond.selects RX11 yX11_knows yX11_knows ∈ wsL_law0 := gT_c21 _ (List.mem_of_getElem? (i := 23) rfl)
theorem cd_yX11_knows : Cond.code yX11_knows cX11_knows 3 none ∈ wsL_law0 := gT_c22 _ (List.mem_of_getElem? (i := 0) rfl)
theorem ml_X11_130 : Cond.methodLink RX11 130 yX11_rows ∈ wsL_law0 := gT_c22 _ (List.mem_of_getElem? (i := 1) rfl)
theorem im_yX11_rows : Cond.instanceMethod yX11_rows ∈ wsL_law0 := gT_c22 _ (List.mem_of_getElem? (i := 2) rfl)
theorem se_yX11_rows_RX11 : Cond.selects RX11 yX11_rows yX11_rows ∈ wsL_law0 := gT_c22 _ (List.mem_of_getElem? (i := 3) rfl)
theorem cd_yX11_rows : Cond.code yX11_rows cX11_rows 1 (some .int) ∈ wsL_law0 := gT_c22 _ (List.mem_of_getElem? (i := 4) rfl)
theorem ml_X11_127 : Cond.methodLink RX11 127 yX11_power ∈ wsL_law0 := gT_c22 _ (List.mem_of_getElem? (i := 5) rfl)
theorem st_yX11_power : Cond.static yX11_power ∈ wsL_law0 := gT_c22 _ (List.mem_of_getElem? (i := 6) rfl)
theorem cd_yX11_power : Cond.code yX11_power cX11_power 4 (some .int) ∈ wsL_law0 := gT_c22 _ (List.mem_of_getElem? (i := 7) rfl)
theorem ml_X11_134 : Cond.methodLink RX11 134 yX11_lays ∈ wsL_law0 := gT_c22 _ (List.mem_of_getElem? (i := 8) rfl)
theorem im_yX11_lays : Cond.instanceMethod yX11_lays ∈ wsL_law0 := gT_c22 _ (List.mem_of_getElem? (i := 9) rfl)
theorem se_yX11_lays_RX11 : Cond.selects RX11 yX11_lays yX11_lays ∈ wsL_law0 := gT_c22 _ (List.mem_of_getElem? (i := 10) rfl)
theorem cd_yX11_lays : Cond.code yX11_lays cX11_lays 5 none ∈ wsL_law0 := gT_c22 _ (List.mem_of_getElem? (i := 11) rfl)
theorem ml_X11_148 : Cond.methodLink RX11 148 yX11_isCandidate ∈ wsL_law0 := gT_c22 _ (List.mem_of_getElem? (i := 12) rfl)
theorem im_yX11_isCandidate : Cond.instanceMethod yX11_isCandidate ∈ wsL_law0 := gT_c22 _ (List.mem_of_getElem? (i := 13) rfl)
theorem se_yX11_isCandidate_RX11 : Cond.selects RX11 yX11_isCandidate yX11_isCandidate ∈ wsL_law0 := gT_c22 _ (List.mem_of_getElem? (i := 14) rfl)
theorem cd_yX11_isCandidate : Cond.code yX11_isCandidate cX11_isCandidate 3 (some .boolean) ∈ wsL_law0 := gT_c22 _ (List.mem_of_getElem? (i := 15) rfl)
theorem ml_X11_151 : Cond.methodLink RX11 151 yX11_radius ∈ wsL_law0 := gT_c22 _ (List.mem_of_getElem? (i := 16) rfl)
theorem im_yX11_radius : Cond.instanceMethod yX11_radius ∈ wsL_law0 := gT_c22 _ (List.mem_of_getElem? (i := 17) rfl)
theorem se_yX11_radius_RX11 : Cond.selects RX11 yX11_radius yX11_radius ∈ wsL_law0 := gT_c22 _ (List.mem_of_getElem? (i := 18) rfl)
theorem cd_yX11_radius : Cond.code yX11_radius cX11_radius 4 (some .int) ∈ wsL_law0 := gT_c22 _ (List.mem_of_getElem? (i := 19) rfl)
theorem ml_X11_138 : Cond.methodLink RX11 138 Lib.Math.max.name ∈ wsL_law0 := gT_c22 _ (List.mem_of_getElem? (i := 20) rfl)
theorem st_Lib_Math_max_name : Cond.static Lib.Math.max.name ∈ wsL_law0 := gT_c22 _ (List.mem_of_getElem? (i := 21) rfl)
theorem cd_Lib_Math_max_name : Cond.code Lib.Math.max.name Lib.Math.max.code 2 (some .int) ∈ wsL_law0 := gT_c22 _ (List.mem_of_getElem? (i := 22) rfl)
theorem ml_X11_154 : Cond.methodLink RX11 154 yX11_radiusBut ∈ wsL_law0 := gT_c22 _ (List.mem_of_getElem? (i := 23) rfl)
theorem im_yX11_radiusBut : Cond.instanceMethod yX11_radiusBut ∈ wsL_law0 := gT_c23 _ (List.mem_of_getElem? (i := 0) rfl)
theorem se_yX11_radiusBut_RX11 : Cond.selects RX11 yX11_radiusBut yX11_radiusBut ∈ wsL_law0 := gT_c23 _ (List.mem_of_getElem? (i := 1) rfl)
theorem cd_yX11_radiusBut : Cond.code yX11_radiusBut cX11_radiusBut 8 (some .int) ∈ wsL_law0 := gT_c23 _ (List.mem_of_getElem? (i := 2) rfl)
theorem ml_L_77 : Cond.methodLink RL 77 yX10_centreAt ∈ wsL_law0 := gT_c23 _ (List.mem_of_getElem? (i := 3) rfl)
theorem im_yX10_centreAt : Cond.instanceMethod yX10_centreAt ∈ wsL_law0 := gT_c23 _ (List.mem_of_getElem? (i := 4) rfl)
theorem se_yX10_centreAt_RX10 : Cond.selects RX10 yX10_centreAt yX10_centreAt ∈ wsL_law0 := gT_c23 _ (List.mem_of_getElem? (i := 5) rfl)
theorem cd_yX10_centreAt : Cond.code yX10_centreAt cX10_centreAt 2 (some .int) ∈ wsL_law0 := gT_c23 _ (List.mem_of_getElem? (i := 6) rfl)
theorem fl_X10_161 : Cond.fieldLink RX10 161 "NearWords$Survey" "centreRow" "I" ∈ wsL_law0 := gT_c23 _ (List.mem_of_getElem? (i := 7) rfl)
theorem ml_X10_164 : Cond.methodLink RX10 164 yX9_letterOfRow ∈ wsL_law0 := gT_c23 _ (List.mem_of_getElem? (i := 8) rfl)
theorem im_yX9_letterOfRow : Cond.instanceMethod yX9_letterOfRow ∈ wsL_law0 := gT_c23 _ (List.mem_of_getElem? (i := 9) rfl)
theorem se_yX9_letterOfRow_RX9 : Cond.selects RX9 yX9_letterOfRow yX9_letterOfRow ∈ wsL_law0 := gT_c23 _ (List.mem_of_getElem? (i := 10) rfl)
theorem cd_yX9_letterOfRow : Cond.code yX9_letterOfRow cX9_letterOfRow 3 (some .int) ∈ wsL_law0 := gT_c23 _ (List.mem_of_getElem? (i := 11) rfl)
theorem ml_X9_38 : Cond.methodLink RX9 38 yX8_letterAt ∈ wsL_law0 := gT_c23 _ (List.mem_of_getElem? (i := 12) rfl)
theorem st_yX8_letterAt : Cond.static yX8_letterAt ∈ wsL_law0 := gT_c23 _ (List.mem_of_getElem? (i := 13) rfl)
theorem cd_yX8_letterAt : Cond.code yX8_letterAt cX8_letterAt 3 (some .int) ∈ wsL_law0 := gT_c23 _ (List.mem_of_getElem? (i := 14) rfl)
theorem ml_L_80 : Cond.methodLink RL 80 yX11_centreAt ∈ wsL_law0 := gT_c23 _ (List.mem_of_getElem? (i := 15) rfl)
theorem im_yX11_centreAt : Cond.instanceMethod yX11_centreAt ∈ wsL_law0 := gT_c23 _ (List.mem_of_getElem? (i := 16) rfl)
theorem se_yX11_centreAt_RX11 : Cond.selects RX11 yX11_centreAt yX11_centreAt ∈ wsL_law0 := gT_c23 _ (List.mem_of_getElem? (i := 17) rfl)
theorem cd_yX11_centreAt : Cond.code yX11_centreAt cX11_centreAt 2 (some .int) ∈ wsL_law0 := gT_c23 _ (List.mem_of_getElem? (i := 18) rfl)
theorem ml_X11_160 : Cond.methodLink RX11 160 yX11_letterOf ∈ wsL_law0 := gT_c23 _ (List.mem_of_getElem? (i := 19) rfl)
theorem im_yX11_letterOf : Cond.instanceMethod yX11_letterOf ∈ wsL_law0 := gT_c23 _ (List.mem_of_getElem? (i := 20) rfl)
theorem se_yX11_letterOf_RX11 : Cond.selects RX11 yX11_letterOf yX11_letterOf ∈ wsL_law0 := gT_c23 _ (List.mem_of_getElem? (i := 21) rfl)
theorem cd_yX11_letterOf : Cond.code yX11_letterOf cX11_letterOf 3 (some .int) ∈ wsL_law0 := gT_c23 _ (List.mem_of_getElem? (i := 22) rfl)
theorem ml_L_81 : Cond.methodLink RL 81 yX10_without ∈ wsL_law0 := gT_c23 _ (List.mem_of_getElem? (i := 23) rfl)
theorem im_yX10_without : Cond.instanceMethod yX10_without ∈ wsL_law0 := gT_c24 _ (List.mem_of_getElem? (i := 0) rfl)
theorem se_yX10_without_RX10 : Cond.selects RX10 yX10_without yX10_without ∈ wsL_law0 := gT_c24 _ (List.mem_of_getElem? (i := 1) rfl)
theorem cd_yX10_without : Cond.code yX10_without cX10_without 3 (some .int) ∈ wsL_law0 := gT_c24 _ (List.mem_of_getElem? (i := 2) rfl)
theorem ct_X10_171 : Cond.constant RX10 171 (2147483647) ∈ wsL_law0 := gT_c24 _ (List.mem_of_getElem? (i := 3) rfl)
theorem ml_X10_168 : Cond.methodLink RX10 168 yX10_keyWithout ∈ wsL_law0 := gT_c24 _ (List.mem_of_getElem? (i := 4) rfl)
theorem im_yX10_keyWithout : Cond.instanceMethod yX10_keyWithout ∈ wsL_law0 := gT_c24 _ (List.mem_of_getElem? (i := 5) rfl)
theorem se_yX10_keyWithout_RX10 : Cond.selects RX10 yX10_keyWithout yX10_keyWithout ∈ wsL_law0 := gT_c24 _ (List.mem_of_getElem? (i := 6) rfl)
theorem cd_yX10_keyWithout : Cond.code yX10_keyWithout cX10_keyWithout 2 (some .int) ∈ wsL_law0 := gT_c24 _ (List.mem_of_getElem? (i := 7) rfl)
theorem ml_X10_210 : Cond.methodLink RX10 210 yX9_hasNear ∈ wsL_law0 := gT_c24 _ (List.mem_of_getElem? (i := 8) rfl)
theorem ml_X10_203 : Cond.methodLink RX10 203 yX4_refresh ∈ wsL_law0 := gT_c24 _ (List.mem_of_getElem? (i := 9) rfl)
theorem im_yX4_refresh : Cond.instanceMethod yX4_refresh ∈ wsL_law0 := gT_c24 _ (List.mem_of_getElem? (i := 10) rfl)
theorem se_yX4_refresh_RX4 : Cond.selects RX4 yX4_refresh yX4_refresh ∈ wsL_law0 := gT_c24 _ (List.mem_of_getElem? (i := 11) rfl)
theorem cd_yX4_refresh : Cond.code yX4_refresh cX4_refresh 2 none ∈ wsL_law0 := gT_c24 _ (List.mem_of_getElem? (i := 12) rfl)
theorem fl_X4_36 : Cond.fieldLink RX4 36 "NearWords$Candidates" "words" "LNearWords$Words;" ∈ wsL_law0 := gT_c24 _ (List.mem_of_getElem? (i := 13) rfl)
theorem ct_X4_48 : Cond.constant RX4 48 (2147483647) ∈ wsL_law0 := gT_c24 _ (List.mem_of_getElem? (i := 14) rfl)
theorem ml_X4_42 : Cond.methodLink RX4 42 yX9_having ∈ wsL_law0 := gT_c24 _ (List.mem_of_getElem? (i := 15) rfl)
theorem ml_X4_49 : Cond.methodLink RX4 49 yX4_lookAtAll ∈ wsL_law0 := gT_c24 _ (List.mem_of_getElem? (i := 16) rfl)
theorem im_yX4_lookAtAll : Cond.instanceMethod yX4_lookAtAll ∈ wsL_law0 := gT_c24 _ (List.mem_of_getElem? (i := 17) rfl)
theorem se_yX4_lookAtAll_RX4 : Cond.selects RX4 yX4_lookAtAll yX4_lookAtAll ∈ wsL_law0 := gT_c24 _ (List.mem_of_getElem? (i := 18) rfl)
theorem cd_yX4_lookAtAll : Cond.code yX4_lookAtAll cX4_lookAtAll 4 none ∈ wsL_law0 := gT_c24 _ (List.mem_of_getElem? (i := 19) rfl)
theorem fl_X4_58 : Cond.fieldLink RX4 58 "NearWords$Candidates" "walk" "LNearWords$Walk;" ∈ wsL_law0 := gT_c24 _ (List.mem_of_getElem? (i := 20) rfl)
theorem fl_X4_66 : Cond.fieldLink RX4 66 "NearWords$Candidates" "near" "I" ∈ wsL_law0 := gT_c24 _ (List.mem_of_getElem? (i := 21) rfl)
theorem fl_X4_79 : Cond.fieldLink RX4 79 "NearWords$Walk" "sums" "[I" ∈ wsL_law0 := gT_c24 _ (List.mem_of_getElem? (i := 22) rfl)
theorem fl_X4_93 : Cond.fieldLink RX4 93 "NearWords$Walk" "length" "I" ∈ wsL_law0 := gT_c24 _ (List.mem_of_getElem? (i := 23) rfl)
theorem ml_X4_62 : Cond.methodLink RX4 62 yX0_begin ∈ wsL_law0 := gT_c25 _ (List.mem_of_getElem? (i := 0) rfl)
theorem ml_X4_69 : Cond.methodLink RX4 69 yX8_putFrom ∈ wsL_law0 := gT_c25 _ (List.mem_of_getElem? (i := 1) rfl)
theorem ml_X4_75 : Cond.methodLink RX4 75 yX0_isFarEnough ∈ wsL_law0 := gT_c25 _ (List.mem_of_getElem? (i := 2) rfl)
theorem ml_X4_82 : Cond.methodLink RX4 82 yX8_whole ∈ wsL_law0 := gT_c25 _ (List.mem_of_getElem? (i := 3) rfl)
theorem ml_X4_85 : Cond.methodLink RX4 85 yX4_sortByDistance ∈ wsL_law0 := gT_c25 _ (List.mem_of_getElem? (i := 4) rfl)
theorem im_yX4_sortByDistance : Cond.instanceMethod yX4_sortByDistance ∈ wsL_law0 := gT_c25 _ (List.mem_of_getElem? (i := 5) rfl)
theorem se_yX4_sortByDistance_RX4 : Cond.selects RX4 yX4_sortByDistance yX4_sortByDistance ∈ wsL_law0 := gT_c25 _ (List.mem_of_getElem? (i := 6) rfl)
theorem cd_yX4_sortByDistance : Cond.code yX4_sortByDistance cX4_sortByDistance 7 none ∈ wsL_law0 := gT_c25 _ (List.mem_of_getElem? (i := 7) rfl)
theorem ml_X4_89 : Cond.methodLink RX4 89 yX4_holdNearest ∈ wsL_law0 := gT_c25 _ (List.mem_of_getElem? (i := 8) rfl)
theorem im_yX4_holdNearest : Cond.instanceMethod yX4_holdNearest ∈ wsL_law0 := gT_c25 _ (List.mem_of_getElem? (i := 9) rfl)
theorem se_yX4_holdNearest_RX4 : Cond.selects RX4 yX4_holdNearest yX4_holdNearest ∈ wsL_law0 := gT_c25 _ (List.mem_of_getElem? (i := 10) rfl)
theorem cd_yX4_holdNearest : Cond.code yX4_holdNearest cX4_holdNearest 6 none ∈ wsL_law0 := gT_c25 _ (List.mem_of_getElem? (i := 11) rfl)
theorem fl_X4_106 : Cond.fieldLink RX4 106 "NearWords$Candidates" "bits" "[I" ∈ wsL_law0 := gT_c25 _ (List.mem_of_getElem? (i := 12) rfl)
theorem ml_X4_99 : Cond.methodLink RX4 99 yX8_packedRow ∈ wsL_law0 := gT_c25 _ (List.mem_of_getElem? (i := 13) rfl)
theorem ml_X4_102 : Cond.methodLink RX4 102 yX4_hold ∈ wsL_law0 := gT_c25 _ (List.mem_of_getElem? (i := 14) rfl)
theorem im_yX4_hold : Cond.instanceMethod yX4_hold ∈ wsL_law0 := gT_c25 _ (List.mem_of_getElem? (i := 15) rfl)
theorem se_yX4_hold_RX4 : Cond.selects RX4 yX4_hold yX4_hold ∈ wsL_law0 := gT_c25 _ (List.mem_of_getElem? (i := 16) rfl)
theorem cd_yX4_hold : Cond.code yX4_hold cX4_hold 3 none ∈ wsL_law0 := gT_c25 _ (List.mem_of_getElem? (i := 17) rfl)
theorem ml_X4_96 : Cond.methodLink RX4 96 yX8_advance ∈ wsL_law0 := gT_c25 _ (List.mem_of_getElem? (i := 18) rfl)
theorem ml_X4_52 : Cond.methodLink RX4 52 yX4_holdSmallerSets ∈ wsL_law0 := gT_c25 _ (List.mem_of_getElem? (i := 19) rfl)
theorem im_yX4_holdSmallerSets : Cond.instanceMethod yX4_holdSmallerSets ∈ wsL_law0 := gT_c25 _ (List.mem_of_getElem? (i := 20) rfl)
theorem se_yX4_holdSmallerSets_RX4 : Cond.selects RX4 yX4_holdSmallerSets yX4_holdSmallerSets ∈ wsL_law0 := gT_c25 _ (List.mem_of_getElem? (i := 21) rfl)
theorem cd_yX4_holdSmallerSets : Cond.code yX4_holdSmallerSets cX4_holdSmallerSets 4 none ∈ wsL_law0 := gT_c25 _ (List.mem_of_getElem? (i := 22) rfl)
theorem ml_X4_55 : Cond.methodLink RX4 55 yX4_coverAll ∈ wsL_law0 := gT_c25 _ (List.mem_of_getElem? (i := 23) rfl)
theorem im_yX4_coverAll : Cond.instanceMethod yX4_coverAll ∈ wsL_law0 := gT_c26 _ (List.mem_of_getElem? (i := 0) rfl)
theorem se_yX4_coverAll_RX4 : Cond.selects RX4 yX4_coverAll yX4_coverAll ∈ wsL_law0 := gT_c26 _ (List.mem_of_getElem? (i := 1) rfl)
theorem cd_yX4_coverAll : Cond.code yX4_coverAll cX4_coverAll 3 none ∈ wsL_law0 := gT_c26 _ (List.mem_of_getElem? (i := 2) rfl)
theorem ml_X4_109 : Cond.methodLink RX4 109 yX4_reachOf ∈ wsL_law0 := gT_c26 _ (List.mem_of_getElem? (i := 3) rfl)
theorem im_yX4_reachOf : Cond.instanceMethod yX4_reachOf ∈ wsL_law0 := gT_c26 _ (List.mem_of_getElem? (i := 4) rfl)
theorem se_yX4_reachOf_RX4 : Cond.selects RX4 yX4_reachOf yX4_reachOf ∈ wsL_law0 := gT_c26 _ (List.mem_of_getElem? (i := 5) rfl)
theorem cd_yX4_reachOf : Cond.code yX4_reachOf cX4_reachOf 2 (some .int) ∈ wsL_law0 := gT_c26 _ (List.mem_of_getElem? (i := 6) rfl)
theorem ml_X4_112 : Cond.methodLink RX4 112 yX4_partOnce ∈ wsL_law0 := gT_c26 _ (List.mem_of_getElem? (i := 7) rfl)
theorem im_yX4_partOnce : Cond.instanceMethod yX4_partOnce ∈ wsL_law0 := gT_c26 _ (List.mem_of_getElem? (i := 8) rfl)
theorem se_yX4_partOnce_RX4 : Cond.selects RX4 yX4_partOnce yX4_partOnce ∈ wsL_law0 := gT_c26 _ (List.mem_of_getElem? (i := 9) rfl)
theorem cd_yX4_partOnce : Cond.code yX4_partOnce cX4_partOnce 5 none ∈ wsL_law0 := gT_c26 _ (List.mem_of_getElem? (i := 10) rfl)
theorem ml_X4_115 : Cond.methodLink RX4 115 Lib.Math.max.name ∈ wsL_law0 := gT_c26 _ (List.mem_of_getElem? (i := 11) rfl)
theorem ml_X10_268 : Cond.methodLink RX10 268 yX4_leastWithout ∈ wsL_law0 := gT_c26 _ (List.mem_of_getElem? (i := 12) rfl)
theorem im_yX4_leastWithout : Cond.instanceMethod yX4_leastWithout ∈ wsL_law0 := gT_c26 _ (List.mem_of_getElem? (i := 13) rfl)
theorem se_yX4_leastWithout_RX4 : Cond.selects RX4 yX4_leastWithout yX4_leastWithout ∈ wsL_law0 := gT_c26 _ (List.mem_of_getElem? (i := 14) rfl)
theorem cd_yX4_leastWithout : Cond.code yX4_leastWithout cX4_leastWithout 5 (some .int) ∈ wsL_law0 := gT_c26 _ (List.mem_of_getElem? (i := 15) rfl)
theorem ml_X4_121 : Cond.methodLink RX4 121 yJ6_bitCount_0f7a4 ∈ wsL_law0 := gT_c26 _ (List.mem_of_getElem? (i := 16) rfl)
theorem st_yJ6_bitCount_0f7a4 : Cond.static yJ6_bitCount_0f7a4 ∈ wsL_law0 := gT_c26 _ (List.mem_of_getElem? (i := 17) rfl)
theorem in_RJ6 : Cond.initialized RJ6 ∈ wsL_law0 := gT_c26 _ (List.mem_of_getElem? (i := 18) rfl)
theorem cd_yJ6_bitCount_0f7a4 : Cond.code yJ6_bitCount_0f7a4 cJ6_bitCount_0f7a4 1 (some .int) ∈ wsL_law0 := gT_c26 _ (List.mem_of_getElem? (i := 19) rfl)
theorem ct_J6_265 : Cond.constant RJ6 265 (1431655765) ∈ wsL_law0 := gT_c26 _ (List.mem_of_getElem? (i := 20) rfl)
theorem ct_J6_266 : Cond.constant RJ6 266 (858993459) ∈ wsL_law0 := gT_c26 _ (List.mem_of_getElem? (i := 21) rfl)
theorem ct_J6_267 : Cond.constant RJ6 267 (252645135) ∈ wsL_law0 := gT_c26 _ (List.mem_of_getElem? (i := 22) rfl)
theorem ml_X10_172 : Cond.methodLink RX10 172 yX4_reachOf ∈ wsL_law0 := gT_c26 _ (List.mem_of_getElem? (i := 23) rfl)
theorem ml_L_84 : Cond.methodLink RL 84 yX11_without ∈ wsL_law0 := gT_c27 _ (List.mem_of_getElem? (i := 0) rfl)
theorem im_yX11_without : Cond.instanceMethod yX11_without ∈ wsL_law0 := gT_c27 _ (List.mem_of_getElem? (i := 1) rfl)
theorem se_yX11_without_RX11 : Cond.selects RX11 yX11_without yX11_without ∈ wsL_law0 := gT_c27 _ (List.mem_of_getElem? (i := 2) rfl)
theorem cd_yX11_without : Cond.code yX11_without cX11_without 3 (some .int) ∈ wsL_law0 := gT_c27 _ (List.mem_of_getElem? (i := 3) rfl)
theorem ml_L_85 : Cond.methodLink RL 85 yX10_leftOut ∈ wsL_law0 := gT_c27 _ (List.mem_of_getElem? (i := 4) rfl)
theorem im_yX10_leftOut : Cond.instanceMethod yX10_leftOut ∈ wsL_law0 := gT_c27 _ (List.mem_of_getElem? (i := 5) rfl)
theorem se_yX10_leftOut_RX10 : Cond.selects RX10 yX10_leftOut yX10_leftOut ∈ wsL_law0 := gT_c27 _ (List.mem_of_getElem? (i := 6) rfl)
theorem cd_yX10_leftOut : Cond.code yX10_leftOut cX10_leftOut 3 (some .int) ∈ wsL_law0 := gT_c27 _ (List.mem_of_getElem? (i := 7) rfl)
theorem ml_X10_175 : Cond.methodLink RX10 175 yX4_rowOf ∈ wsL_law0 := gT_c27 _ (List.mem_of_getElem? (i := 8) rfl)
theorem im_yX4_rowOf : Cond.instanceMethod yX4_rowOf ∈ wsL_law0 := gT_c27 _ (List.mem_of_getElem? (i := 9) rfl)
theorem se_yX4_rowOf_RX4 : Cond.selects RX4 yX4_rowOf yX4_rowOf ∈ wsL_law0 := gT_c27 _ (List.mem_of_getElem? (i := 10) rfl)
theorem cd_yX4_rowOf : Cond.code yX4_rowOf cX4_rowOf 2 (some .int) ∈ wsL_law0 := gT_c27 _ (List.mem_of_getElem? (i := 11) rfl)
theorem ml_X10_178 : Cond.methodLink RX10 178 yX0_furtherThan ∈ wsL_law0 := gT_c27 _ (List.mem_of_getElem? (i := 12) rfl)
theorem im_yX0_furtherThan : Cond.instanceMethod yX0_furtherThan ∈ wsL_law0 := gT_c27 _ (List.mem_of_getElem? (i := 13) rfl)
theorem se_yX0_furtherThan_RX0 : Cond.selects RX0 yX0_furtherThan yX0_furtherThan ∈ wsL_law0 := gT_c27 _ (List.mem_of_getElem? (i := 14) rfl)
theorem cd_yX0_furtherThan : Cond.code yX0_furtherThan cX0_furtherThan 5 (some .int) ∈ wsL_law0 := gT_c27 _ (List.mem_of_getElem? (i := 15) rfl)
theorem ml_X0_86 : Cond.methodLink RX0 86 yX8_letterAt ∈ wsL_law0 := gT_c27 _ (List.mem_of_getElem? (i := 16) rfl)
theorem ml_X0_90 : Cond.methodLink RX0 90 yX3_distance ∈ wsL_law0 := gT_c27 _ (List.mem_of_getElem? (i := 17) rfl)
theorem ml_L_88 : Cond.methodLink RL 88 yX11_leftOut ∈ wsL_law0 := gT_c27 _ (List.mem_of_getElem? (i := 18) rfl)
theorem im_yX11_leftOut : Cond.instanceMethod yX11_leftOut ∈ wsL_law0 := gT_c27 _ (List.mem_of_getElem? (i := 19) rfl)
theorem se_yX11_leftOut_RX11 : Cond.selects RX11 yX11_leftOut yX11_leftOut ∈ wsL_law0 := gT_c27 _ (List.mem_of_getElem? (i := 20) rfl)
theorem cd_yX11_leftOut : Cond.code yX11_leftOut cX11_leftOut 6 (some .int) ∈ wsL_law0 := gT_c27 _ (List.mem_of_getElem? (i := 21) rfl)
theorem ml_L_89 : Cond.methodLink RL 89 yX10_within ∈ wsL_law0 := gT_c27 _ (List.mem_of_getElem? (i := 22) rfl)
theorem im_yX10_within : Cond.instanceMethod yX10_within ∈ wsL_law0 := gT_c27 _ (List.mem_of_getElem? (i := 23) rfl)
theorem se_yX10_within_RX10 : Cond.selects RX10 yX10_within yX10_within ∈ wsL_law0 := gT_c28 _ (List.mem_of_getElem? (i := 0) rfl)
theorem cd_yX10_within : Cond.code yX10_within cX10_within 2 (some .int) ∈ wsL_law0 := gT_c28 _ (List.mem_of_getElem? (i := 1) rfl)
theorem fl_X10_184 : Cond.fieldLink RX10 184 "NearWords$Survey" "counts" "[I" ∈ wsL_law0 := gT_c28 _ (List.mem_of_getElem? (i := 2) rfl)
theorem ml_X10_181 : Cond.methodLink RX10 181 yX10_asksWithin ∈ wsL_law0 := gT_c28 _ (List.mem_of_getElem? (i := 3) rfl)
theorem im_yX10_asksWithin : Cond.instanceMethod yX10_asksWithin ∈ wsL_law0 := gT_c28 _ (List.mem_of_getElem? (i := 4) rfl)
theorem se_yX10_asksWithin_RX10 : Cond.selects RX10 yX10_asksWithin yX10_asksWithin ∈ wsL_law0 := gT_c28 _ (List.mem_of_getElem? (i := 5) rfl)
theorem cd_yX10_asksWithin : Cond.code yX10_asksWithin cX10_asksWithin 2 (some .boolean) ∈ wsL_law0 := gT_c28 _ (List.mem_of_getElem? (i := 6) rfl)
theorem ml_L_92 : Cond.methodLink RL 92 yX11_within_ ∈ wsL_law0 := gT_c28 _ (List.mem_of_getElem? (i := 7) rfl)
theorem im_yX11_within_ : Cond.instanceMethod yX11_within_ ∈ wsL_law0 := gT_c28 _ (List.mem_of_getElem? (i := 8) rfl)
theorem se_yX11_within__RX11 : Cond.selects RX11 yX11_within_ yX11_within_ ∈ wsL_law0 := gT_c28 _ (List.mem_of_getElem? (i := 9) rfl)
theorem cd_yX11_within_ : Cond.code yX11_within_ cX11_within_ 4 (some .int) ∈ wsL_law0 := gT_c28 _ (List.mem_of_getElem? (i := 10) rfl)
theorem ml_X11_163 : Cond.methodLink RX11 163 yX11_isAsked ∈ wsL_law0 := gT_c28 _ (List.mem_of_getElem? (i := 11) rfl)
theorem im_yX11_isAsked : Cond.instanceMethod yX11_isAsked ∈ wsL_law0 := gT_c28 _ (List.mem_of_getElem? (i := 12) rfl)
theorem se_yX11_isAsked_RX11 : Cond.selects RX11 yX11_isAsked yX11_isAsked ∈ wsL_law0 := gT_c28 _ (List.mem_of_getElem? (i := 13) rfl)
theorem cd_yX11_isAsked : Cond.code yX11_isAsked cX11_isAsked 2 (some .boolean) ∈ wsL_law0 := gT_c28 _ (List.mem_of_getElem? (i := 14) rfl)
theorem ml_L_93 : Cond.methodLink RL 93 yX10_lettersAt ∈ wsL_law0 := gT_c28 _ (List.mem_of_getElem? (i := 15) rfl)
theorem im_yX10_lettersAt : Cond.instanceMethod yX10_lettersAt ∈ wsL_law0 := gT_c28 _ (List.mem_of_getElem? (i := 16) rfl)
theorem se_yX10_lettersAt_RX10 : Cond.selects RX10 yX10_lettersAt yX10_lettersAt ∈ wsL_law0 := gT_c28 _ (List.mem_of_getElem? (i := 17) rfl)
theorem cd_yX10_lettersAt : Cond.code yX10_lettersAt cX10_lettersAt 3 (some .int) ∈ wsL_law0 := gT_c28 _ (List.mem_of_getElem? (i := 18) rfl)
theorem fl_X10_187 : Cond.fieldLink RX10 187 "NearWords$Survey" "seen" "[I" ∈ wsL_law0 := gT_c28 _ (List.mem_of_getElem? (i := 19) rfl)
theorem ml_X10_190 : Cond.methodLink RX10 190 yX8_spotAt ∈ wsL_law0 := gT_c28 _ (List.mem_of_getElem? (i := 20) rfl)
theorem st_yX8_spotAt : Cond.static yX8_spotAt ∈ wsL_law0 := gT_c28 _ (List.mem_of_getElem? (i := 21) rfl)
theorem cd_yX8_spotAt : Cond.code yX8_spotAt cX8_spotAt 2 (some .int) ∈ wsL_law0 := gT_c28 _ (List.mem_of_getElem? (i := 22) rfl)
theorem ml_L_96 : Cond.methodLink RL 96 yX11_lettersAt ∈ wsL_law0 := gT_c28 _ (List.mem_of_getElem? (i := 23) rfl)
theorem im_yX11_lettersAt : Cond.instanceMethod yX11_lettersAt ∈ wsL_law0 := gT_c29 _ (List.mem_of_getElem? (i := 0) rfl)
theorem se_yX11_lettersAt_RX11 : Cond.selects RX11 yX11_lettersAt yX11_lettersAt ∈ wsL_law0 := gT_c29 _ (List.mem_of_getElem? (i := 1) rfl)
theorem cd_yX11_lettersAt : Cond.code yX11_lettersAt cX11_lettersAt 5 (some .int) ∈ wsL_law0 := gT_c29 _ (List.mem_of_getElem? (i := 2) rfl)
theorem ml_L_97 : Cond.methodLink RL 97 yX10_core ∈ wsL_law0 := gT_c29 _ (List.mem_of_getElem? (i := 3) rfl)
theorem im_yX10_core : Cond.instanceMethod yX10_core ∈ wsL_law0 := gT_c29 _ (List.mem_of_getElem? (i := 4) rfl)
theorem se_yX10_core_RX10 : Cond.selects RX10 yX10_core yX10_core ∈ wsL_law0 := gT_c29 _ (List.mem_of_getElem? (i := 5) rfl)
theorem cd_yX10_core : Cond.code yX10_core cX10_core 3 (some .int) ∈ wsL_law0 := gT_c29 _ (List.mem_of_getElem? (i := 6) rfl)
theorem ml_X10_195 : Cond.methodLink RX10 195 yX10_coreSet ∈ wsL_law0 := gT_c29 _ (List.mem_of_getElem? (i := 7) rfl)
theorem im_yX10_coreSet : Cond.instanceMethod yX10_coreSet ∈ wsL_law0 := gT_c29 _ (List.mem_of_getElem? (i := 8) rfl)
theorem se_yX10_coreSet_RX10 : Cond.selects RX10 yX10_coreSet yX10_coreSet ∈ wsL_law0 := gT_c29 _ (List.mem_of_getElem? (i := 9) rfl)
theorem cd_yX10_coreSet : Cond.code yX10_coreSet cX10_coreSet 2 (some .int) ∈ wsL_law0 := gT_c29 _ (List.mem_of_getElem? (i := 10) rfl)
theorem ml_X10_204 : Cond.methodLink RX10 204 yX4_leastNotHeld ∈ wsL_law0 := gT_c29 _ (List.mem_of_getElem? (i := 11) rfl)
theorem im_yX4_leastNotHeld : Cond.instanceMethod yX4_leastNotHeld ∈ wsL_law0 := gT_c29 _ (List.mem_of_getElem? (i := 12) rfl)
theorem se_yX4_leastNotHeld_RX4 : Cond.selects RX4 yX4_leastNotHeld yX4_leastNotHeld ∈ wsL_law0 := gT_c29 _ (List.mem_of_getElem? (i := 13) rfl)
theorem cd_yX4_leastNotHeld : Cond.code yX4_leastNotHeld cX4_leastNotHeld 6 (some .int) ∈ wsL_law0 := gT_c29 _ (List.mem_of_getElem? (i := 14) rfl)
theorem ml_X10_198 : Cond.methodLink RX10 198 yJ6_bitCount_0f7a4 ∈ wsL_law0 := gT_c29 _ (List.mem_of_getElem? (i := 15) rfl)
theorem ml_L_100 : Cond.methodLink RL 100 yX11_core ∈ wsL_law0 := gT_c29 _ (List.mem_of_getElem? (i := 16) rfl)
theorem im_yX11_core : Cond.instanceMethod yX11_core ∈ wsL_law0 := gT_c29 _ (List.mem_of_getElem? (i := 17) rfl)
theorem se_yX11_core_RX11 : Cond.selects RX11 yX11_core yX11_core ∈ wsL_law0 := gT_c29 _ (List.mem_of_getElem? (i := 18) rfl)
theorem cd_yX11_core : Cond.code yX11_core cX11_core 2 (some .int) ∈ wsL_law0 := gT_c29 _ (List.mem_of_getElem? (i := 19) rfl)
theorem ml_X11_176 : Cond.methodLink RX11 176 yX11_coreOf ∈ wsL_law0 := gT_c29 _ (List.mem_of_getElem? (i := 20) rfl)
theorem im_yX11_coreOf : Cond.instanceMethod yX11_coreOf ∈ wsL_law0 := gT_c29 _ (List.mem_of_getElem? (i := 21) rfl)
theorem se_yX11_coreOf_RX11 : Cond.selects RX11 yX11_coreOf yX11_coreOf ∈ wsL_law0 := gT_c29 _ (List.mem_of_getElem? (i := 22) rfl)
theorem cd_yX11_coreOf : Cond.code yX11_coreOf cX11_coreOf 5 (some .int) ∈ wsL_law0 := gT_c29 _ (List.mem_of_getElem? (i := 23) rfl)
theorem ml_X11_166 : Cond.methodLink RX11 166 yX11_holds ∈ wsL_law0 := gT_c30 _ (List.mem_of_getElem? (i := 0) rfl)
theorem im_yX11_holds : Cond.instanceMethod yX11_holds ∈ wsL_law0 := gT_c30 _ (List.mem_of_getElem? (i := 1) rfl)
theorem se_yX11_holds_RX11 : Cond.selects RX11 yX11_holds yX11_holds ∈ wsL_law0 := gT_c30 _ (List.mem_of_getElem? (i := 2) rfl)
theorem cd_yX11_holds : Cond.code yX11_holds cX11_holds 5 none ∈ wsL_law0 := gT_c30 _ (List.mem_of_getElem? (i := 3) rfl)
theorem ml_X11_170 : Cond.methodLink RX11 170 yX11_nearBits ∈ wsL_law0 := gT_c30 _ (List.mem_of_getElem? (i := 4) rfl)
theorem im_yX11_nearBits : Cond.instanceMethod yX11_nearBits ∈ wsL_law0 := gT_c30 _ (List.mem_of_getElem? (i := 5) rfl)
theorem se_yX11_nearBits_RX11 : Cond.selects RX11 yX11_nearBits yX11_nearBits ∈ wsL_law0 := gT_c30 _ (List.mem_of_getElem? (i := 6) rfl)
theorem cd_yX11_nearBits : Cond.code yX11_nearBits cX11_nearBits 3 (some .int) ∈ wsL_law0 := gT_c30 _ (List.mem_of_getElem? (i := 7) rfl)
theorem ml_X11_173 : Cond.methodLink RX11 173 yX11_size ∈ wsL_law0 := gT_c30 _ (List.mem_of_getElem? (i := 8) rfl)
theorem st_yX11_size : Cond.static yX11_size ∈ wsL_law0 := gT_c30 _ (List.mem_of_getElem? (i := 9) rfl)
theorem cd_yX11_size : Cond.code yX11_size cX11_size 3 (some .int) ∈ wsL_law0 := gT_c30 _ (List.mem_of_getElem? (i := 10) rfl)
theorem ml_L_101 : Cond.methodLink RL 101 yX10_coreSet ∈ wsL_law0 := gT_c30 _ (List.mem_of_getElem? (i := 11) rfl)
theorem ml_L_104 : Cond.methodLink RL 104 yX11_coreSet ∈ wsL_law0 := gT_c30 _ (List.mem_of_getElem? (i := 12) rfl)
theorem im_yX11_coreSet : Cond.instanceMethod yX11_coreSet ∈ wsL_law0 := gT_c30 _ (List.mem_of_getElem? (i := 13) rfl)
theorem se_yX11_coreSet_RX11 : Cond.selects RX11 yX11_coreSet yX11_coreSet ∈ wsL_law0 := gT_c30 _ (List.mem_of_getElem? (i := 14) rfl)
theorem cd_yX11_coreSet : Cond.code yX11_coreSet cX11_coreSet 2 (some .int) ∈ wsL_law0 := gT_c30 _ (List.mem_of_getElem? (i := 15) rfl)
theorem ml_L_105 : Cond.methodLink RL 105 yX10_cover ∈ wsL_law0 := gT_c30 _ (List.mem_of_getElem? (i := 16) rfl)
theorem im_yX10_cover : Cond.instanceMethod yX10_cover ∈ wsL_law0 := gT_c30 _ (List.mem_of_getElem? (i := 17) rfl)
theorem se_yX10_cover_RX10 : Cond.selects RX10 yX10_cover yX10_cover ∈ wsL_law0 := gT_c30 _ (List.mem_of_getElem? (i := 18) rfl)
theorem cd_yX10_cover : Cond.code yX10_cover cX10_cover 2 (some .int) ∈ wsL_law0 := gT_c30 _ (List.mem_of_getElem? (i := 19) rfl)
theorem ml_X10_207 : Cond.methodLink RX10 207 yX4_fewestSets ∈ wsL_law0 := gT_c30 _ (List.mem_of_getElem? (i := 20) rfl)
theorem im_yX4_fewestSets : Cond.instanceMethod yX4_fewestSets ∈ wsL_law0 := gT_c30 _ (List.mem_of_getElem? (i := 21) rfl)
theorem se_yX4_fewestSets_RX4 : Cond.selects RX4 yX4_fewestSets yX4_fewestSets ∈ wsL_law0 := gT_c30 _ (List.mem_of_getElem? (i := 22) rfl)
theorem cd_yX4_fewestSets : Cond.code yX4_fewestSets cX4_fewestSets 3 (some .int) ∈ wsL_law0 := gT_c30 _ (List.mem_of_getElem? (i := 23) rfl)
theorem ml_L_108 : Cond.methodLink RL 108 yX11_cover ∈ wsL_law0 := gT_c31 _ (List.mem_of_getElem? (i := 0) rfl)
theorem im_yX11_cover : Cond.instanceMethod yX11_cover ∈ wsL_law0 := gT_c31 _ (List.mem_of_getElem? (i := 1) rfl)
theorem se_yX11_cover_RX11 : Cond.selects RX11 yX11_cover yX11_cover ∈ wsL_law0 := gT_c31 _ (List.mem_of_getElem? (i := 2) rfl)
theorem cd_yX11_cover : Cond.code yX11_cover cX11_cover 3 (some .int) ∈ wsL_law0 := gT_c31 _ (List.mem_of_getElem? (i := 3) rfl)
theorem ml_X11_179 : Cond.methodLink RX11 179 yX11_coverOf ∈ wsL_law0 := gT_c31 _ (List.mem_of_getElem? (i := 4) rfl)
theorem im_yX11_coverOf : Cond.instanceMethod yX11_coverOf ∈ wsL_law0 := gT_c31 _ (List.mem_of_getElem? (i := 5) rfl)
theorem se_yX11_coverOf_RX11 : Cond.selects RX11 yX11_coverOf yX11_coverOf ∈ wsL_law0 := gT_c31 _ (List.mem_of_getElem? (i := 6) rfl)
theorem cd_yX11_coverOf : Cond.code yX11_coverOf cX11_coverOf 5 (some .int) ∈ wsL_law0 := gT_c31 _ (List.mem_of_getElem? (i := 7) rfl)
theorem ml_L_109 : Cond.methodLink RL 109 yX10_centres ∈ wsL_law0 := gT_c31 _ (List.mem_of_getElem? (i := 8) rfl)
theorem im_yX10_centres : Cond.instanceMethod yX10_centres ∈ wsL_law0 := gT_c31 _ (List.mem_of_getElem? (i := 9) rfl)
theorem se_yX10_centres_RX10 : Cond.selects RX10 yX10_centres yX10_centres ∈ wsL_law0 := gT_c31 _ (List.mem_of_getElem? (i := 10) rfl)
theorem cd_yX10_centres : Cond.code yX10_centres cX10_centres 3 (some .int) ∈ wsL_law0 := gT_c31 _ (List.mem_of_getElem? (i := 11) rfl)
theorem fl_X10_214 : Cond.fieldLink RX10 214 "NearWords$Sets" "covered" "[I" ∈ wsL_law0 := gT_c31 _ (List.mem_of_getElem? (i := 12) rfl)
theorem ml_L_112 : Cond.methodLink RL 112 yX11_centres ∈ wsL_law0 := gT_c31 _ (List.mem_of_getElem? (i := 13) rfl)
theorem im_yX11_centres : Cond.instanceMethod yX11_centres ∈ wsL_law0 := gT_c31 _ (List.mem_of_getElem? (i := 14) rfl)
theorem se_yX11_centres_RX11 : Cond.selects RX11 yX11_centres yX11_centres ∈ wsL_law0 := gT_c31 _ (List.mem_of_getElem? (i := 15) rfl)
theorem cd_yX11_centres : Cond.code yX11_centres cX11_centres 3 (some .int) ∈ wsL_law0 := gT_c31 _ (List.mem_of_getElem? (i := 16) rfl)
theorem ml_L_113 : Cond.methodLink RL 113 yX10_edits ∈ wsL_law0 := gT_c31 _ (List.mem_of_getElem? (i := 17) rfl)
theorem im_yX10_edits : Cond.instanceMethod yX10_edits ∈ wsL_law0 := gT_c31 _ (List.mem_of_getElem? (i := 18) rfl)
theorem se_yX10_edits_RX10 : Cond.selects RX10 yX10_edits yX10_edits ∈ wsL_law0 := gT_c31 _ (List.mem_of_getElem? (i := 19) rfl)
theorem cd_yX10_edits : Cond.code yX10_edits cX10_edits 3 (some .int) ∈ wsL_law0 := gT_c31 _ (List.mem_of_getElem? (i := 20) rfl)
theorem ml_X10_217 : Cond.methodLink RX10 217 yX1_editing ∈ wsL_law0 := gT_c31 _ (List.mem_of_getElem? (i := 21) rfl)
theorem im_yX1_editing : Cond.instanceMethod yX1_editing ∈ wsL_law0 := gT_c31 _ (List.mem_of_getElem? (i := 22) rfl)
theorem se_yX1_editing_RX1 : Cond.selects RX1 yX1_editing yX1_editing ∈ wsL_law0 := gT_c31 _ (List.mem_of_getElem? (i := 23) rfl)
theorem cd_yX1_editing : Cond.code yX1_editing cX1_editing 6 (some .int) ∈ wsL_law0 := gT_c32 _ (List.mem_of_getElem? (i := 0) rfl)
theorem fl_X1_48 : Cond.fieldLink RX1 48 "NearWords$Words" "length" "I" ∈ wsL_law0 := gT_c32 _ (List.mem_of_getElem? (i := 1) rfl)
theorem ml_X1_40 : Cond.methodLink RX1 40 yX1_firstLine ∈ wsL_law0 := gT_c32 _ (List.mem_of_getElem? (i := 2) rfl)
theorem im_yX1_firstLine : Cond.instanceMethod yX1_firstLine ∈ wsL_law0 := gT_c32 _ (List.mem_of_getElem? (i := 3) rfl)
theorem se_yX1_firstLine_RX1 : Cond.selects RX1 yX1_firstLine yX1_firstLine ∈ wsL_law0 := gT_c32 _ (List.mem_of_getElem? (i := 4) rfl)
theorem cd_yX1_firstLine : Cond.code yX1_firstLine cX1_firstLine 3 none ∈ wsL_law0 := gT_c32 _ (List.mem_of_getElem? (i := 5) rfl)
theorem fl_X1_51 : Cond.fieldLink RX1 51 "NearWords$Rules" "drop" "I" ∈ wsL_law0 := gT_c32 _ (List.mem_of_getElem? (i := 6) rfl)
theorem ml_X1_44 : Cond.methodLink RX1 44 yX1_nextLine ∈ wsL_law0 := gT_c32 _ (List.mem_of_getElem? (i := 7) rfl)
theorem im_yX1_nextLine : Cond.instanceMethod yX1_nextLine ∈ wsL_law0 := gT_c32 _ (List.mem_of_getElem? (i := 8) rfl)
theorem se_yX1_nextLine_RX1 : Cond.selects RX1 yX1_nextLine yX1_nextLine ∈ wsL_law0 := gT_c32 _ (List.mem_of_getElem? (i := 9) rfl)
theorem cd_yX1_nextLine : Cond.code yX1_nextLine cX1_nextLine 15 none ∈ wsL_law0 := gT_c32 _ (List.mem_of_getElem? (i := 10) rfl)
theorem fl_X1_60 : Cond.fieldLink RX1 60 "NearWords$Rules" "prices" "[I" ∈ wsL_law0 := gT_c32 _ (List.mem_of_getElem? (i := 11) rfl)
theorem fl_X1_63 : Cond.fieldLink RX1 63 "NearWords$Words" "rows" "[I" ∈ wsL_law0 := gT_c32 _ (List.mem_of_getElem? (i := 12) rfl)
theorem ml_X1_56 : Cond.methodLink RX1 56 yX9_start ∈ wsL_law0 := gT_c32 _ (List.mem_of_getElem? (i := 13) rfl)
theorem ml_L_116 : Cond.methodLink RL 116 yX11_edits_ ∈ wsL_law0 := gT_c32 _ (List.mem_of_getElem? (i := 14) rfl)
theorem im_yX11_edits_ : Cond.instanceMethod yX11_edits_ ∈ wsL_law0 := gT_c32 _ (List.mem_of_getElem? (i := 15) rfl)
theorem se_yX11_edits__RX11 : Cond.selects RX11 yX11_edits_ yX11_edits_ ∈ wsL_law0 := gT_c32 _ (List.mem_of_getElem? (i := 16) rfl)
theorem cd_yX11_edits_ : Cond.code yX11_edits_ cX11_edits_ 3 (some .int) ∈ wsL_law0 := gT_c32 _ (List.mem_of_getElem? (i := 17) rfl)
theorem ml_X11_191 : Cond.methodLink RX11 191 yX11_edits ∈ wsL_law0 := gT_c32 _ (List.mem_of_getElem? (i := 18) rfl)
theorem im_yX11_edits : Cond.instanceMethod yX11_edits ∈ wsL_law0 := gT_c32 _ (List.mem_of_getElem? (i := 19) rfl)
theorem se_yX11_edits_RX11 : Cond.selects RX11 yX11_edits yX11_edits ∈ wsL_law0 := gT_c32 _ (List.mem_of_getElem? (i := 20) rfl)
theorem cd_yX11_edits : Cond.code yX11_edits cX11_edits 10 (some .int) ∈ wsL_law0 := gT_c32 _ (List.mem_of_getElem? (i := 21) rfl)
theorem ml_L_117 : Cond.methodLink RL 117 yX10_editsFrom ∈ wsL_law0 := gT_c32 _ (List.mem_of_getElem? (i := 22) rfl)
theorem im_yX10_editsFrom : Cond.instanceMethod yX10_editsFrom ∈ wsL_law0 := gT_c32 _ (List.mem_of_getElem? (i := 23) rfl)
theorem se_yX10_editsFrom_RX10 : Cond.selects RX10 yX10_editsFrom yX10_editsFrom ∈ wsL_law0 := gT_c33 _ (List.mem_of_getElem? (i := 0) rfl)
theorem cd_yX10_editsFrom : Cond.code yX10_editsFrom cX10_editsFrom 3 (some .int) ∈ wsL_law0 := gT_c33 _ (List.mem_of_getElem? (i := 1) rfl)
theorem ml_L_120 : Cond.methodLink RL 120 yX11_editsFrom ∈ wsL_law0 := gT_c33 _ (List.mem_of_getElem? (i := 2) rfl)
theorem im_yX11_editsFrom : Cond.instanceMethod yX11_editsFrom ∈ wsL_law0 := gT_c33 _ (List.mem_of_getElem? (i := 3) rfl)
theorem se_yX11_editsFrom_RX11 : Cond.selects RX11 yX11_editsFrom yX11_editsFrom ∈ wsL_law0 := gT_c33 _ (List.mem_of_getElem? (i := 4) rfl)
theorem cd_yX11_editsFrom : Cond.code yX11_editsFrom cX11_editsFrom 3 (some .int) ∈ wsL_law0 := gT_c33 _ (List.mem_of_getElem? (i := 5) rfl)
theorem ml_L_121 : Cond.methodLink RL 121 yX10_middle ∈ wsL_law0 := gT_c33 _ (List.mem_of_getElem? (i := 6) rfl)
theorem im_yX10_middle : Cond.instanceMethod yX10_middle ∈ wsL_law0 := gT_c33 _ (List.mem_of_getElem? (i := 7) rfl)
theorem se_yX10_middle_RX10 : Cond.selects RX10 yX10_middle yX10_middle ∈ wsL_law0 := gT_c33 _ (List.mem_of_getElem? (i := 8) rfl)
theorem cd_yX10_middle : Cond.code yX10_middle cX10_middle 1 (some .int) ∈ wsL_law0 := gT_c33 _ (List.mem_of_getElem? (i := 9) rfl)
theorem fl_X10_222 : Cond.fieldLink RX10 222 "NearWords$Middle" "sum" "I" ∈ wsL_law0 := gT_c33 _ (List.mem_of_getElem? (i := 10) rfl)
theorem ml_X10_221 : Cond.methodLink RX10 221 yX1_refresh ∈ wsL_law0 := gT_c33 _ (List.mem_of_getElem? (i := 11) rfl)
theorem im_yX1_refresh : Cond.instanceMethod yX1_refresh ∈ wsL_law0 := gT_c33 _ (List.mem_of_getElem? (i := 12) rfl)
theorem se_yX1_refresh_RX1 : Cond.selects RX1 yX1_refresh yX1_refresh ∈ wsL_law0 := gT_c33 _ (List.mem_of_getElem? (i := 13) rfl)
theorem cd_yX1_refresh : Cond.code yX1_refresh cX1_refresh 2 none ∈ wsL_law0 := gT_c33 _ (List.mem_of_getElem? (i := 14) rfl)
theorem fl_X1_74 : Cond.fieldLink RX1 74 "NearWords$Words" "size" "I" ∈ wsL_law0 := gT_c33 _ (List.mem_of_getElem? (i := 15) rfl)
theorem ml_X1_66 : Cond.methodLink RX1 66 yX9_hasNear ∈ wsL_law0 := gT_c33 _ (List.mem_of_getElem? (i := 16) rfl)
theorem ml_X1_70 : Cond.methodLink RX1 70 yX1_leastOfNear ∈ wsL_law0 := gT_c33 _ (List.mem_of_getElem? (i := 17) rfl)
theorem im_yX1_leastOfNear : Cond.instanceMethod yX1_leastOfNear ∈ wsL_law0 := gT_c33 _ (List.mem_of_getElem? (i := 18) rfl)
theorem se_yX1_leastOfNear_RX1 : Cond.selects RX1 yX1_leastOfNear yX1_leastOfNear ∈ wsL_law0 := gT_c33 _ (List.mem_of_getElem? (i := 19) rfl)
theorem cd_yX1_leastOfNear : Cond.code yX1_leastOfNear cX1_leastOfNear 3 (some .int) ∈ wsL_law0 := gT_c33 _ (List.mem_of_getElem? (i := 20) rfl)
theorem ct_X1_80 : Cond.constant RX1 80 (2147483646) ∈ wsL_law0 := gT_c33 _ (List.mem_of_getElem? (i := 21) rfl)
theorem fl_X1_81 : Cond.fieldLink RX1 81 "NearWords$Words" "parts" "[I" ∈ wsL_law0 := gT_c33 _ (List.mem_of_getElem? (i := 22) rfl)
theorem ml_X1_87 : Cond.methodLink RX1 87 Lib.Math.min.name ∈ wsL_law0 := gT_c33 _ (List.mem_of_getElem? (i := 23) rfl)
theorem ml_X1_84 : Cond.methodLink RX1 84 yX1_sumFrom ∈ wsL_law0 := gT_c34 _ (List.mem_of_getElem? (i := 0) rfl)
theorem im_yX1_sumFrom : Cond.instanceMethod yX1_sumFrom ∈ wsL_law0 := gT_c34 _ (List.mem_of_getElem? (i := 1) rfl)
theorem se_yX1_sumFrom_RX1 : Cond.selects RX1 yX1_sumFrom yX1_sumFrom ∈ wsL_law0 := gT_c34 _ (List.mem_of_getElem? (i := 2) rfl)
theorem cd_yX1_sumFrom : Cond.code yX1_sumFrom cX1_sumFrom 4 (some .int) ∈ wsL_law0 := gT_c34 _ (List.mem_of_getElem? (i := 3) rfl)
theorem ml_X1_93 : Cond.methodLink RX1 93 yX1_editing ∈ wsL_law0 := gT_c34 _ (List.mem_of_getElem? (i := 4) rfl)
theorem ml_X1_77 : Cond.methodLink RX1 77 yX1_search ∈ wsL_law0 := gT_c34 _ (List.mem_of_getElem? (i := 5) rfl)
theorem im_yX1_search : Cond.instanceMethod yX1_search ∈ wsL_law0 := gT_c34 _ (List.mem_of_getElem? (i := 6) rfl)
theorem se_yX1_search_RX1 : Cond.selects RX1 yX1_search yX1_search ∈ wsL_law0 := gT_c34 _ (List.mem_of_getElem? (i := 7) rfl)
theorem cd_yX1_search : Cond.code yX1_search cX1_search 5 none ∈ wsL_law0 := gT_c34 _ (List.mem_of_getElem? (i := 8) rfl)
theorem ml_X1_97 : Cond.methodLink RX1 97 yX3_rowsOf ∈ wsL_law0 := gT_c34 _ (List.mem_of_getElem? (i := 9) rfl)
theorem ml_X1_100 : Cond.methodLink RX1 100 yX1_descend ∈ wsL_law0 := gT_c34 _ (List.mem_of_getElem? (i := 10) rfl)
theorem im_yX1_descend : Cond.instanceMethod yX1_descend ∈ wsL_law0 := gT_c34 _ (List.mem_of_getElem? (i := 11) rfl)
theorem se_yX1_descend_RX1 : Cond.selects RX1 yX1_descend yX1_descend ∈ wsL_law0 := gT_c34 _ (List.mem_of_getElem? (i := 12) rfl)
theorem cd_yX1_descend : Cond.code yX1_descend cX1_descend 5 (some .int) ∈ wsL_law0 := gT_c34 _ (List.mem_of_getElem? (i := 13) rfl)
theorem ml_X1_110 : Cond.methodLink RX1 110 arraycopyName ∈ wsL_law0 := gT_c34 _ (List.mem_of_getElem? (i := 14) rfl)
theorem ml_X1_107 : Cond.methodLink RX1 107 yX1_put ∈ wsL_law0 := gT_c34 _ (List.mem_of_getElem? (i := 15) rfl)
theorem im_yX1_put : Cond.instanceMethod yX1_put ∈ wsL_law0 := gT_c34 _ (List.mem_of_getElem? (i := 16) rfl)
theorem se_yX1_put_RX1 : Cond.selects RX1 yX1_put yX1_put ∈ wsL_law0 := gT_c34 _ (List.mem_of_getElem? (i := 17) rfl)
theorem cd_yX1_put : Cond.code yX1_put cX1_put 5 (some .int) ∈ wsL_law0 := gT_c34 _ (List.mem_of_getElem? (i := 18) rfl)
theorem ml_X1_116 : Cond.methodLink RX1 116 yX1_leastEnd ∈ wsL_law0 := gT_c34 _ (List.mem_of_getElem? (i := 19) rfl)
theorem im_yX1_leastEnd : Cond.instanceMethod yX1_leastEnd ∈ wsL_law0 := gT_c34 _ (List.mem_of_getElem? (i := 20) rfl)
theorem se_yX1_leastEnd_RX1 : Cond.selects RX1 yX1_leastEnd yX1_leastEnd ∈ wsL_law0 := gT_c34 _ (List.mem_of_getElem? (i := 21) rfl)
theorem cd_yX1_leastEnd : Cond.code yX1_leastEnd cX1_leastEnd 10 (some .int) ∈ wsL_law0 := gT_c34 _ (List.mem_of_getElem? (i := 22) rfl)
theorem ct_X1_120 : Cond.constant RX1 120 (2147483647) ∈ wsL_law0 := gT_c34 _ (List.mem_of_getElem? (i := 23) rfl)
theorem ml_X1_103 : Cond.methodLink RX1 103 yX3_advance ∈ wsL_law0 := gT_c35 _ (List.mem_of_getElem? (i := 0) rfl)
theorem ml_L_124 : Cond.methodLink RL 124 yX11_middle ∈ wsL_law0 := gT_c35 _ (List.mem_of_getElem? (i := 1) rfl)
theorem im_yX11_middle : Cond.instanceMethod yX11_middle ∈ wsL_law0 := gT_c35 _ (List.mem_of_getElem? (i := 2) rfl)
theorem se_yX11_middle_RX11 : Cond.selects RX11 yX11_middle yX11_middle ∈ wsL_law0 := gT_c35 _ (List.mem_of_getElem? (i := 3) rfl)
theorem cd_yX11_middle : Cond.code yX11_middle cX11_middle 1 (some .int) ∈ wsL_law0 := gT_c35 _ (List.mem_of_getElem? (i := 4) rfl)
theorem fl_X11_198 : Cond.fieldLink RX11 198 "NearWordsModel" "middleSum" "I" ∈ wsL_law0 := gT_c35 _ (List.mem_of_getElem? (i := 5) rfl)
theorem ml_X11_207 : Cond.methodLink RX11 207 yX11_hasMiddle ∈ wsL_law0 := gT_c35 _ (List.mem_of_getElem? (i := 6) rfl)
theorem im_yX11_hasMiddle : Cond.instanceMethod yX11_hasMiddle ∈ wsL_law0 := gT_c35 _ (List.mem_of_getElem? (i := 7) rfl)
theorem se_yX11_hasMiddle_RX11 : Cond.selects RX11 yX11_hasMiddle yX11_hasMiddle ∈ wsL_law0 := gT_c35 _ (List.mem_of_getElem? (i := 8) rfl)
theorem cd_yX11_hasMiddle : Cond.code yX11_hasMiddle cX11_hasMiddle 3 (some .boolean) ∈ wsL_law0 := gT_c35 _ (List.mem_of_getElem? (i := 9) rfl)
theorem fl_X11_195 : Cond.fieldLink RX11 195 "NearWordsModel" "middleSize" "I" ∈ wsL_law0 := gT_c35 _ (List.mem_of_getElem? (i := 10) rfl)
theorem ml_X11_204 : Cond.methodLink RX11 204 yX11_tries ∈ wsL_law0 := gT_c35 _ (List.mem_of_getElem? (i := 11) rfl)
theorem im_yX11_tries : Cond.instanceMethod yX11_tries ∈ wsL_law0 := gT_c35 _ (List.mem_of_getElem? (i := 12) rfl)
theorem se_yX11_tries_RX11 : Cond.selects RX11 yX11_tries yX11_tries ∈ wsL_law0 := gT_c35 _ (List.mem_of_getElem? (i := 13) rfl)
theorem cd_yX11_tries : Cond.code yX11_tries cX11_tries 5 none ∈ wsL_law0 := gT_c35 _ (List.mem_of_getElem? (i := 14) rfl)
theorem ml_X11_201 : Cond.methodLink RX11 201 yX11_goesOn ∈ wsL_law0 := gT_c35 _ (List.mem_of_getElem? (i := 15) rfl)
theorem im_yX11_goesOn : Cond.instanceMethod yX11_goesOn ∈ wsL_law0 := gT_c35 _ (List.mem_of_getElem? (i := 16) rfl)
theorem se_yX11_goesOn_RX11 : Cond.selects RX11 yX11_goesOn yX11_goesOn ∈ wsL_law0 := gT_c35 _ (List.mem_of_getElem? (i := 17) rfl)
theorem cd_yX11_goesOn : Cond.code yX11_goesOn cX11_goesOn 7 none ∈ wsL_law0 := gT_c35 _ (List.mem_of_getElem? (i := 18) rfl)
theorem ml_L_125 : Cond.methodLink RL 125 yX10_middleLength ∈ wsL_law0 := gT_c35 _ (List.mem_of_getElem? (i := 19) rfl)
theorem im_yX10_middleLength : Cond.instanceMethod yX10_middleLength ∈ wsL_law0 := gT_c35 _ (List.mem_of_getElem? (i := 20) rfl)
theorem se_yX10_middleLength_RX10 : Cond.selects RX10 yX10_middleLength yX10_middleLength ∈ wsL_law0 := gT_c35 _ (List.mem_of_getElem? (i := 21) rfl)
theorem cd_yX10_middleLength : Cond.code yX10_middleLength cX10_middleLength 1 (some .int) ∈ wsL_law0 := gT_c35 _ (List.mem_of_getElem? (i := 22) rfl)
theorem fl_X10_225 : Cond.fieldLink RX10 225 "NearWords$Middle" "length" "I" ∈ wsL_law0 := gT_c35 _ (List.mem_of_getElem? (i := 23) rfl)
theorem ml_L_128 : Cond.methodLink RL 128 yX11_middleLength ∈ wsL_law0 := gT_c36 _ (List.mem_of_getElem? (i := 0) rfl)
theorem im_yX11_middleLength : Cond.instanceMethod yX11_middleLength ∈ wsL_law0 := gT_c36 _ (List.mem_of_getElem? (i := 1) rfl)
theorem se_yX11_middleLength_RX11 : Cond.selects RX11 yX11_middleLength yX11_middleLength ∈ wsL_law0 := gT_c36 _ (List.mem_of_getElem? (i := 2) rfl)
theorem cd_yX11_middleLength : Cond.code yX11_middleLength cX11_middleLength 1 (some .int) ∈ wsL_law0 := gT_c36 _ (List.mem_of_getElem? (i := 3) rfl)
theorem ml_L_129 : Cond.methodLink RL 129 yX10_middleAt ∈ wsL_law0 := gT_c36 _ (List.mem_of_getElem? (i := 4) rfl)
theorem im_yX10_middleAt : Cond.instanceMethod yX10_middleAt ∈ wsL_law0 := gT_c36 _ (List.mem_of_getElem? (i := 5) rfl)
theorem se_yX10_middleAt_RX10 : Cond.selects RX10 yX10_middleAt yX10_middleAt ∈ wsL_law0 := gT_c36 _ (List.mem_of_getElem? (i := 6) rfl)
theorem cd_yX10_middleAt : Cond.code yX10_middleAt cX10_middleAt 2 (some .int) ∈ wsL_law0 := gT_c36 _ (List.mem_of_getElem? (i := 7) rfl)
theorem fl_X10_226 : Cond.fieldLink RX10 226 "NearWords$Middle" "found" "[I" ∈ wsL_law0 := gT_c36 _ (List.mem_of_getElem? (i := 8) rfl)
theorem ml_L_132 : Cond.methodLink RL 132 yX11_middleAt ∈ wsL_law0 := gT_c36 _ (List.mem_of_getElem? (i := 9) rfl)
theorem im_yX11_middleAt : Cond.instanceMethod yX11_middleAt ∈ wsL_law0 := gT_c36 _ (List.mem_of_getElem? (i := 10) rfl)
theorem se_yX11_middleAt_RX11 : Cond.selects RX11 yX11_middleAt yX11_middleAt ∈ wsL_law0 := gT_c36 _ (List.mem_of_getElem? (i := 11) rfl)
theorem cd_yX11_middleAt : Cond.code yX11_middleAt cX11_middleAt 2 (some .int) ∈ wsL_law0 := gT_c36 _ (List.mem_of_getElem? (i := 12) rfl)
theorem ml_L_133 : Cond.methodLink RL 133 yX10_median ∈ wsL_law0 := gT_c36 _ (List.mem_of_getElem? (i := 13) rfl)
theorem im_yX10_median : Cond.instanceMethod yX10_median ∈ wsL_law0 := gT_c36 _ (List.mem_of_getElem? (i := 14) rfl)
theorem se_yX10_median_RX10 : Cond.selects RX10 yX10_median yX10_median ∈ wsL_law0 := gT_c36 _ (List.mem_of_getElem? (i := 15) rfl)
theorem cd_yX10_median : Cond.code yX10_median cX10_median 1 (some .int) ∈ wsL_law0 := gT_c36 _ (List.mem_of_getElem? (i := 16) rfl)
theorem fl_X10_229 : Cond.fieldLink RX10 229 "NearWords$Survey" "sum" "I" ∈ wsL_law0 := gT_c36 _ (List.mem_of_getElem? (i := 17) rfl)
theorem ml_L_136 : Cond.methodLink RL 136 yX11_median ∈ wsL_law0 := gT_c36 _ (List.mem_of_getElem? (i := 18) rfl)
theorem im_yX11_median : Cond.instanceMethod yX11_median ∈ wsL_law0 := gT_c36 _ (List.mem_of_getElem? (i := 19) rfl)
theorem se_yX11_median_RX11 : Cond.selects RX11 yX11_median yX11_median ∈ wsL_law0 := gT_c36 _ (List.mem_of_getElem? (i := 20) rfl)
theorem cd_yX11_median : Cond.code yX11_median cX11_median 2 (some .int) ∈ wsL_law0 := gT_c36 _ (List.mem_of_getElem? (i := 21) rfl)
theorem ml_X11_188 : Cond.methodLink RX11 188 yX11_leastSum ∈ wsL_law0 := gT_c36 _ (List.mem_of_getElem? (i := 22) rfl)
theorem im_yX11_leastSum : Cond.instanceMethod yX11_leastSum ∈ wsL_law0 := gT_c36 _ (List.mem_of_getElem? (i := 23) rfl)
theorem se_yX11_leastSum_RX11 : Cond.selects RX11 yX11_leastSum yX11_leastSum ∈ wsL_law0 := gT_c37 _ (List.mem_of_getElem? (i := 0) rfl)
theorem cd_yX11_leastSum : Cond.code yX11_leastSum cX11_leastSum 5 (some .int) ∈ wsL_law0 := gT_c37 _ (List.mem_of_getElem? (i := 1) rfl)
theorem fl_X11_182 : Cond.fieldLink RX11 182 "NearWordsModel" "sameSums" "I" ∈ wsL_law0 := gT_c37 _ (List.mem_of_getElem? (i := 2) rfl)
theorem ml_X11_185 : Cond.methodLink RX11 185 yX11_sumOf ∈ wsL_law0 := gT_c37 _ (List.mem_of_getElem? (i := 3) rfl)
theorem im_yX11_sumOf : Cond.instanceMethod yX11_sumOf ∈ wsL_law0 := gT_c37 _ (List.mem_of_getElem? (i := 4) rfl)
theorem se_yX11_sumOf_RX11 : Cond.selects RX11 yX11_sumOf yX11_sumOf ∈ wsL_law0 := gT_c37 _ (List.mem_of_getElem? (i := 5) rfl)
theorem cd_yX11_sumOf : Cond.code yX11_sumOf cX11_sumOf 4 (some .int) ∈ wsL_law0 := gT_c37 _ (List.mem_of_getElem? (i := 6) rfl)
theorem ml_L_137 : Cond.methodLink RL 137 yX10_medianAt ∈ wsL_law0 := gT_c37 _ (List.mem_of_getElem? (i := 7) rfl)
theorem im_yX10_medianAt : Cond.instanceMethod yX10_medianAt ∈ wsL_law0 := gT_c37 _ (List.mem_of_getElem? (i := 8) rfl)
theorem se_yX10_medianAt_RX10 : Cond.selects RX10 yX10_medianAt yX10_medianAt ∈ wsL_law0 := gT_c37 _ (List.mem_of_getElem? (i := 9) rfl)
theorem cd_yX10_medianAt : Cond.code yX10_medianAt cX10_medianAt 2 (some .int) ∈ wsL_law0 := gT_c37 _ (List.mem_of_getElem? (i := 10) rfl)
theorem fl_X10_230 : Cond.fieldLink RX10 230 "NearWords$Survey" "medianRow" "I" ∈ wsL_law0 := gT_c37 _ (List.mem_of_getElem? (i := 11) rfl)
theorem ml_L_140 : Cond.methodLink RL 140 yX11_medianAt ∈ wsL_law0 := gT_c37 _ (List.mem_of_getElem? (i := 12) rfl)
theorem im_yX11_medianAt : Cond.instanceMethod yX11_medianAt ∈ wsL_law0 := gT_c37 _ (List.mem_of_getElem? (i := 13) rfl)
theorem se_yX11_medianAt_RX11 : Cond.selects RX11 yX11_medianAt yX11_medianAt ∈ wsL_law0 := gT_c37 _ (List.mem_of_getElem? (i := 14) rfl)
theorem cd_yX11_medianAt : Cond.code yX11_medianAt cX11_medianAt 2 (some .int) ∈ wsL_law0 := gT_c37 _ (List.mem_of_getElem? (i := 15) rfl)
theorem ml_L_141 : Cond.methodLink RL 141 yX10_medians ∈ wsL_law0 := gT_c37 _ (List.mem_of_getElem? (i := 16) rfl)
theorem im_yX10_medians : Cond.instanceMethod yX10_medians ∈ wsL_law0 := gT_c37 _ (List.mem_of_getElem? (i := 17) rfl)
theorem se_yX10_medians_RX10 : Cond.selects RX10 yX10_medians yX10_medians ∈ wsL_law0 := gT_c37 _ (List.mem_of_getElem? (i := 18) rfl)
theorem cd_yX10_medians : Cond.code yX10_medians cX10_medians 1 (some .int) ∈ wsL_law0 := gT_c37 _ (List.mem_of_getElem? (i := 19) rfl)
theorem fl_X10_233 : Cond.fieldLink RX10 233 "NearWords$Survey" "medians" "I" ∈ wsL_law0 := gT_c37 _ (List.mem_of_getElem? (i := 20) rfl)
theorem ml_L_144 : Cond.methodLink RL 144 yX11_medians ∈ wsL_law0 := gT_c37 _ (List.mem_of_getElem? (i := 21) rfl)
theorem im_yX11_medians : Cond.instanceMethod yX11_medians ∈ wsL_law0 := gT_c37 _ (List.mem_of_getElem? (i := 22) rfl)
theorem se_yX11_medians_RX11 : Cond.selects RX11 yX11_medians yX11_medians ∈ wsL_law0 := gT_c37 _ (List.mem_of_getElem? (i := 23) rfl)
theorem cd_yX11_medians : Cond.code yX11_medians cX11_medians 1 (some .int) ∈ wsL_law0 := gT_c38 _ (List.mem_of_getElem? (i := 0) rfl)
theorem ml_L_145 : Cond.methodLink RL 145 yX10_motif ∈ wsL_law0 := gT_c38 _ (List.mem_of_getElem? (i := 1) rfl)
theorem im_yX10_motif : Cond.instanceMethod yX10_motif ∈ wsL_law0 := gT_c38 _ (List.mem_of_getElem? (i := 2) rfl)
theorem se_yX10_motif_RX10 : Cond.selects RX10 yX10_motif yX10_motif ∈ wsL_law0 := gT_c38 _ (List.mem_of_getElem? (i := 3) rfl)
theorem cd_yX10_motif : Cond.code yX10_motif cX10_motif 2 (some .int) ∈ wsL_law0 := gT_c38 _ (List.mem_of_getElem? (i := 4) rfl)
theorem fl_X10_241 : Cond.fieldLink RX10 241 "NearWords$Motif" "reach" "[I" ∈ wsL_law0 := gT_c38 _ (List.mem_of_getElem? (i := 5) rfl)
theorem ml_X10_236 : Cond.methodLink RX10 236 yX7_allHave ∈ wsL_law0 := gT_c38 _ (List.mem_of_getElem? (i := 6) rfl)
theorem im_yX7_allHave : Cond.instanceMethod yX7_allHave ∈ wsL_law0 := gT_c38 _ (List.mem_of_getElem? (i := 7) rfl)
theorem se_yX7_allHave_RX7 : Cond.selects RX7 yX7_allHave yX7_allHave ∈ wsL_law0 := gT_c38 _ (List.mem_of_getElem? (i := 8) rfl)
theorem cd_yX7_allHave : Cond.code yX7_allHave cX7_allHave 3 (some .boolean) ∈ wsL_law0 := gT_c38 _ (List.mem_of_getElem? (i := 9) rfl)
theorem ml_X10_239 : Cond.methodLink RX10 239 yX2_refresh ∈ wsL_law0 := gT_c38 _ (List.mem_of_getElem? (i := 10) rfl)
theorem im_yX2_refresh : Cond.instanceMethod yX2_refresh ∈ wsL_law0 := gT_c38 _ (List.mem_of_getElem? (i := 11) rfl)
theorem se_yX2_refresh_RX2 : Cond.selects RX2 yX2_refresh yX2_refresh ∈ wsL_law0 := gT_c38 _ (List.mem_of_getElem? (i := 12) rfl)
theorem cd_yX2_refresh : Cond.code yX2_refresh cX2_refresh 4 none ∈ wsL_law0 := gT_c38 _ (List.mem_of_getElem? (i := 13) rfl)
theorem ct_X2_41 : Cond.constant RX2 41 (2147483647) ∈ wsL_law0 := gT_c38 _ (List.mem_of_getElem? (i := 14) rfl)
theorem fl_X2_46 : Cond.fieldLink RX2 46 "NearWords$Texts" "size" "I" ∈ wsL_law0 := gT_c38 _ (List.mem_of_getElem? (i := 15) rfl)
theorem fl_X2_56 : Cond.fieldLink RX2 56 "NearWords$Texts" "rows" "[I" ∈ wsL_law0 := gT_c38 _ (List.mem_of_getElem? (i := 16) rfl)
theorem ml_X2_42 : Cond.methodLink RX2 42 yX8_begin ∈ wsL_law0 := gT_c38 _ (List.mem_of_getElem? (i := 17) rfl)
theorem ml_X2_52 : Cond.methodLink RX2 52 yX7_piecesOf ∈ wsL_law0 := gT_c38 _ (List.mem_of_getElem? (i := 18) rfl)
theorem im_yX7_piecesOf : Cond.instanceMethod yX7_piecesOf ∈ wsL_law0 := gT_c38 _ (List.mem_of_getElem? (i := 19) rfl)
theorem se_yX7_piecesOf_RX7 : Cond.selects RX7 yX7_piecesOf yX7_piecesOf ∈ wsL_law0 := gT_c38 _ (List.mem_of_getElem? (i := 20) rfl)
theorem cd_yX7_piecesOf : Cond.code yX7_piecesOf cX7_piecesOf 3 (some .int) ∈ wsL_law0 := gT_c38 _ (List.mem_of_getElem? (i := 21) rfl)
theorem ml_X2_59 : Cond.methodLink RX2 59 yX7_start ∈ wsL_law0 := gT_c38 _ (List.mem_of_getElem? (i := 22) rfl)
theorem ml_X2_63 : Cond.methodLink RX2 63 yX8_aimAt ∈ wsL_law0 := gT_c38 _ (List.mem_of_getElem? (i := 23) rfl)
theorem ml_X2_67 : Cond.methodLink RX2 67 yX3_rowsOf ∈ wsL_law0 := gT_c39 _ (List.mem_of_getElem? (i := 0) rfl)
theorem ml_X2_72 : Cond.methodLink RX2 72 yX2_descend ∈ wsL_law0 := gT_c39 _ (List.mem_of_getElem? (i := 1) rfl)
theorem im_yX2_descend : Cond.instanceMethod yX2_descend ∈ wsL_law0 := gT_c39 _ (List.mem_of_getElem? (i := 2) rfl)
theorem se_yX2_descend_RX2 : Cond.selects RX2 yX2_descend yX2_descend ∈ wsL_law0 := gT_c39 _ (List.mem_of_getElem? (i := 3) rfl)
theorem cd_yX2_descend : Cond.code yX2_descend cX2_descend 5 (some .int) ∈ wsL_law0 := gT_c39 _ (List.mem_of_getElem? (i := 4) rfl)
theorem ml_X2_78 : Cond.methodLink RX2 78 yX8_put ∈ wsL_law0 := gT_c39 _ (List.mem_of_getElem? (i := 5) rfl)
theorem ml_X2_81 : Cond.methodLink RX2 81 yX2_leastReach ∈ wsL_law0 := gT_c39 _ (List.mem_of_getElem? (i := 6) rfl)
theorem im_yX2_leastReach : Cond.instanceMethod yX2_leastReach ∈ wsL_law0 := gT_c39 _ (List.mem_of_getElem? (i := 7) rfl)
theorem se_yX2_leastReach_RX2 : Cond.selects RX2 yX2_leastReach yX2_leastReach ∈ wsL_law0 := gT_c39 _ (List.mem_of_getElem? (i := 8) rfl)
theorem cd_yX2_leastReach : Cond.code yX2_leastReach cX2_leastReach 7 (some .int) ∈ wsL_law0 := gT_c39 _ (List.mem_of_getElem? (i := 9) rfl)
theorem ml_X2_92 : Cond.methodLink RX2 92 Lib.Math.max.name ∈ wsL_law0 := gT_c39 _ (List.mem_of_getElem? (i := 10) rfl)
theorem ml_X2_88 : Cond.methodLink RX2 88 yX2_leastSum ∈ wsL_law0 := gT_c39 _ (List.mem_of_getElem? (i := 11) rfl)
theorem im_yX2_leastSum : Cond.instanceMethod yX2_leastSum ∈ wsL_law0 := gT_c39 _ (List.mem_of_getElem? (i := 12) rfl)
theorem se_yX2_leastSum_RX2 : Cond.selects RX2 yX2_leastSum yX2_leastSum ∈ wsL_law0 := gT_c39 _ (List.mem_of_getElem? (i := 13) rfl)
theorem cd_yX2_leastSum : Cond.code yX2_leastSum cX2_leastSum 9 (some .int) ∈ wsL_law0 := gT_c39 _ (List.mem_of_getElem? (i := 14) rfl)
theorem fl_X2_97 : Cond.fieldLink RX2 97 "NearWords$Walk" "width" "I" ∈ wsL_law0 := gT_c39 _ (List.mem_of_getElem? (i := 15) rfl)
theorem fl_X2_100 : Cond.fieldLink RX2 100 "NearWords$Rules" "swap" "I" ∈ wsL_law0 := gT_c39 _ (List.mem_of_getElem? (i := 16) rfl)
theorem fl_X2_103 : Cond.fieldLink RX2 103 "NearWords$Walk" "length" "I" ∈ wsL_law0 := gT_c39 _ (List.mem_of_getElem? (i := 17) rfl)
theorem fl_X2_106 : Cond.fieldLink RX2 106 "NearWords$Walk" "sums" "[I" ∈ wsL_law0 := gT_c39 _ (List.mem_of_getElem? (i := 18) rfl)
theorem ml_X2_84 : Cond.methodLink RX2 84 yX8_packedRow ∈ wsL_law0 := gT_c39 _ (List.mem_of_getElem? (i := 19) rfl)
theorem ml_X2_75 : Cond.methodLink RX2 75 yX8_advance ∈ wsL_law0 := gT_c39 _ (List.mem_of_getElem? (i := 20) rfl)
theorem ml_L_148 : Cond.methodLink RL 148 yX11_motif ∈ wsL_law0 := gT_c39 _ (List.mem_of_getElem? (i := 21) rfl)
theorem im_yX11_motif : Cond.instanceMethod yX11_motif ∈ wsL_law0 := gT_c39 _ (List.mem_of_getElem? (i := 22) rfl)
theorem se_yX11_motif_RX11 : Cond.selects RX11 yX11_motif yX11_motif ∈ wsL_law0 := gT_c39 _ (List.mem_of_getElem? (i := 23) rfl)
theorem cd_yX11_motif : Cond.code yX11_motif cX11_motif 2 (some .int) ∈ wsL_law0 := gT_c40 _ (List.mem_of_getElem? (i := 0) rfl)
theorem fl_X11_217 : Cond.fieldLink RX11 217 "NearWordsModel" "motifFar" "I" ∈ wsL_law0 := gT_c40 _ (List.mem_of_getElem? (i := 1) rfl)
theorem ml_X11_220 : Cond.methodLink RX11 220 yX11_hasMotif ∈ wsL_law0 := gT_c40 _ (List.mem_of_getElem? (i := 2) rfl)
theorem im_yX11_hasMotif : Cond.instanceMethod yX11_hasMotif ∈ wsL_law0 := gT_c40 _ (List.mem_of_getElem? (i := 3) rfl)
theorem se_yX11_hasMotif_RX11 : Cond.selects RX11 yX11_hasMotif yX11_hasMotif ∈ wsL_law0 := gT_c40 _ (List.mem_of_getElem? (i := 4) rfl)
theorem cd_yX11_hasMotif : Cond.code yX11_hasMotif cX11_hasMotif 5 (some .boolean) ∈ wsL_law0 := gT_c40 _ (List.mem_of_getElem? (i := 5) rfl)
theorem fl_X11_211 : Cond.fieldLink RX11 211 "NearWordsModel" "motifRow" "I" ∈ wsL_law0 := gT_c40 _ (List.mem_of_getElem? (i := 6) rfl)
theorem ml_X11_214 : Cond.methodLink RX11 214 yX11_pieceFar ∈ wsL_law0 := gT_c40 _ (List.mem_of_getElem? (i := 7) rfl)
theorem im_yX11_pieceFar : Cond.instanceMethod yX11_pieceFar ∈ wsL_law0 := gT_c40 _ (List.mem_of_getElem? (i := 8) rfl)
theorem se_yX11_pieceFar_RX11 : Cond.selects RX11 yX11_pieceFar yX11_pieceFar ∈ wsL_law0 := gT_c40 _ (List.mem_of_getElem? (i := 9) rfl)
theorem cd_yX11_pieceFar : Cond.code yX11_pieceFar cX11_pieceFar 5 (some .int) ∈ wsL_law0 := gT_c40 _ (List.mem_of_getElem? (i := 10) rfl)
theorem ml_L_149 : Cond.methodLink RL 149 yX10_motifAt ∈ wsL_law0 := gT_c40 _ (List.mem_of_getElem? (i := 11) rfl)
theorem im_yX10_motifAt : Cond.instanceMethod yX10_motifAt ∈ wsL_law0 := gT_c40 _ (List.mem_of_getElem? (i := 12) rfl)
theorem se_yX10_motifAt_RX10 : Cond.selects RX10 yX10_motifAt yX10_motifAt ∈ wsL_law0 := gT_c40 _ (List.mem_of_getElem? (i := 13) rfl)
theorem cd_yX10_motifAt : Cond.code yX10_motifAt cX10_motifAt 3 (some .int) ∈ wsL_law0 := gT_c40 _ (List.mem_of_getElem? (i := 14) rfl)
theorem fl_X10_244 : Cond.fieldLink RX10 244 "NearWords$Motif" "found" "[I" ∈ wsL_law0 := gT_c40 _ (List.mem_of_getElem? (i := 15) rfl)
theorem ml_X10_245 : Cond.methodLink RX10 245 yX8_letterAt ∈ wsL_law0 := gT_c40 _ (List.mem_of_getElem? (i := 16) rfl)
theorem ml_L_152 : Cond.methodLink RL 152 yX11_motifAt ∈ wsL_law0 := gT_c40 _ (List.mem_of_getElem? (i := 17) rfl)
theorem im_yX11_motifAt : Cond.instanceMethod yX11_motifAt ∈ wsL_law0 := gT_c40 _ (List.mem_of_getElem? (i := 18) rfl)
theorem se_yX11_motifAt_RX11 : Cond.selects RX11 yX11_motifAt yX11_motifAt ∈ wsL_law0 := gT_c40 _ (List.mem_of_getElem? (i := 19) rfl)
theorem cd_yX11_motifAt : Cond.code yX11_motifAt cX11_motifAt 3 (some .int) ∈ wsL_law0 := gT_c40 _ (List.mem_of_getElem? (i := 20) rfl)
theorem ml_L_153 : Cond.methodLink RL 153 yL_motifIn ∈ wsL_law0 := gT_c40 _ (List.mem_of_getElem? (i := 21) rfl)
theorem st_yL_motifIn : Cond.static yL_motifIn ∈ wsL_law0 := gT_c40 _ (List.mem_of_getElem? (i := 22) rfl)
theorem in_RL : Cond.initialized RL ∈ wsL_law0 := gT_c40 _ (List.mem_of_getElem? (i := 23) rfl)
theorem cl_L_13 : Cond.classLink RL 13 "java/util/NoSuchElementException" ∈ wsL_law0 := gT_c41 _ (List.mem_of_getElem? (i := 1) rfl)
theorem ml_L_7 : Cond.methodLink RL 7 yX10_motifIn ∈ wsL_law0 := gT_c41 _ (List.mem_of_getElem? (i := 2) rfl)
theorem im_yX10_motifIn : Cond.instanceMethod yX10_motifIn ∈ wsL_law0 := gT_c41 _ (List.mem_of_getElem? (i := 3) rfl)
theorem se_yX10_motifIn_RX10 : Cond.selects RX10 yX10_motifIn yX10_motifIn ∈ wsL_law0 := gT_c41 _ (List.mem_of_getElem? (i := 4) rfl)
theorem cd_yX10_motifIn : Cond.code yX10_motifIn cX10_motifIn 3 (some .int) ∈ wsL_law0 := gT_c41 _ (List.mem_of_getElem? (i := 5) rfl)
theorem cl_X10_250 : Cond.classLink RX10 250 "java/util/NoSuchElementException" ∈ wsL_law0 := gT_c41 _ (List.mem_of_getElem? (i := 6) rfl)
theorem in__java_util_NoSuchElementException_ : Cond.initialized "java/util/NoSuchElementException" ∈ wsL_law0 := gT_c41 _ (List.mem_of_getElem? (i := 7) rfl)
theorem ml_X10_249 : Cond.methodLink RX10 249 yX7_has ∈ wsL_law0 := gT_c41 _ (List.mem_of_getElem? (i := 8) rfl)
theorem im_yX7_has : Cond.instanceMethod yX7_has ∈ wsL_law0 := gT_c41 _ (List.mem_of_getElem? (i := 9) rfl)
theorem se_yX7_has_RX7 : Cond.selects RX7 yX7_has yX7_has ∈ wsL_law0 := gT_c41 _ (List.mem_of_getElem? (i := 10) rfl)
theorem cd_yX7_has : Cond.code yX7_has cX7_has 2 (some .boolean) ∈ wsL_law0 := gT_c41 _ (List.mem_of_getElem? (i := 11) rfl)
theorem ml_X10_259 : Cond.methodLink RX10 259 yX2_nearestPiece ∈ wsL_law0 := gT_c41 _ (List.mem_of_getElem? (i := 12) rfl)
theorem im_yX2_nearestPiece : Cond.instanceMethod yX2_nearestPiece ∈ wsL_law0 := gT_c41 _ (List.mem_of_getElem? (i := 13) rfl)
theorem se_yX2_nearestPiece_RX2 : Cond.selects RX2 yX2_nearestPiece yX2_nearestPiece ∈ wsL_law0 := gT_c41 _ (List.mem_of_getElem? (i := 14) rfl)
theorem cd_yX2_nearestPiece : Cond.code yX2_nearestPiece cX2_nearestPiece 7 (some .int) ∈ wsL_law0 := gT_c41 _ (List.mem_of_getElem? (i := 15) rfl)
theorem ml_X2_109 : Cond.methodLink RX2 109 yX8_letterAt ∈ wsL_law0 := gT_c41 _ (List.mem_of_getElem? (i := 16) rfl)
theorem ml_X2_112 : Cond.methodLink RX2 112 yX3_distance ∈ wsL_law0 := gT_c41 _ (List.mem_of_getElem? (i := 17) rfl)
theorem ml_L_158 : Cond.methodLink RL 158 yX11_motifIn ∈ wsL_law0 := gT_c41 _ (List.mem_of_getElem? (i := 18) rfl)
theorem im_yX11_motifIn : Cond.instanceMethod yX11_motifIn ∈ wsL_law0 := gT_c41 _ (List.mem_of_getElem? (i := 19) rfl)
theorem se_yX11_motifIn_RX11 : Cond.selects RX11 yX11_motifIn yX11_motifIn ∈ wsL_law0 := gT_c41 _ (List.mem_of_getElem? (i := 20) rfl)
theorem cd_yX11_motifIn : Cond.code yX11_motifIn cX11_motifIn 3 (some .int) ∈ wsL_law0 := gT_c41 _ (List.mem_of_getElem? (i := 21) rfl)
theorem ml_X11_223 : Cond.methodLink RX11 223 yX11_nearestPiece ∈ wsL_law0 := gT_c41 _ (List.mem_of_getElem? (i := 22) rfl)
theorem im_yX11_nearestPiece : Cond.instanceMethod yX11_nearestPiece ∈ wsL_law0 := gT_c41 _ (List.mem_of_getElem? (i := 23) rfl)
theorem se_yX11_nearestPiece_RX11 : Cond.selects RX11 yX11_nearestPiece yX11_nearestPiece ∈ wsL_law0 := gT_c42 _ (List.mem_of_getElem? (i := 0) rfl)
theorem cd_yX11_nearestPiece : Cond.code yX11_nearestPiece cX11_nearestPiece 5 (some .int) ∈ wsL_law0 := gT_c42 _ (List.mem_of_getElem? (i := 1) rfl)
theorem ml_L_159 : Cond.methodLink RL 159 yX11_thrown ∈ wsL_law0 := gT_c42 _ (List.mem_of_getElem? (i := 2) rfl)
theorem im_yX11_thrown : Cond.instanceMethod yX11_thrown ∈ wsL_law0 := gT_c42 _ (List.mem_of_getElem? (i := 3) rfl)
theorem se_yX11_thrown_RX11 : Cond.selects RX11 yX11_thrown yX11_thrown ∈ wsL_law0 := gT_c42 _ (List.mem_of_getElem? (i := 4) rfl)
theorem cd_yX11_thrown : Cond.code yX11_thrown cX11_thrown 1 (some .int) ∈ wsL_law0 := gT_c42 _ (List.mem_of_getElem? (i := 5) rfl)
theorem ml_L_162 : Cond.methodLink RL 162 yX10_of ∈ wsL_law0 := gT_c42 _ (List.mem_of_getElem? (i := 6) rfl)
theorem im_yX10_of : Cond.instanceMethod yX10_of ∈ wsL_law0 := gT_c42 _ (List.mem_of_getElem? (i := 7) rfl)
theorem se_yX10_of_RX10 : Cond.selects RX10 yX10_of yX10_of ∈ wsL_law0 := gT_c42 _ (List.mem_of_getElem? (i := 8) rfl)
theorem cd_yX10_of : Cond.code yX10_of cX10_of 3 (some .int) ∈ wsL_law0 := gT_c42 _ (List.mem_of_getElem? (i := 9) rfl)
theorem ml_L_165 : Cond.methodLink RL 165 yX11_of ∈ wsL_law0 := gT_c42 _ (List.mem_of_getElem? (i := 10) rfl)
theorem im_yX11_of : Cond.instanceMethod yX11_of ∈ wsL_law0 := gT_c42 _ (List.mem_of_getElem? (i := 11) rfl)
theorem se_yX11_of_RX11 : Cond.selects RX11 yX11_of yX11_of ∈ wsL_law0 := gT_c42 _ (List.mem_of_getElem? (i := 12) rfl)
theorem cd_yX11_of : Cond.code yX11_of cX11_of 3 (some .int) ∈ wsL_law0 := gT_c42 _ (List.mem_of_getElem? (i := 13) rfl)
theorem ml_L_166 : Cond.methodLink RL 166 yX10_count ∈ wsL_law0 := gT_c42 _ (List.mem_of_getElem? (i := 14) rfl)
theorem im_yX10_count : Cond.instanceMethod yX10_count ∈ wsL_law0 := gT_c42 _ (List.mem_of_getElem? (i := 15) rfl)
theorem se_yX10_count_RX10 : Cond.selects RX10 yX10_count yX10_count ∈ wsL_law0 := gT_c42 _ (List.mem_of_getElem? (i := 16) rfl)
theorem cd_yX10_count : Cond.code yX10_count cX10_count 2 (some .int) ∈ wsL_law0 := gT_c42 _ (List.mem_of_getElem? (i := 17) rfl)
theorem fl_X10_265 : Cond.fieldLink RX10 265 "NearWords$Texts" "lengths" "[I" ∈ wsL_law0 := gT_c42 _ (List.mem_of_getElem? (i := 18) rfl)
theorem ml_X10_262 : Cond.methodLink RX10 262 yX9_having ∈ wsL_law0 := gT_c42 _ (List.mem_of_getElem? (i := 19) rfl)
theorem ml_L_169 : Cond.methodLink RL 169 yX11_count ∈ wsL_law0 := gT_c42 _ (List.mem_of_getElem? (i := 20) rfl)
theorem im_yX11_count : Cond.instanceMethod yX11_count ∈ wsL_law0 := gT_c42 _ (List.mem_of_getElem? (i := 21) rfl)
theorem se_yX11_count_RX11 : Cond.selects RX11 yX11_count yX11_count ∈ wsL_law0 := gT_c42 _ (List.mem_of_getElem? (i := 22) rfl)
theorem cd_yX11_count : Cond.code yX11_count cX11_count 2 (some .int) ∈ wsL_law0 := gT_c42 _ (List.mem_of_getElem? (i := 23) rfl)
theorem gT_good : ∀ w ∈ wsL_law0, goodWord w = true := List.all_eq_true.mp (by decide +kernel)
end
section
theorem dX0_init_0 : decode cX0_init 0 = .ok (.aload_n 0, 1) := by decide +kernel
theorem dX0_init_1 : decode cX0_init 1 = .ok (.invokespecial 3, 3) := by decide +kernel
theorem dX0_init_4 : decode cX0_init 4 = .ok (.aload_n 0, 1) := by decide +kernel
theorem dX0_init_5 : decode cX0_init 5 = .ok (.iconst 0, 1) := by decide +kernel
theorem dX0_init_6 : decode cX0_init 6 = .ok (.putfield 9, 3) := by decide +kernel
theorem dX0_init_9 : decode cX0_init 9 = .ok (.aload_n 0, 1) := by decide +kernel
theorem dX0_init_10 : decode cX0_init 10 = .ok (.bipush 8, 2) := by decide +kernel
theorem dX0_init_12 : decode cX0_init 12 = .ok (.newarray .int, 2) := by decide +kernel
theorem dX0_init_14 : decode cX0_init 14 = .ok (.putfield 15, 3) := by decide +kernel
theorem dX0_init_17 : decode cX0_init 17 = .ok (.aload_n 0, 1) := by decide +kernel
theorem dX0_init_18 : decode cX0_init 18 = .ok (.bipush 7, 2) := by decide +kernel
theorem dX0_init_20 : decode cX0_init 20 = .ok (.newarray .int, 2) := by decide +kernel
theorem dX0_init_22 : decode cX0_init 22 = .ok (.putfield 19, 3) := by decide +kernel
theorem dX0_init_25 : decode cX0_init 25 = .ok (.aload_n 0, 1) := by decide +kernel
theorem dX0_init_26 : decode cX0_init 26 = .ok (.aload_n 1, 1) := by decide +kernel
theorem dX0_init_27 : decode cX0_init 27 = .ok (.putfield 22, 3) := by decide +kernel
theorem dX0_init_30 : decode cX0_init 30 = .ok (.aload_n 0, 1) := by decide +kernel
theorem dX0_init_31 : decode cX0_init 31 = .ok (.aload_n 2, 1) := by decide +kernel
theorem dX0_init_32 : decode cX0_init 32 = .ok (.putfield 26, 3) := by decide +kernel
theorem dX0_init_35 : decode cX0_init 35 = .ok (.aload_n 0, 1) := by decide +kernel
theorem dX0_init_36 : decode cX0_init 36 = .ok (.new 30, 3) := by decide +kernel
theorem dX0_init_39 : decode cX0_init 39 = .ok (.dup, 1) := by decide +kernel
theorem dX0_init_40 : decode cX0_init 40 = .ok (.aload_n 1, 1) := by decide +kernel
theorem dX0_init_41 : decode cX0_init 41 = .ok (.bipush 7, 2) := by decide +kernel
theorem dX0_init_43 : decode cX0_init 43 = .ok (.bipush 8, 2) := by decide +kernel
theorem dX0_init_45 : decode cX0_init 45 = .ok (.invokespecial 32, 3) := by decide +kernel
theorem dX0_init_48 : decode cX0_init 48 = .ok (.putfield 35, 3) := by decide +kernel
theorem dX0_init_51 : decode cX0_init 51 = .ok (.return_, 1) := by decide +kernel
theorem dX0_begin_0 : decode cX0_begin 0 = .ok (.aload_n 0, 1) := by decide +kernel
theorem dX0_begin_1 : decode cX0_begin 1 = .ok (.getfield 35, 3) := by decide +kernel
theorem dX0_begin_4 : decode cX0_begin 4 = .ok (.aload_n 0, 1) := by decide +kernel
theorem dX0_begin_5 : decode cX0_begin 5 = .ok (.getfield 26, 3) := by decide +kernel
theorem dX0_begin_8 : decode cX0_begin 8 = .ok (.getfield 39, 3) := by decide +kernel
theorem dX0_begin_11 : decode cX0_begin 11 = .ok (.invokevirtual 44, 3) := by decide +kernel
theorem dX0_begin_14 : decode cX0_begin 14 = .ok (.aload_n 0, 1) := by decide +kernel
theorem dX0_begin_15 : decode cX0_begin 15 = .ok (.iconst 1, 1) := by decide +kernel
theorem dX0_begin_16 : decode cX0_begin 16 = .ok (.invokevirtual 48, 3) := by decide +kernel
theorem dX0_begin_19 : decode cX0_begin 19 = .ok (.aload_n 0, 1) := by decide +kernel
theorem dX0_begin_20 : decode cX0_begin 20 = .ok (.aload_n 0, 1) := by decide +kernel
theorem dX0_begin_21 : decode cX0_begin 21 = .ok (.getfield 35, 3) := by decide +kernel
theorem dX0_begin_24 : decode cX0_begin 24 = .ok (.getfield 51, 3) := by decide +kernel
theorem dX0_begin_27 : decode cX0_begin 27 = .ok (.putfield 9, 3) := by decide +kernel
theorem dX0_begin_30 : decode cX0_begin 30 = .ok (.aload_n 0, 1) := by decide +kernel
theorem dX0_begin_31 : decode cX0_begin 31 = .ok (.getfield 22, 3) := by decide +kernel
theorem dX0_begin_34 : decode cX0_begin 34 = .ok (.getfield 54, 3) := by decide +kernel
theorem dX0_begin_37 : decode cX0_begin 37 = .ok (.ifCond .le 8, 3) := by decide +kernel
theorem dX0_begin_40 : decode cX0_begin 40 = .ok (.aload_n 0, 1) := by decide +kernel
theorem dX0_begin_41 : decode cX0_begin 41 = .ok (.iconst 2, 1) := by decide +kernel
theorem dX0_begin_42 : decode cX0_begin 42 = .ok (.invokevirtual 48, 3) := by decide +kernel
theorem dX0_begin_45 : decode cX0_begin 45 = .ok (.aload_n 0, 1) := by decide +kernel
theorem dX0_begin_46 : decode cX0_begin 46 = .ok (.getfield 22, 3) := by decide +kernel
theorem dX0_begin_49 : decode cX0_begin 49 = .ok (.aload_n 0, 1) := by decide +kernel
theorem dX0_begin_50 : decode cX0_begin 50 = .ok (.getfield 26, 3) := by decide +kernel
theorem dX0_begin_53 : decode cX0_begin 53 = .ok (.getfield 39, 3) := by decide +kernel
theorem dX0_begin_56 : decode cX0_begin 56 = .ok (.invokevirtual 59, 3) := by decide +kernel
theorem dX0_begin_59 : decode cX0_begin 59 = .ok (.ireturn, 1) := by decide +kernel
theorem dX0_aimAtAll_0 : decode cX0_aimAtAll 0 = .ok (.iconst 0, 1) := by decide +kernel
theorem dX0_aimAtAll_1 : decode cX0_aimAtAll 1 = .ok (.istore_n 2, 1) := by decide +kernel
theorem dX0_aimAtAll_2 : decode cX0_aimAtAll 2 = .ok (.iload_n 2, 1) := by decide +kernel
theorem dX0_aimAtAll_3 : decode cX0_aimAtAll 3 = .ok (.aload_n 0, 1) := by decide +kernel
theorem dX0_aimAtAll_4 : decode cX0_aimAtAll 4 = .ok (.getfield 26, 3) := by decide +kernel
theorem dX0_aimAtAll_7 : decode cX0_aimAtAll 7 = .ok (.getfield 63, 3) := by decide +kernel
theorem dX0_aimAtAll_10 : decode cX0_aimAtAll 10 = .ok (.if_icmp .ge 59, 3) := by decide +kernel
theorem dX0_aimAtAll_13 : decode cX0_aimAtAll 13 = .ok (.aload_n 0, 1) := by decide +kernel
theorem dX0_aimAtAll_14 : decode cX0_aimAtAll 14 = .ok (.getfield 26, 3) := by decide +kernel
theorem dX0_aimAtAll_17 : decode cX0_aimAtAll 17 = .ok (.getfield 66, 3) := by decide +kernel
theorem dX0_aimAtAll_20 : decode cX0_aimAtAll 20 = .ok (.iload_n 2, 1) := by decide +kernel
theorem dX0_aimAtAll_21 : decode cX0_aimAtAll 21 = .ok (.iaload, 1) := by decide +kernel
theorem dX0_aimAtAll_22 : decode cX0_aimAtAll 22 = .ok (.iload_n 1, 1) := by decide +kernel
theorem dX0_aimAtAll_23 : decode cX0_aimAtAll 23 = .ok (.if_icmp .ne 40, 3) := by decide +kernel
theorem dX0_aimAtAll_26 : decode cX0_aimAtAll 26 = .ok (.aload_n 0, 1) := by decide +kernel
theorem dX0_aimAtAll_27 : decode cX0_aimAtAll 27 = .ok (.getfield 15, 3) := by decide +kernel
theorem dX0_aimAtAll_30 : decode cX0_aimAtAll 30 = .ok (.aload_n 0, 1) := by decide +kernel
theorem dX0_aimAtAll_31 : decode cX0_aimAtAll 31 = .ok (.getfield 35, 3) := by decide +kernel
theorem dX0_aimAtAll_34 : decode cX0_aimAtAll 34 = .ok (.getfield 51, 3) := by decide +kernel
theorem dX0_aimAtAll_37 : decode cX0_aimAtAll 37 = .ok (.iconst 1, 1) := by decide +kernel
theorem dX0_aimAtAll_38 : decode cX0_aimAtAll 38 = .ok (.iload_n 2, 1) := by decide +kernel
theorem dX0_aimAtAll_39 : decode cX0_aimAtAll 39 = .ok (.ishl, 1) := by decide +kernel
theorem dX0_aimAtAll_40 : decode cX0_aimAtAll 40 = .ok (.iastore, 1) := by decide +kernel
theorem dX0_aimAtAll_41 : decode cX0_aimAtAll 41 = .ok (.aload_n 0, 1) := by decide +kernel
theorem dX0_aimAtAll_42 : decode cX0_aimAtAll 42 = .ok (.getfield 35, 3) := by decide +kernel
theorem dX0_aimAtAll_45 : decode cX0_aimAtAll 45 = .ok (.aload_n 0, 1) := by decide +kernel
theorem dX0_aimAtAll_46 : decode cX0_aimAtAll 46 = .ok (.getfield 26, 3) := by decide +kernel
theorem dX0_aimAtAll_49 : decode cX0_aimAtAll 49 = .ok (.getfield 69, 3) := by decide +kernel
theorem dX0_aimAtAll_52 : decode cX0_aimAtAll 52 = .ok (.aload_n 0, 1) := by decide +kernel
theorem dX0_aimAtAll_53 : decode cX0_aimAtAll 53 = .ok (.getfield 26, 3) := by decide +kernel
theorem dX0_aimAtAll_56 : decode cX0_aimAtAll 56 = .ok (.iload_n 2, 1) := by decide +kernel
theorem dX0_aimAtAll_57 : decode cX0_aimAtAll 57 = .ok (.invokevirtual 72, 3) := by decide +kernel
theorem dX0_aimAtAll_60 : decode cX0_aimAtAll 60 = .ok (.invokevirtual 75, 3) := by decide +kernel
theorem dX0_aimAtAll_63 : decode cX0_aimAtAll 63 = .ok (.iinc 2 1, 3) := by decide +kernel
theorem dX0_aimAtAll_66 : decode cX0_aimAtAll 66 = .ok (.goto (-64), 3) := by decide +kernel
theorem dX0_aimAtAll_69 : decode cX0_aimAtAll 69 = .ok (.return_, 1) := by decide +kernel
theorem dX0_isFarEnough_0 : decode cX0_isFarEnough 0 = .ok (.aload_n 0, 1) := by decide +kernel
theorem dX0_isFarEnough_1 : decode cX0_isFarEnough 1 = .ok (.getfield 35, 3) := by decide +kernel
theorem dX0_isFarEnough_4 : decode cX0_isFarEnough 4 = .ok (.invokevirtual 79, 3) := by decide +kernel
theorem dX0_isFarEnough_7 : decode cX0_isFarEnough 7 = .ok (.istore_n 1, 1) := by decide +kernel
theorem dX0_isFarEnough_8 : decode cX0_isFarEnough 8 = .ok (.aload_n 0, 1) := by decide +kernel
theorem dX0_isFarEnough_9 : decode cX0_isFarEnough 9 = .ok (.getfield 9, 3) := by decide +kernel
theorem dX0_isFarEnough_12 : decode cX0_isFarEnough 12 = .ok (.istore_n 2, 1) := by decide +kernel
theorem dX0_isFarEnough_13 : decode cX0_isFarEnough 13 = .ok (.iload_n 2, 1) := by decide +kernel
theorem dX0_isFarEnough_14 : decode cX0_isFarEnough 14 = .ok (.aload_n 0, 1) := by decide +kernel
theorem dX0_isFarEnough_15 : decode cX0_isFarEnough 15 = .ok (.getfield 35, 3) := by decide +kernel
theorem dX0_isFarEnough_18 : decode cX0_isFarEnough 18 = .ok (.getfield 51, 3) := by decide +kernel
theorem dX0_isFarEnough_21 : decode cX0_isFarEnough 21 = .ok (.if_icmp .ge 32, 3) := by decide +kernel
theorem dX0_isFarEnough_24 : decode cX0_isFarEnough 24 = .ok (.aload_n 0, 1) := by decide +kernel
theorem dX0_isFarEnough_25 : decode cX0_isFarEnough 25 = .ok (.getfield 35, 3) := by decide +kernel
theorem dX0_isFarEnough_28 : decode cX0_isFarEnough 28 = .ok (.getfield 83, 3) := by decide +kernel
theorem dX0_isFarEnough_31 : decode cX0_isFarEnough 31 = .ok (.iload_n 1, 1) := by decide +kernel
theorem dX0_isFarEnough_32 : decode cX0_isFarEnough 32 = .ok (.iload_n 2, 1) := by decide +kernel
theorem dX0_isFarEnough_33 : decode cX0_isFarEnough 33 = .ok (.iadd, 1) := by decide +kernel
theorem dX0_isFarEnough_34 : decode cX0_isFarEnough 34 = .ok (.iaload, 1) := by decide +kernel
theorem dX0_isFarEnough_35 : decode cX0_isFarEnough 35 = .ok (.aload_n 0, 1) := by decide +kernel
theorem dX0_isFarEnough_36 : decode cX0_isFarEnough 36 = .ok (.getfield 22, 3) := by decide +kernel
theorem dX0_isFarEnough_39 : decode cX0_isFarEnough 39 = .ok (.getfield 54, 3) := by decide +kernel
theorem dX0_isFarEnough_42 : decode cX0_isFarEnough 42 = .ok (.if_icmp .ge 5, 3) := by decide +kernel
theorem dX0_isFarEnough_45 : decode cX0_isFarEnough 45 = .ok (.iconst 0, 1) := by decide +kernel
theorem dX0_isFarEnough_46 : decode cX0_isFarEnough 46 = .ok (.ireturn, 1) := by decide +kernel
theorem dX0_isFarEnough_47 : decode cX0_isFarEnough 47 = .ok (.iinc 2 1, 3) := by decide +kernel
theorem dX0_isFarEnough_50 : decode cX0_isFarEnough 50 = .ok (.goto (-37), 3) := by decide +kernel
theorem dX0_isFarEnough_53 : decode cX0_isFarEnough 53 = .ok (.iconst 1, 1) := by decide +kernel
theorem dX0_isFarEnough_54 : decode cX0_isFarEnough 54 = .ok (.ireturn, 1) := by decide +kernel
theorem dX0_furtherThan_0 : decode cX0_furtherThan 0 = .ok (.iconst 0, 1) := by decide +kernel
theorem dX0_furtherThan_1 : decode cX0_furtherThan 1 = .ok (.istore_n 3, 1) := by decide +kernel
theorem dX0_furtherThan_2 : decode cX0_furtherThan 2 = .ok (.iload_n 3, 1) := by decide +kernel
theorem dX0_furtherThan_3 : decode cX0_furtherThan 3 = .ok (.aload_n 0, 1) := by decide +kernel
theorem dX0_furtherThan_4 : decode cX0_furtherThan 4 = .ok (.getfield 26, 3) := by decide +kernel
theorem dX0_furtherThan_7 : decode cX0_furtherThan 7 = .ok (.getfield 39, 3) := by decide +kernel
theorem dX0_furtherThan_10 : decode cX0_furtherThan 10 = .ok (.if_icmp .ge 27, 3) := by decide +kernel
theorem dX0_furtherThan_13 : decode cX0_furtherThan 13 = .ok (.aload_n 0, 1) := by decide +kernel
theorem dX0_furtherThan_14 : decode cX0_furtherThan 14 = .ok (.getfield 19, 3) := by decide +kernel
theorem dX0_furtherThan_17 : decode cX0_furtherThan 17 = .ok (.iload_n 3, 1) := by decide +kernel
theorem dX0_furtherThan_18 : decode cX0_furtherThan 18 = .ok (.iload_n 2, 1) := by decide +kernel
theorem dX0_furtherThan_19 : decode cX0_furtherThan 19 = .ok (.aload_n 0, 1) := by decide +kernel
theorem dX0_furtherThan_20 : decode cX0_furtherThan 20 = .ok (.getfield 26, 3) := by decide +kernel
theorem dX0_furtherThan_23 : decode cX0_furtherThan 23 = .ok (.getfield 39, 3) := by decide +kernel
theorem dX0_furtherThan_26 : decode cX0_furtherThan 26 = .ok (.iload_n 3, 1) := by decide +kernel
theorem dX0_furtherThan_27 : decode cX0_furtherThan 27 = .ok (.invokestatic 86, 3) := by decide +kernel
theorem dX0_furtherThan_30 : decode cX0_furtherThan 30 = .ok (.iastore, 1) := by decide +kernel
theorem dX0_furtherThan_31 : decode cX0_furtherThan 31 = .ok (.iinc 3 1, 3) := by decide +kernel
theorem dX0_furtherThan_34 : decode cX0_furtherThan 34 = .ok (.goto (-32), 3) := by decide +kernel
theorem dX0_furtherThan_37 : decode cX0_furtherThan 37 = .ok (.iconst 0, 1) := by decide +kernel
theorem dX0_furtherThan_38 : decode cX0_furtherThan 38 = .ok (.istore_n 3, 1) := by decide +kernel
theorem dX0_furtherThan_39 : decode cX0_furtherThan 39 = .ok (.iconst 0, 1) := by decide +kernel
theorem dX0_furtherThan_40 : decode cX0_furtherThan 40 = .ok (.istore 4, 2) := by decide +kernel
theorem dX0_furtherThan_42 : decode cX0_furtherThan 42 = .ok (.iload 4, 2) := by decide +kernel
theorem dX0_furtherThan_44 : decode cX0_furtherThan 44 = .ok (.aload_n 0, 1) := by decide +kernel
theorem dX0_furtherThan_45 : decode cX0_furtherThan 45 = .ok (.getfield 26, 3) := by decide +kernel
theorem dX0_furtherThan_48 : decode cX0_furtherThan 48 = .ok (.getfield 63, 3) := by decide +kernel
theorem dX0_furtherThan_51 : decode cX0_furtherThan 51 = .ok (.if_icmp .ge 69, 3) := by decide +kernel
theorem dX0_furtherThan_54 : decode cX0_furtherThan 54 = .ok (.aload_n 0, 1) := by decide +kernel
theorem dX0_furtherThan_55 : decode cX0_furtherThan 55 = .ok (.getfield 26, 3) := by decide +kernel
theorem dX0_furtherThan_58 : decode cX0_furtherThan 58 = .ok (.getfield 66, 3) := by decide +kernel
theorem dX0_furtherThan_61 : decode cX0_furtherThan 61 = .ok (.iload 4, 2) := by decide +kernel
theorem dX0_furtherThan_63 : decode cX0_furtherThan 63 = .ok (.iaload, 1) := by decide +kernel
theorem dX0_furtherThan_64 : decode cX0_furtherThan 64 = .ok (.iconst 1, 1) := by decide +kernel
theorem dX0_furtherThan_65 : decode cX0_furtherThan 65 = .ok (.if_icmp .ne 49, 3) := by decide +kernel
theorem dX0_furtherThan_68 : decode cX0_furtherThan 68 = .ok (.aload_n 0, 1) := by decide +kernel
theorem dX0_furtherThan_69 : decode cX0_furtherThan 69 = .ok (.getfield 22, 3) := by decide +kernel
theorem dX0_furtherThan_72 : decode cX0_furtherThan 72 = .ok (.aload_n 0, 1) := by decide +kernel
theorem dX0_furtherThan_73 : decode cX0_furtherThan 73 = .ok (.getfield 19, 3) := by decide +kernel
theorem dX0_furtherThan_76 : decode cX0_furtherThan 76 = .ok (.iconst 0, 1) := by decide +kernel
theorem dX0_furtherThan_77 : decode cX0_furtherThan 77 = .ok (.aload_n 0, 1) := by decide +kernel
theorem dX0_furtherThan_78 : decode cX0_furtherThan 78 = .ok (.getfield 26, 3) := by decide +kernel
theorem dX0_furtherThan_81 : decode cX0_furtherThan 81 = .ok (.getfield 69, 3) := by decide +kernel
theorem dX0_furtherThan_84 : decode cX0_furtherThan 84 = .ok (.aload_n 0, 1) := by decide +kernel
theorem dX0_furtherThan_85 : decode cX0_furtherThan 85 = .ok (.getfield 26, 3) := by decide +kernel
theorem dX0_furtherThan_88 : decode cX0_furtherThan 88 = .ok (.iload 4, 2) := by decide +kernel
theorem dX0_furtherThan_90 : decode cX0_furtherThan 90 = .ok (.invokevirtual 72, 3) := by decide +kernel
theorem dX0_furtherThan_93 : decode cX0_furtherThan 93 = .ok (.aload_n 0, 1) := by decide +kernel
theorem dX0_furtherThan_94 : decode cX0_furtherThan 94 = .ok (.getfield 26, 3) := by decide +kernel
theorem dX0_furtherThan_97 : decode cX0_furtherThan 97 = .ok (.getfield 39, 3) := by decide +kernel
theorem dX0_furtherThan_100 : decode cX0_furtherThan 100 = .ok (.invokevirtual 90, 3) := by decide +kernel
theorem dX0_furtherThan_103 : decode cX0_furtherThan 103 = .ok (.iload_n 1, 1) := by decide +kernel
theorem dX0_furtherThan_104 : decode cX0_furtherThan 104 = .ok (.if_icmp .le 10, 3) := by decide +kernel
theorem dX0_furtherThan_107 : decode cX0_furtherThan 107 = .ok (.iload_n 3, 1) := by decide +kernel
theorem dX0_furtherThan_108 : decode cX0_furtherThan 108 = .ok (.iconst 1, 1) := by decide +kernel
theorem dX0_furtherThan_109 : decode cX0_furtherThan 109 = .ok (.iload 4, 2) := by decide +kernel
theorem dX0_furtherThan_111 : decode cX0_furtherThan 111 = .ok (.ishl, 1) := by decide +kernel
theorem dX0_furtherThan_112 : decode cX0_furtherThan 112 = .ok (.ior, 1) := by decide +kernel
theorem dX0_furtherThan_113 : decode cX0_furtherThan 113 = .ok (.istore_n 3, 1) := by decide +kernel
theorem dX0_furtherThan_114 : decode cX0_furtherThan 114 = .ok (.iinc 4 1, 3) := by decide +kernel
theorem dX0_furtherThan_117 : decode cX0_furtherThan 117 = .ok (.goto (-75), 3) := by decide +kernel
theorem dX0_furtherThan_120 : decode cX0_furtherThan 120 = .ok (.iload_n 3, 1) := by decide +kernel
theorem dX0_furtherThan_121 : decode cX0_furtherThan 121 = .ok (.ireturn, 1) := by decide +kernel
theorem dX1_init_0 : decode cX1_init 0 = .ok (.aload_n 0, 1) := by decide +kernel
theorem dX1_init_1 : decode cX1_init 1 = .ok (.invokespecial 5, 3) := by decide +kernel
theorem dX1_init_4 : decode cX1_init 4 = .ok (.aload_n 0, 1) := by decide +kernel
theorem dX1_init_5 : decode cX1_init 5 = .ok (.iconst 0, 1) := by decide +kernel
theorem dX1_init_6 : decode cX1_init 6 = .ok (.putfield 11, 3) := by decide +kernel
theorem dX1_init_9 : decode cX1_init 9 = .ok (.aload_n 0, 1) := by decide +kernel
theorem dX1_init_10 : decode cX1_init 10 = .ok (.iconst (-1), 1) := by decide +kernel
theorem dX1_init_11 : decode cX1_init 11 = .ok (.putfield 15, 3) := by decide +kernel
theorem dX1_init_14 : decode cX1_init 14 = .ok (.aload_n 0, 1) := by decide +kernel
theorem dX1_init_15 : decode cX1_init 15 = .ok (.iconst 0, 1) := by decide +kernel
theorem dX1_init_16 : decode cX1_init 16 = .ok (.putfield 19, 3) := by decide +kernel
theorem dX1_init_19 : decode cX1_init 19 = .ok (.aload_n 0, 1) := by decide +kernel
theorem dX1_init_20 : decode cX1_init 20 = .ok (.bipush 8, 2) := by decide +kernel
theorem dX1_init_22 : decode cX1_init 22 = .ok (.newarray .int, 2) := by decide +kernel
theorem dX1_init_24 : decode cX1_init 24 = .ok (.putfield 22, 3) := by decide +kernel
theorem dX1_init_27 : decode cX1_init 27 = .ok (.aload_n 0, 1) := by decide +kernel
theorem dX1_init_28 : decode cX1_init 28 = .ok (.bipush 8, 2) := by decide +kernel
theorem dX1_init_30 : decode cX1_init 30 = .ok (.newarray .int, 2) := by decide +kernel
theorem dX1_init_32 : decode cX1_init 32 = .ok (.putfield 26, 3) := by decide +kernel
theorem dX1_init_35 : decode cX1_init 35 = .ok (.aload_n 0, 1) := by decide +kernel
theorem dX1_init_36 : decode cX1_init 36 = .ok (.sipush 576, 3) := by decide +kernel
theorem dX1_init_39 : decode cX1_init 39 = .ok (.newarray .int, 2) := by decide +kernel
theorem dX1_init_41 : decode cX1_init 41 = .ok (.putfield 29, 3) := by decide +kernel
theorem dX1_init_44 : decode cX1_init 44 = .ok (.aload_n 0, 1) := by decide +kernel
theorem dX1_init_45 : decode cX1_init 45 = .ok (.aload_n 1, 1) := by decide +kernel
theorem dX1_init_46 : decode cX1_init 46 = .ok (.putfield 32, 3) := by decide +kernel
theorem dX1_init_49 : decode cX1_init 49 = .ok (.aload_n 0, 1) := by decide +kernel
theorem dX1_init_50 : decode cX1_init 50 = .ok (.aload_n 2, 1) := by decide +kernel
theorem dX1_init_51 : decode cX1_init 51 = .ok (.putfield 36, 3) := by decide +kernel
theorem dX1_init_54 : decode cX1_init 54 = .ok (.return_, 1) := by decide +kernel
theorem dX1_editing_0 : decode cX1_editing 0 = .ok (.aload_n 0, 1) := by decide +kernel
theorem dX1_editing_1 : decode cX1_editing 1 = .ok (.iload 4, 2) := by decide +kernel
theorem dX1_editing_3 : decode cX1_editing 3 = .ok (.invokevirtual 40, 3) := by decide +kernel
theorem dX1_editing_6 : decode cX1_editing 6 = .ok (.iconst 0, 1) := by decide +kernel
theorem dX1_editing_7 : decode cX1_editing 7 = .ok (.istore 5, 2) := by decide +kernel
theorem dX1_editing_9 : decode cX1_editing 9 = .ok (.iload 5, 2) := by decide +kernel
theorem dX1_editing_11 : decode cX1_editing 11 = .ok (.iload_n 3, 1) := by decide +kernel
theorem dX1_editing_12 : decode cX1_editing 12 = .ok (.if_icmp .ge 23, 3) := by decide +kernel
theorem dX1_editing_15 : decode cX1_editing 15 = .ok (.aload_n 0, 1) := by decide +kernel
theorem dX1_editing_16 : decode cX1_editing 16 = .ok (.iload 5, 2) := by decide +kernel
theorem dX1_editing_18 : decode cX1_editing 18 = .ok (.aload_n 1, 1) := by decide +kernel
theorem dX1_editing_19 : decode cX1_editing 19 = .ok (.iload_n 2, 1) := by decide +kernel
theorem dX1_editing_20 : decode cX1_editing 20 = .ok (.iload 5, 2) := by decide +kernel
theorem dX1_editing_22 : decode cX1_editing 22 = .ok (.iadd, 1) := by decide +kernel
theorem dX1_editing_23 : decode cX1_editing 23 = .ok (.iaload, 1) := by decide +kernel
theorem dX1_editing_24 : decode cX1_editing 24 = .ok (.iload 4, 2) := by decide +kernel
theorem dX1_editing_26 : decode cX1_editing 26 = .ok (.invokevirtual 44, 3) := by decide +kernel
theorem dX1_editing_29 : decode cX1_editing 29 = .ok (.iinc 5 1, 3) := by decide +kernel
theorem dX1_editing_32 : decode cX1_editing 32 = .ok (.goto (-23), 3) := by decide +kernel
theorem dX1_editing_35 : decode cX1_editing 35 = .ok (.aload_n 0, 1) := by decide +kernel
theorem dX1_editing_36 : decode cX1_editing 36 = .ok (.getfield 29, 3) := by decide +kernel
theorem dX1_editing_39 : decode cX1_editing 39 = .ok (.iload_n 3, 1) := by decide +kernel
theorem dX1_editing_40 : decode cX1_editing 40 = .ok (.bipush 64, 2) := by decide +kernel
theorem dX1_editing_42 : decode cX1_editing 42 = .ok (.imul, 1) := by decide +kernel
theorem dX1_editing_43 : decode cX1_editing 43 = .ok (.iload 4, 2) := by decide +kernel
theorem dX1_editing_45 : decode cX1_editing 45 = .ok (.bipush 8, 2) := by decide +kernel
theorem dX1_editing_47 : decode cX1_editing 47 = .ok (.imul, 1) := by decide +kernel
theorem dX1_editing_48 : decode cX1_editing 48 = .ok (.iadd, 1) := by decide +kernel
theorem dX1_editing_49 : decode cX1_editing 49 = .ok (.aload_n 0, 1) := by decide +kernel
theorem dX1_editing_50 : decode cX1_editing 50 = .ok (.getfield 36, 3) := by decide +kernel
theorem dX1_editing_53 : decode cX1_editing 53 = .ok (.getfield 48, 3) := by decide +kernel
theorem dX1_editing_56 : decode cX1_editing 56 = .ok (.iadd, 1) := by decide +kernel
theorem dX1_editing_57 : decode cX1_editing 57 = .ok (.iaload, 1) := by decide +kernel
theorem dX1_editing_58 : decode cX1_editing 58 = .ok (.ireturn, 1) := by decide +kernel
theorem dX1_firstLine_0 : decode cX1_firstLine 0 = .ok (.iconst 0, 1) := by decide +kernel
theorem dX1_firstLine_1 : decode cX1_firstLine 1 = .ok (.istore_n 2, 1) := by decide +kernel
theorem dX1_firstLine_2 : decode cX1_firstLine 2 = .ok (.iload_n 2, 1) := by decide +kernel
theorem dX1_firstLine_3 : decode cX1_firstLine 3 = .ok (.aload_n 0, 1) := by decide +kernel
theorem dX1_firstLine_4 : decode cX1_firstLine 4 = .ok (.getfield 36, 3) := by decide +kernel
theorem dX1_firstLine_7 : decode cX1_firstLine 7 = .ok (.getfield 48, 3) := by decide +kernel
theorem dX1_firstLine_10 : decode cX1_firstLine 10 = .ok (.if_icmp .gt 29, 3) := by decide +kernel
theorem dX1_firstLine_13 : decode cX1_firstLine 13 = .ok (.aload_n 0, 1) := by decide +kernel
theorem dX1_firstLine_14 : decode cX1_firstLine 14 = .ok (.getfield 29, 3) := by decide +kernel
theorem dX1_firstLine_17 : decode cX1_firstLine 17 = .ok (.iload_n 1, 1) := by decide +kernel
theorem dX1_firstLine_18 : decode cX1_firstLine 18 = .ok (.bipush 8, 2) := by decide +kernel
theorem dX1_firstLine_20 : decode cX1_firstLine 20 = .ok (.imul, 1) := by decide +kernel
theorem dX1_firstLine_21 : decode cX1_firstLine 21 = .ok (.iload_n 2, 1) := by decide +kernel
theorem dX1_firstLine_22 : decode cX1_firstLine 22 = .ok (.iadd, 1) := by decide +kernel
theorem dX1_firstLine_23 : decode cX1_firstLine 23 = .ok (.iload_n 2, 1) := by decide +kernel
theorem dX1_firstLine_24 : decode cX1_firstLine 24 = .ok (.aload_n 0, 1) := by decide +kernel
theorem dX1_firstLine_25 : decode cX1_firstLine 25 = .ok (.getfield 32, 3) := by decide +kernel
theorem dX1_firstLine_28 : decode cX1_firstLine 28 = .ok (.getfield 51, 3) := by decide +kernel
theorem dX1_firstLine_31 : decode cX1_firstLine 31 = .ok (.imul, 1) := by decide +kernel
theorem dX1_firstLine_32 : decode cX1_firstLine 32 = .ok (.iastore, 1) := by decide +kernel
theorem dX1_firstLine_33 : decode cX1_firstLine 33 = .ok (.iinc 2 1, 3) := by decide +kernel
theorem dX1_firstLine_36 : decode cX1_firstLine 36 = .ok (.goto (-34), 3) := by decide +kernel
theorem dX1_firstLine_39 : decode cX1_firstLine 39 = .ok (.return_, 1) := by decide +kernel
theorem dX1_nextLine_0 : decode cX1_nextLine 0 = .ok (.iload_n 1, 1) := by decide +kernel
theorem dX1_nextLine_1 : decode cX1_nextLine 1 = .ok (.bipush 64, 2) := by decide +kernel
theorem dX1_nextLine_3 : decode cX1_nextLine 3 = .ok (.imul, 1) := by decide +kernel
theorem dX1_nextLine_4 : decode cX1_nextLine 4 = .ok (.iload_n 3, 1) := by decide +kernel
theorem dX1_nextLine_5 : decode cX1_nextLine 5 = .ok (.bipush 8, 2) := by decide +kernel
theorem dX1_nextLine_7 : decode cX1_nextLine 7 = .ok (.imul, 1) := by decide +kernel
theorem dX1_nextLine_8 : decode cX1_nextLine 8 = .ok (.iadd, 1) := by decide +kernel
theorem dX1_nextLine_9 : decode cX1_nextLine 9 = .ok (.istore 4, 2) := by decide +kernel
theorem dX1_nextLine_11 : decode cX1_nextLine 11 = .ok (.iload 4, 2) := by decide +kernel
theorem dX1_nextLine_13 : decode cX1_nextLine 13 = .ok (.bipush 64, 2) := by decide +kernel
theorem dX1_nextLine_15 : decode cX1_nextLine 15 = .ok (.iadd, 1) := by decide +kernel
theorem dX1_nextLine_16 : decode cX1_nextLine 16 = .ok (.istore 5, 2) := by decide +kernel
theorem dX1_nextLine_18 : decode cX1_nextLine 18 = .ok (.aload_n 0, 1) := by decide +kernel
theorem dX1_nextLine_19 : decode cX1_nextLine 19 = .ok (.getfield 36, 3) := by decide +kernel
theorem dX1_nextLine_22 : decode cX1_nextLine 22 = .ok (.iload_n 3, 1) := by decide +kernel
theorem dX1_nextLine_23 : decode cX1_nextLine 23 = .ok (.invokevirtual 56, 3) := by decide +kernel
theorem dX1_nextLine_26 : decode cX1_nextLine 26 = .ok (.istore 6, 2) := by decide +kernel
theorem dX1_nextLine_28 : decode cX1_nextLine 28 = .ok (.iload_n 2, 1) := by decide +kernel
theorem dX1_nextLine_29 : decode cX1_nextLine 29 = .ok (.iconst 4, 1) := by decide +kernel
theorem dX1_nextLine_30 : decode cX1_nextLine 30 = .ok (.imul, 1) := by decide +kernel
theorem dX1_nextLine_31 : decode cX1_nextLine 31 = .ok (.istore 7, 2) := by decide +kernel
theorem dX1_nextLine_33 : decode cX1_nextLine 33 = .ok (.aload_n 0, 1) := by decide +kernel
theorem dX1_nextLine_34 : decode cX1_nextLine 34 = .ok (.getfield 32, 3) := by decide +kernel
theorem dX1_nextLine_37 : decode cX1_nextLine 37 = .ok (.getfield 60, 3) := by decide +kernel
theorem dX1_nextLine_40 : decode cX1_nextLine 40 = .ok (.astore 8, 2) := by decide +kernel
theorem dX1_nextLine_42 : decode cX1_nextLine 42 = .ok (.aload_n 0, 1) := by decide +kernel
theorem dX1_nextLine_43 : decode cX1_nextLine 43 = .ok (.getfield 36, 3) := by decide +kernel
theorem dX1_nextLine_46 : decode cX1_nextLine 46 = .ok (.getfield 63, 3) := by decide +kernel
theorem dX1_nextLine_49 : decode cX1_nextLine 49 = .ok (.astore 9, 2) := by decide +kernel
theorem dX1_nextLine_51 : decode cX1_nextLine 51 = .ok (.aload_n 0, 1) := by decide +kernel
theorem dX1_nextLine_52 : decode cX1_nextLine 52 = .ok (.getfield 32, 3) := by decide +kernel
theorem dX1_nextLine_55 : decode cX1_nextLine 55 = .ok (.getfield 51, 3) := by decide +kernel
theorem dX1_nextLine_58 : decode cX1_nextLine 58 = .ok (.istore 10, 2) := by decide +kernel
theorem dX1_nextLine_60 : decode cX1_nextLine 60 = .ok (.aload_n 0, 1) := by decide +kernel
theorem dX1_nextLine_61 : decode cX1_nextLine 61 = .ok (.getfield 29, 3) := by decide +kernel
theorem dX1_nextLine_64 : decode cX1_nextLine 64 = .ok (.iload 4, 2) := by decide +kernel
theorem dX1_nextLine_66 : decode cX1_nextLine 66 = .ok (.iaload, 1) := by decide +kernel
theorem dX1_nextLine_67 : decode cX1_nextLine 67 = .ok (.istore 11, 2) := by decide +kernel
theorem dX1_nextLine_69 : decode cX1_nextLine 69 = .ok (.iload 11, 2) := by decide +kernel
theorem dX1_nextLine_71 : decode cX1_nextLine 71 = .ok (.iload 10, 2) := by decide +kernel
theorem dX1_nextLine_73 : decode cX1_nextLine 73 = .ok (.iadd, 1) := by decide +kernel
theorem dX1_nextLine_74 : decode cX1_nextLine 74 = .ok (.istore 12, 2) := by decide +kernel
theorem dX1_nextLine_76 : decode cX1_nextLine 76 = .ok (.aload_n 0, 1) := by decide +kernel
theorem dX1_nextLine_77 : decode cX1_nextLine 77 = .ok (.getfield 29, 3) := by decide +kernel
theorem dX1_nextLine_80 : decode cX1_nextLine 80 = .ok (.iload 5, 2) := by decide +kernel
theorem dX1_nextLine_82 : decode cX1_nextLine 82 = .ok (.iload 12, 2) := by decide +kernel
theorem dX1_nextLine_84 : decode cX1_nextLine 84 = .ok (.iastore, 1) := by decide +kernel
theorem dX1_nextLine_85 : decode cX1_nextLine 85 = .ok (.iconst 0, 1) := by decide +kernel
theorem dX1_nextLine_86 : decode cX1_nextLine 86 = .ok (.istore 13, 2) := by decide +kernel
theorem dX1_nextLine_88 : decode cX1_nextLine 88 = .ok (.iload 13, 2) := by decide +kernel
theorem dX1_nextLine_90 : decode cX1_nextLine 90 = .ok (.aload_n 0, 1) := by decide +kernel
theorem dX1_nextLine_91 : decode cX1_nextLine 91 = .ok (.getfield 36, 3) := by decide +kernel
theorem dX1_nextLine_94 : decode cX1_nextLine 94 = .ok (.getfield 48, 3) := by decide +kernel
theorem dX1_nextLine_97 : decode cX1_nextLine 97 = .ok (.if_icmp .ge 86, 3) := by decide +kernel
theorem dX1_nextLine_100 : decode cX1_nextLine 100 = .ok (.iload 11, 2) := by decide +kernel
theorem dX1_nextLine_102 : decode cX1_nextLine 102 = .ok (.aload 8, 2) := by decide +kernel
theorem dX1_nextLine_104 : decode cX1_nextLine 104 = .ok (.iload 7, 2) := by decide +kernel
theorem dX1_nextLine_106 : decode cX1_nextLine 106 = .ok (.aload 9, 2) := by decide +kernel
theorem dX1_nextLine_108 : decode cX1_nextLine 108 = .ok (.iload 6, 2) := by decide +kernel
theorem dX1_nextLine_110 : decode cX1_nextLine 110 = .ok (.iload 13, 2) := by decide +kernel
theorem dX1_nextLine_112 : decode cX1_nextLine 112 = .ok (.iadd, 1) := by decide +kernel
theorem dX1_nextLine_113 : decode cX1_nextLine 113 = .ok (.iaload, 1) := by decide +kernel
theorem dX1_nextLine_114 : decode cX1_nextLine 114 = .ok (.iadd, 1) := by decide +kernel
theorem dX1_nextLine_115 : decode cX1_nextLine 115 = .ok (.iaload, 1) := by decide +kernel
theorem dX1_nextLine_116 : decode cX1_nextLine 116 = .ok (.iadd, 1) := by decide +kernel
theorem dX1_nextLine_117 : decode cX1_nextLine 117 = .ok (.istore 14, 2) := by decide +kernel
theorem dX1_nextLine_119 : decode cX1_nextLine 119 = .ok (.aload_n 0, 1) := by decide +kernel
theorem dX1_nextLine_120 : decode cX1_nextLine 120 = .ok (.getfield 29, 3) := by decide +kernel
theorem dX1_nextLine_123 : decode cX1_nextLine 123 = .ok (.iload 4, 2) := by decide +kernel
theorem dX1_nextLine_125 : decode cX1_nextLine 125 = .ok (.iload 13, 2) := by decide +kernel
theorem dX1_nextLine_127 : decode cX1_nextLine 127 = .ok (.iadd, 1) := by decide +kernel
theorem dX1_nextLine_128 : decode cX1_nextLine 128 = .ok (.iconst 1, 1) := by decide +kernel
theorem dX1_nextLine_129 : decode cX1_nextLine 129 = .ok (.iadd, 1) := by decide +kernel
theorem dX1_nextLine_130 : decode cX1_nextLine 130 = .ok (.iaload, 1) := by decide +kernel
theorem dX1_nextLine_131 : decode cX1_nextLine 131 = .ok (.istore 11, 2) := by decide +kernel
theorem dX1_nextLine_133 : decode cX1_nextLine 133 = .ok (.iload 11, 2) := by decide +kernel
theorem dX1_nextLine_135 : decode cX1_nextLine 135 = .ok (.iload 12, 2) := by decide +kernel
theorem dX1_nextLine_137 : decode cX1_nextLine 137 = .ok (.if_icmp .ge 8, 3) := by decide +kernel
theorem dX1_nextLine_140 : decode cX1_nextLine 140 = .ok (.iload 11, 2) := by decide +kernel
theorem dX1_nextLine_142 : decode cX1_nextLine 142 = .ok (.goto 5, 3) := by decide +kernel
theorem dX1_nextLine_145 : decode cX1_nextLine 145 = .ok (.iload 12, 2) := by decide +kernel
theorem dX1_nextLine_147 : decode cX1_nextLine 147 = .ok (.iload 10, 2) := by decide +kernel
theorem dX1_nextLine_149 : decode cX1_nextLine 149 = .ok (.iadd, 1) := by decide +kernel
theorem dX1_nextLine_150 : decode cX1_nextLine 150 = .ok (.istore 12, 2) := by decide +kernel
theorem dX1_nextLine_152 : decode cX1_nextLine 152 = .ok (.iload 14, 2) := by decide +kernel
theorem dX1_nextLine_154 : decode cX1_nextLine 154 = .ok (.iload 12, 2) := by decide +kernel
theorem dX1_nextLine_156 : decode cX1_nextLine 156 = .ok (.if_icmp .ge 7, 3) := by decide +kernel
theorem dX1_nextLine_159 : decode cX1_nextLine 159 = .ok (.iload 14, 2) := by decide +kernel
theorem dX1_nextLine_161 : decode cX1_nextLine 161 = .ok (.istore 12, 2) := by decide +kernel
theorem dX1_nextLine_163 : decode cX1_nextLine 163 = .ok (.aload_n 0, 1) := by decide +kernel
theorem dX1_nextLine_164 : decode cX1_nextLine 164 = .ok (.getfield 29, 3) := by decide +kernel
theorem dX1_nextLine_167 : decode cX1_nextLine 167 = .ok (.iload 5, 2) := by decide +kernel
theorem dX1_nextLine_169 : decode cX1_nextLine 169 = .ok (.iload 13, 2) := by decide +kernel
theorem dX1_nextLine_171 : decode cX1_nextLine 171 = .ok (.iadd, 1) := by decide +kernel
theorem dX1_nextLine_172 : decode cX1_nextLine 172 = .ok (.iconst 1, 1) := by decide +kernel
theorem dX1_nextLine_173 : decode cX1_nextLine 173 = .ok (.iadd, 1) := by decide +kernel
theorem dX1_nextLine_174 : decode cX1_nextLine 174 = .ok (.iload 12, 2) := by decide +kernel
theorem dX1_nextLine_176 : decode cX1_nextLine 176 = .ok (.iastore, 1) := by decide +kernel
theorem dX1_nextLine_177 : decode cX1_nextLine 177 = .ok (.iinc 13 1, 3) := by decide +kernel
theorem dX1_nextLine_180 : decode cX1_nextLine 180 = .ok (.goto (-92), 3) := by decide +kernel
theorem dX1_nextLine_183 : decode cX1_nextLine 183 = .ok (.return_, 1) := by decide +kernel
theorem dX1_refresh_0 : decode cX1_refresh 0 = .ok (.aload_n 0, 1) := by decide +kernel
theorem dX1_refresh_1 : decode cX1_refresh 1 = .ok (.getfield 11, 3) := by decide +kernel
theorem dX1_refresh_4 : decode cX1_refresh 4 = .ok (.ifCond .eq 4, 3) := by decide +kernel
theorem dX1_refresh_7 : decode cX1_refresh 7 = .ok (.return_, 1) := by decide +kernel
theorem dX1_refresh_8 : decode cX1_refresh 8 = .ok (.aload_n 0, 1) := by decide +kernel
theorem dX1_refresh_9 : decode cX1_refresh 9 = .ok (.iconst 1, 1) := by decide +kernel
theorem dX1_refresh_10 : decode cX1_refresh 10 = .ok (.putfield 11, 3) := by decide +kernel
theorem dX1_refresh_13 : decode cX1_refresh 13 = .ok (.aload_n 0, 1) := by decide +kernel
theorem dX1_refresh_14 : decode cX1_refresh 14 = .ok (.iconst (-1), 1) := by decide +kernel
theorem dX1_refresh_15 : decode cX1_refresh 15 = .ok (.putfield 15, 3) := by decide +kernel
theorem dX1_refresh_18 : decode cX1_refresh 18 = .ok (.aload_n 0, 1) := by decide +kernel
theorem dX1_refresh_19 : decode cX1_refresh 19 = .ok (.getfield 36, 3) := by decide +kernel
theorem dX1_refresh_22 : decode cX1_refresh 22 = .ok (.invokevirtual 66, 3) := by decide +kernel
theorem dX1_refresh_25 : decode cX1_refresh 25 = .ok (.ifCond .eq 56, 3) := by decide +kernel
theorem dX1_refresh_28 : decode cX1_refresh 28 = .ok (.aload_n 0, 1) := by decide +kernel
theorem dX1_refresh_29 : decode cX1_refresh 29 = .ok (.aload_n 0, 1) := by decide +kernel
theorem dX1_refresh_30 : decode cX1_refresh 30 = .ok (.invokevirtual 70, 3) := by decide +kernel
theorem dX1_refresh_33 : decode cX1_refresh 33 = .ok (.iconst 1, 1) := by decide +kernel
theorem dX1_refresh_34 : decode cX1_refresh 34 = .ok (.iadd, 1) := by decide +kernel
theorem dX1_refresh_35 : decode cX1_refresh 35 = .ok (.putfield 15, 3) := by decide +kernel
theorem dX1_refresh_38 : decode cX1_refresh 38 = .ok (.iconst 0, 1) := by decide +kernel
theorem dX1_refresh_39 : decode cX1_refresh 39 = .ok (.istore_n 1, 1) := by decide +kernel
theorem dX1_refresh_40 : decode cX1_refresh 40 = .ok (.iload_n 1, 1) := by decide +kernel
theorem dX1_refresh_41 : decode cX1_refresh 41 = .ok (.aload_n 0, 1) := by decide +kernel
theorem dX1_refresh_42 : decode cX1_refresh 42 = .ok (.getfield 36, 3) := by decide +kernel
theorem dX1_refresh_45 : decode cX1_refresh 45 = .ok (.getfield 74, 3) := by decide +kernel
theorem dX1_refresh_48 : decode cX1_refresh 48 = .ok (.if_icmp .ge 14, 3) := by decide +kernel
theorem dX1_refresh_51 : decode cX1_refresh 51 = .ok (.aload_n 0, 1) := by decide +kernel
theorem dX1_refresh_52 : decode cX1_refresh 52 = .ok (.iload_n 1, 1) := by decide +kernel
theorem dX1_refresh_53 : decode cX1_refresh 53 = .ok (.invokevirtual 40, 3) := by decide +kernel
theorem dX1_refresh_56 : decode cX1_refresh 56 = .ok (.iinc 1 1, 3) := by decide +kernel
theorem dX1_refresh_59 : decode cX1_refresh 59 = .ok (.goto (-19), 3) := by decide +kernel
theorem dX1_refresh_62 : decode cX1_refresh 62 = .ok (.iconst 1, 1) := by decide +kernel
theorem dX1_refresh_63 : decode cX1_refresh 63 = .ok (.istore_n 1, 1) := by decide +kernel
theorem dX1_refresh_64 : decode cX1_refresh 64 = .ok (.iload_n 1, 1) := by decide +kernel
theorem dX1_refresh_65 : decode cX1_refresh 65 = .ok (.bipush 8, 2) := by decide +kernel
theorem dX1_refresh_67 : decode cX1_refresh 67 = .ok (.if_icmp .gt 14, 3) := by decide +kernel
theorem dX1_refresh_70 : decode cX1_refresh 70 = .ok (.aload_n 0, 1) := by decide +kernel
theorem dX1_refresh_71 : decode cX1_refresh 71 = .ok (.iload_n 1, 1) := by decide +kernel
theorem dX1_refresh_72 : decode cX1_refresh 72 = .ok (.invokevirtual 77, 3) := by decide +kernel
theorem dX1_refresh_75 : decode cX1_refresh 75 = .ok (.iinc 1 1, 3) := by decide +kernel
theorem dX1_refresh_78 : decode cX1_refresh 78 = .ok (.goto (-14), 3) := by decide +kernel
theorem dX1_refresh_81 : decode cX1_refresh 81 = .ok (.return_, 1) := by decide +kernel
theorem dX1_leastOfNear_0 : decode cX1_leastOfNear 0 = .ok (.ldc 80, 2) := by decide +kernel
theorem dX1_leastOfNear_2 : decode cX1_leastOfNear 2 = .ok (.istore_n 1, 1) := by decide +kernel
theorem dX1_leastOfNear_3 : decode cX1_leastOfNear 3 = .ok (.iconst 0, 1) := by decide +kernel
theorem dX1_leastOfNear_4 : decode cX1_leastOfNear 4 = .ok (.istore_n 2, 1) := by decide +kernel
theorem dX1_leastOfNear_5 : decode cX1_leastOfNear 5 = .ok (.iload_n 2, 1) := by decide +kernel
theorem dX1_leastOfNear_6 : decode cX1_leastOfNear 6 = .ok (.aload_n 0, 1) := by decide +kernel
theorem dX1_leastOfNear_7 : decode cX1_leastOfNear 7 = .ok (.getfield 36, 3) := by decide +kernel
theorem dX1_leastOfNear_10 : decode cX1_leastOfNear 10 = .ok (.getfield 74, 3) := by decide +kernel
theorem dX1_leastOfNear_13 : decode cX1_leastOfNear 13 = .ok (.if_icmp .ge 32, 3) := by decide +kernel
theorem dX1_leastOfNear_16 : decode cX1_leastOfNear 16 = .ok (.aload_n 0, 1) := by decide +kernel
theorem dX1_leastOfNear_17 : decode cX1_leastOfNear 17 = .ok (.getfield 36, 3) := by decide +kernel
theorem dX1_leastOfNear_20 : decode cX1_leastOfNear 20 = .ok (.getfield 81, 3) := by decide +kernel
theorem dX1_leastOfNear_23 : decode cX1_leastOfNear 23 = .ok (.iload_n 2, 1) := by decide +kernel
theorem dX1_leastOfNear_24 : decode cX1_leastOfNear 24 = .ok (.iaload, 1) := by decide +kernel
theorem dX1_leastOfNear_25 : decode cX1_leastOfNear 25 = .ok (.iconst 1, 1) := by decide +kernel
theorem dX1_leastOfNear_26 : decode cX1_leastOfNear 26 = .ok (.if_icmp .ne 13, 3) := by decide +kernel
theorem dX1_leastOfNear_29 : decode cX1_leastOfNear 29 = .ok (.iload_n 1, 1) := by decide +kernel
theorem dX1_leastOfNear_30 : decode cX1_leastOfNear 30 = .ok (.aload_n 0, 1) := by decide +kernel
theorem dX1_leastOfNear_31 : decode cX1_leastOfNear 31 = .ok (.iload_n 2, 1) := by decide +kernel
theorem dX1_leastOfNear_32 : decode cX1_leastOfNear 32 = .ok (.invokevirtual 84, 3) := by decide +kernel
theorem dX1_leastOfNear_35 : decode cX1_leastOfNear 35 = .ok (.invokestatic 87, 3) := by decide +kernel
theorem dX1_leastOfNear_38 : decode cX1_leastOfNear 38 = .ok (.istore_n 1, 1) := by decide +kernel
theorem dX1_leastOfNear_39 : decode cX1_leastOfNear 39 = .ok (.iinc 2 1, 3) := by decide +kernel
theorem dX1_leastOfNear_42 : decode cX1_leastOfNear 42 = .ok (.goto (-37), 3) := by decide +kernel
theorem dX1_leastOfNear_45 : decode cX1_leastOfNear 45 = .ok (.iload_n 1, 1) := by decide +kernel
theorem dX1_leastOfNear_46 : decode cX1_leastOfNear 46 = .ok (.ireturn, 1) := by decide +kernel
theorem dX1_sumFrom_0 : decode cX1_sumFrom 0 = .ok (.iconst 0, 1) := by decide +kernel
theorem dX1_sumFrom_1 : decode cX1_sumFrom 1 = .ok (.istore_n 2, 1) := by decide +kernel
theorem dX1_sumFrom_2 : decode cX1_sumFrom 2 = .ok (.iconst 0, 1) := by decide +kernel
theorem dX1_sumFrom_3 : decode cX1_sumFrom 3 = .ok (.istore_n 3, 1) := by decide +kernel
theorem dX1_sumFrom_4 : decode cX1_sumFrom 4 = .ok (.iload_n 3, 1) := by decide +kernel
theorem dX1_sumFrom_5 : decode cX1_sumFrom 5 = .ok (.aload_n 0, 1) := by decide +kernel
theorem dX1_sumFrom_6 : decode cX1_sumFrom 6 = .ok (.getfield 36, 3) := by decide +kernel
theorem dX1_sumFrom_9 : decode cX1_sumFrom 9 = .ok (.getfield 74, 3) := by decide +kernel
theorem dX1_sumFrom_12 : decode cX1_sumFrom 12 = .ok (.if_icmp .ge 52, 3) := by decide +kernel
theorem dX1_sumFrom_15 : decode cX1_sumFrom 15 = .ok (.aload_n 0, 1) := by decide +kernel
theorem dX1_sumFrom_16 : decode cX1_sumFrom 16 = .ok (.getfield 36, 3) := by decide +kernel
theorem dX1_sumFrom_19 : decode cX1_sumFrom 19 = .ok (.getfield 81, 3) := by decide +kernel
theorem dX1_sumFrom_22 : decode cX1_sumFrom 22 = .ok (.iload_n 3, 1) := by decide +kernel
theorem dX1_sumFrom_23 : decode cX1_sumFrom 23 = .ok (.iaload, 1) := by decide +kernel
theorem dX1_sumFrom_24 : decode cX1_sumFrom 24 = .ok (.iconst 1, 1) := by decide +kernel
theorem dX1_sumFrom_25 : decode cX1_sumFrom 25 = .ok (.if_icmp .ne 33, 3) := by decide +kernel
theorem dX1_sumFrom_28 : decode cX1_sumFrom 28 = .ok (.iload_n 2, 1) := by decide +kernel
theorem dX1_sumFrom_29 : decode cX1_sumFrom 29 = .ok (.aload_n 0, 1) := by decide +kernel
theorem dX1_sumFrom_30 : decode cX1_sumFrom 30 = .ok (.aload_n 0, 1) := by decide +kernel
theorem dX1_sumFrom_31 : decode cX1_sumFrom 31 = .ok (.getfield 36, 3) := by decide +kernel
theorem dX1_sumFrom_34 : decode cX1_sumFrom 34 = .ok (.getfield 63, 3) := by decide +kernel
theorem dX1_sumFrom_37 : decode cX1_sumFrom 37 = .ok (.aload_n 0, 1) := by decide +kernel
theorem dX1_sumFrom_38 : decode cX1_sumFrom 38 = .ok (.getfield 36, 3) := by decide +kernel
theorem dX1_sumFrom_41 : decode cX1_sumFrom 41 = .ok (.iload_n 1, 1) := by decide +kernel
theorem dX1_sumFrom_42 : decode cX1_sumFrom 42 = .ok (.invokevirtual 56, 3) := by decide +kernel
theorem dX1_sumFrom_45 : decode cX1_sumFrom 45 = .ok (.aload_n 0, 1) := by decide +kernel
theorem dX1_sumFrom_46 : decode cX1_sumFrom 46 = .ok (.getfield 36, 3) := by decide +kernel
theorem dX1_sumFrom_49 : decode cX1_sumFrom 49 = .ok (.getfield 48, 3) := by decide +kernel
theorem dX1_sumFrom_52 : decode cX1_sumFrom 52 = .ok (.iload_n 3, 1) := by decide +kernel
theorem dX1_sumFrom_53 : decode cX1_sumFrom 53 = .ok (.invokevirtual 93, 3) := by decide +kernel
theorem dX1_sumFrom_56 : decode cX1_sumFrom 56 = .ok (.iadd, 1) := by decide +kernel
theorem dX1_sumFrom_57 : decode cX1_sumFrom 57 = .ok (.istore_n 2, 1) := by decide +kernel
theorem dX1_sumFrom_58 : decode cX1_sumFrom 58 = .ok (.iinc 3 1, 3) := by decide +kernel
theorem dX1_sumFrom_61 : decode cX1_sumFrom 61 = .ok (.goto (-57), 3) := by decide +kernel
theorem dX1_sumFrom_64 : decode cX1_sumFrom 64 = .ok (.iload_n 2, 1) := by decide +kernel
theorem dX1_sumFrom_65 : decode cX1_sumFrom 65 = .ok (.ireturn, 1) := by decide +kernel
theorem dX1_search_0 : decode cX1_search 0 = .ok (.iconst 0, 1) := by decide +kernel
theorem dX1_search_1 : decode cX1_search 1 = .ok (.istore_n 2, 1) := by decide +kernel
theorem dX1_search_2 : decode cX1_search 2 = .ok (.iload_n 2, 1) := by decide +kernel
theorem dX1_search_3 : decode cX1_search 3 = .ok (.iload_n 1, 1) := by decide +kernel
theorem dX1_search_4 : decode cX1_search 4 = .ok (.if_icmp .ge 16, 3) := by decide +kernel
theorem dX1_search_7 : decode cX1_search 7 = .ok (.aload_n 0, 1) := by decide +kernel
theorem dX1_search_8 : decode cX1_search 8 = .ok (.getfield 26, 3) := by decide +kernel
theorem dX1_search_11 : decode cX1_search 11 = .ok (.iload_n 2, 1) := by decide +kernel
theorem dX1_search_12 : decode cX1_search 12 = .ok (.iconst 0, 1) := by decide +kernel
theorem dX1_search_13 : decode cX1_search 13 = .ok (.iastore, 1) := by decide +kernel
theorem dX1_search_14 : decode cX1_search 14 = .ok (.iinc 2 1, 3) := by decide +kernel
theorem dX1_search_17 : decode cX1_search 17 = .ok (.goto (-15), 3) := by decide +kernel
theorem dX1_search_20 : decode cX1_search 20 = .ok (.iconst 0, 1) := by decide +kernel
theorem dX1_search_21 : decode cX1_search 21 = .ok (.istore_n 2, 1) := by decide +kernel
theorem dX1_search_22 : decode cX1_search 22 = .ok (.aload_n 0, 1) := by decide +kernel
theorem dX1_search_23 : decode cX1_search 23 = .ok (.getfield 32, 3) := by decide +kernel
theorem dX1_search_26 : decode cX1_search 26 = .ok (.iload_n 1, 1) := by decide +kernel
theorem dX1_search_27 : decode cX1_search 27 = .ok (.invokevirtual 97, 3) := by decide +kernel
theorem dX1_search_30 : decode cX1_search 30 = .ok (.istore_n 3, 1) := by decide +kernel
theorem dX1_search_31 : decode cX1_search 31 = .ok (.iload_n 3, 1) := by decide +kernel
theorem dX1_search_32 : decode cX1_search 32 = .ok (.ifCond .le 36, 3) := by decide +kernel
theorem dX1_search_35 : decode cX1_search 35 = .ok (.iload_n 2, 1) := by decide +kernel
theorem dX1_search_36 : decode cX1_search 36 = .ok (.ifCond .lt 32, 3) := by decide +kernel
theorem dX1_search_39 : decode cX1_search 39 = .ok (.aload_n 0, 1) := by decide +kernel
theorem dX1_search_40 : decode cX1_search 40 = .ok (.iload_n 2, 1) := by decide +kernel
theorem dX1_search_41 : decode cX1_search 41 = .ok (.iload_n 1, 1) := by decide +kernel
theorem dX1_search_42 : decode cX1_search 42 = .ok (.invokevirtual 100, 3) := by decide +kernel
theorem dX1_search_45 : decode cX1_search 45 = .ok (.istore 4, 2) := by decide +kernel
theorem dX1_search_47 : decode cX1_search 47 = .ok (.aload_n 0, 1) := by decide +kernel
theorem dX1_search_48 : decode cX1_search 48 = .ok (.getfield 32, 3) := by decide +kernel
theorem dX1_search_51 : decode cX1_search 51 = .ok (.aload_n 0, 1) := by decide +kernel
theorem dX1_search_52 : decode cX1_search 52 = .ok (.getfield 26, 3) := by decide +kernel
theorem dX1_search_55 : decode cX1_search 55 = .ok (.iload 4, 2) := by decide +kernel
theorem dX1_search_57 : decode cX1_search 57 = .ok (.iload_n 1, 1) := by decide +kernel
theorem dX1_search_58 : decode cX1_search 58 = .ok (.invokevirtual 103, 3) := by decide +kernel
theorem dX1_search_61 : decode cX1_search 61 = .ok (.istore_n 2, 1) := by decide +kernel
theorem dX1_search_62 : decode cX1_search 62 = .ok (.iinc 3 (-1), 3) := by decide +kernel
theorem dX1_search_65 : decode cX1_search 65 = .ok (.goto (-34), 3) := by decide +kernel
theorem dX1_search_68 : decode cX1_search 68 = .ok (.return_, 1) := by decide +kernel
theorem dX1_descend_0 : decode cX1_descend 0 = .ok (.iload_n 1, 1) := by decide +kernel
theorem dX1_descend_1 : decode cX1_descend 1 = .ok (.istore_n 3, 1) := by decide +kernel
theorem dX1_descend_2 : decode cX1_descend 2 = .ok (.iload_n 3, 1) := by decide +kernel
theorem dX1_descend_3 : decode cX1_descend 3 = .ok (.iload_n 2, 1) := by decide +kernel
theorem dX1_descend_4 : decode cX1_descend 4 = .ok (.if_icmp .ge 64, 3) := by decide +kernel
theorem dX1_descend_7 : decode cX1_descend 7 = .ok (.aload_n 0, 1) := by decide +kernel
theorem dX1_descend_8 : decode cX1_descend 8 = .ok (.iload_n 3, 1) := by decide +kernel
theorem dX1_descend_9 : decode cX1_descend 9 = .ok (.iload_n 2, 1) := by decide +kernel
theorem dX1_descend_10 : decode cX1_descend 10 = .ok (.iload_n 3, 1) := by decide +kernel
theorem dX1_descend_11 : decode cX1_descend 11 = .ok (.isub, 1) := by decide +kernel
theorem dX1_descend_12 : decode cX1_descend 12 = .ok (.iconst 1, 1) := by decide +kernel
theorem dX1_descend_13 : decode cX1_descend 13 = .ok (.isub, 1) := by decide +kernel
theorem dX1_descend_14 : decode cX1_descend 14 = .ok (.invokevirtual 107, 3) := by decide +kernel
theorem dX1_descend_17 : decode cX1_descend 17 = .ok (.istore 4, 2) := by decide +kernel
theorem dX1_descend_19 : decode cX1_descend 19 = .ok (.iload 4, 2) := by decide +kernel
theorem dX1_descend_21 : decode cX1_descend 21 = .ok (.aload_n 0, 1) := by decide +kernel
theorem dX1_descend_22 : decode cX1_descend 22 = .ok (.getfield 15, 3) := by decide +kernel
theorem dX1_descend_25 : decode cX1_descend 25 = .ok (.if_icmp .lt 5, 3) := by decide +kernel
theorem dX1_descend_28 : decode cX1_descend 28 = .ok (.iload_n 3, 1) := by decide +kernel
theorem dX1_descend_29 : decode cX1_descend 29 = .ok (.ireturn, 1) := by decide +kernel
theorem dX1_descend_30 : decode cX1_descend 30 = .ok (.iload_n 3, 1) := by decide +kernel
theorem dX1_descend_31 : decode cX1_descend 31 = .ok (.iload_n 2, 1) := by decide +kernel
theorem dX1_descend_32 : decode cX1_descend 32 = .ok (.iconst 1, 1) := by decide +kernel
theorem dX1_descend_33 : decode cX1_descend 33 = .ok (.isub, 1) := by decide +kernel
theorem dX1_descend_34 : decode cX1_descend 34 = .ok (.if_icmp .ne 28, 3) := by decide +kernel
theorem dX1_descend_37 : decode cX1_descend 37 = .ok (.aload_n 0, 1) := by decide +kernel
theorem dX1_descend_38 : decode cX1_descend 38 = .ok (.iload 4, 2) := by decide +kernel
theorem dX1_descend_40 : decode cX1_descend 40 = .ok (.putfield 15, 3) := by decide +kernel
theorem dX1_descend_43 : decode cX1_descend 43 = .ok (.aload_n 0, 1) := by decide +kernel
theorem dX1_descend_44 : decode cX1_descend 44 = .ok (.iload_n 2, 1) := by decide +kernel
theorem dX1_descend_45 : decode cX1_descend 45 = .ok (.putfield 19, 3) := by decide +kernel
theorem dX1_descend_48 : decode cX1_descend 48 = .ok (.aload_n 0, 1) := by decide +kernel
theorem dX1_descend_49 : decode cX1_descend 49 = .ok (.getfield 26, 3) := by decide +kernel
theorem dX1_descend_52 : decode cX1_descend 52 = .ok (.iconst 0, 1) := by decide +kernel
theorem dX1_descend_53 : decode cX1_descend 53 = .ok (.aload_n 0, 1) := by decide +kernel
theorem dX1_descend_54 : decode cX1_descend 54 = .ok (.getfield 22, 3) := by decide +kernel
theorem dX1_descend_57 : decode cX1_descend 57 = .ok (.iconst 0, 1) := by decide +kernel
theorem dX1_descend_58 : decode cX1_descend 58 = .ok (.iload_n 2, 1) := by decide +kernel
theorem dX1_descend_59 : decode cX1_descend 59 = .ok (.invokestatic 110, 3) := by decide +kernel
theorem dX1_descend_62 : decode cX1_descend 62 = .ok (.iinc 3 1, 3) := by decide +kernel
theorem dX1_descend_65 : decode cX1_descend 65 = .ok (.goto (-63), 3) := by decide +kernel
theorem dX1_descend_68 : decode cX1_descend 68 = .ok (.iload_n 2, 1) := by decide +kernel
theorem dX1_descend_69 : decode cX1_descend 69 = .ok (.iconst 1, 1) := by decide +kernel
theorem dX1_descend_70 : decode cX1_descend 70 = .ok (.isub, 1) := by decide +kernel
theorem dX1_descend_71 : decode cX1_descend 71 = .ok (.ireturn, 1) := by decide +kernel
theorem dX1_put_0 : decode cX1_put 0 = .ok (.iconst 0, 1) := by decide +kernel
theorem dX1_put_1 : decode cX1_put 1 = .ok (.istore_n 3, 1) := by decide +kernel
theorem dX1_put_2 : decode cX1_put 2 = .ok (.iconst 0, 1) := by decide +kernel
theorem dX1_put_3 : decode cX1_put 3 = .ok (.istore 4, 2) := by decide +kernel
theorem dX1_put_5 : decode cX1_put 5 = .ok (.iload 4, 2) := by decide +kernel
theorem dX1_put_7 : decode cX1_put 7 = .ok (.aload_n 0, 1) := by decide +kernel
theorem dX1_put_8 : decode cX1_put 8 = .ok (.getfield 36, 3) := by decide +kernel
theorem dX1_put_11 : decode cX1_put 11 = .ok (.getfield 74, 3) := by decide +kernel
theorem dX1_put_14 : decode cX1_put 14 = .ok (.if_icmp .ge 57, 3) := by decide +kernel
theorem dX1_put_17 : decode cX1_put 17 = .ok (.iload_n 3, 1) := by decide +kernel
theorem dX1_put_18 : decode cX1_put 18 = .ok (.aload_n 0, 1) := by decide +kernel
theorem dX1_put_19 : decode cX1_put 19 = .ok (.getfield 15, 3) := by decide +kernel
theorem dX1_put_22 : decode cX1_put 22 = .ok (.if_icmp .ge 49, 3) := by decide +kernel
theorem dX1_put_25 : decode cX1_put 25 = .ok (.aload_n 0, 1) := by decide +kernel
theorem dX1_put_26 : decode cX1_put 26 = .ok (.getfield 36, 3) := by decide +kernel
theorem dX1_put_29 : decode cX1_put 29 = .ok (.getfield 81, 3) := by decide +kernel
theorem dX1_put_32 : decode cX1_put 32 = .ok (.iload 4, 2) := by decide +kernel
theorem dX1_put_34 : decode cX1_put 34 = .ok (.iaload, 1) := by decide +kernel
theorem dX1_put_35 : decode cX1_put 35 = .ok (.iconst 1, 1) := by decide +kernel
theorem dX1_put_36 : decode cX1_put 36 = .ok (.if_icmp .ne 29, 3) := by decide +kernel
theorem dX1_put_39 : decode cX1_put 39 = .ok (.aload_n 0, 1) := by decide +kernel
theorem dX1_put_40 : decode cX1_put 40 = .ok (.iload_n 1, 1) := by decide +kernel
theorem dX1_put_41 : decode cX1_put 41 = .ok (.aload_n 0, 1) := by decide +kernel
theorem dX1_put_42 : decode cX1_put 42 = .ok (.getfield 26, 3) := by decide +kernel
theorem dX1_put_45 : decode cX1_put 45 = .ok (.iload_n 1, 1) := by decide +kernel
theorem dX1_put_46 : decode cX1_put 46 = .ok (.iaload, 1) := by decide +kernel
theorem dX1_put_47 : decode cX1_put 47 = .ok (.iload 4, 2) := by decide +kernel
theorem dX1_put_49 : decode cX1_put 49 = .ok (.invokevirtual 44, 3) := by decide +kernel
theorem dX1_put_52 : decode cX1_put 52 = .ok (.iload_n 3, 1) := by decide +kernel
theorem dX1_put_53 : decode cX1_put 53 = .ok (.aload_n 0, 1) := by decide +kernel
theorem dX1_put_54 : decode cX1_put 54 = .ok (.iload_n 1, 1) := by decide +kernel
theorem dX1_put_55 : decode cX1_put 55 = .ok (.iconst 1, 1) := by decide +kernel
theorem dX1_put_56 : decode cX1_put 56 = .ok (.iadd, 1) := by decide +kernel
theorem dX1_put_57 : decode cX1_put 57 = .ok (.iload 4, 2) := by decide +kernel
theorem dX1_put_59 : decode cX1_put 59 = .ok (.iload_n 2, 1) := by decide +kernel
theorem dX1_put_60 : decode cX1_put 60 = .ok (.invokevirtual 116, 3) := by decide +kernel
theorem dX1_put_63 : decode cX1_put 63 = .ok (.iadd, 1) := by decide +kernel
theorem dX1_put_64 : decode cX1_put 64 = .ok (.istore_n 3, 1) := by decide +kernel
theorem dX1_put_65 : decode cX1_put 65 = .ok (.iinc 4 1, 3) := by decide +kernel
theorem dX1_put_68 : decode cX1_put 68 = .ok (.goto (-63), 3) := by decide +kernel
theorem dX1_put_71 : decode cX1_put 71 = .ok (.iload_n 3, 1) := by decide +kernel
theorem dX1_put_72 : decode cX1_put 72 = .ok (.ireturn, 1) := by decide +kernel
theorem dX1_leastEnd_0 : decode cX1_leastEnd 0 = .ok (.iload_n 1, 1) := by decide +kernel
theorem dX1_leastEnd_1 : decode cX1_leastEnd 1 = .ok (.bipush 64, 2) := by decide +kernel
theorem dX1_leastEnd_3 : decode cX1_leastEnd 3 = .ok (.imul, 1) := by decide +kernel
theorem dX1_leastEnd_4 : decode cX1_leastEnd 4 = .ok (.iload_n 2, 1) := by decide +kernel
theorem dX1_leastEnd_5 : decode cX1_leastEnd 5 = .ok (.bipush 8, 2) := by decide +kernel
theorem dX1_leastEnd_7 : decode cX1_leastEnd 7 = .ok (.imul, 1) := by decide +kernel
theorem dX1_leastEnd_8 : decode cX1_leastEnd 8 = .ok (.iadd, 1) := by decide +kernel
theorem dX1_leastEnd_9 : decode cX1_leastEnd 9 = .ok (.istore 4, 2) := by decide +kernel
theorem dX1_leastEnd_11 : decode cX1_leastEnd 11 = .ok (.aload_n 0, 1) := by decide +kernel
theorem dX1_leastEnd_12 : decode cX1_leastEnd 12 = .ok (.getfield 32, 3) := by decide +kernel
theorem dX1_leastEnd_15 : decode cX1_leastEnd 15 = .ok (.getfield 51, 3) := by decide +kernel
theorem dX1_leastEnd_18 : decode cX1_leastEnd 18 = .ok (.istore 5, 2) := by decide +kernel
theorem dX1_leastEnd_20 : decode cX1_leastEnd 20 = .ok (.ldc 120, 2) := by decide +kernel
theorem dX1_leastEnd_22 : decode cX1_leastEnd 22 = .ok (.istore 6, 2) := by decide +kernel
theorem dX1_leastEnd_24 : decode cX1_leastEnd 24 = .ok (.iconst 0, 1) := by decide +kernel
theorem dX1_leastEnd_25 : decode cX1_leastEnd 25 = .ok (.istore 7, 2) := by decide +kernel
theorem dX1_leastEnd_27 : decode cX1_leastEnd 27 = .ok (.iload 7, 2) := by decide +kernel
theorem dX1_leastEnd_29 : decode cX1_leastEnd 29 = .ok (.aload_n 0, 1) := by decide +kernel
theorem dX1_leastEnd_30 : decode cX1_leastEnd 30 = .ok (.getfield 36, 3) := by decide +kernel
theorem dX1_leastEnd_33 : decode cX1_leastEnd 33 = .ok (.getfield 48, 3) := by decide +kernel
theorem dX1_leastEnd_36 : decode cX1_leastEnd 36 = .ok (.if_icmp .gt 63, 3) := by decide +kernel
theorem dX1_leastEnd_39 : decode cX1_leastEnd 39 = .ok (.aload_n 0, 1) := by decide +kernel
theorem dX1_leastEnd_40 : decode cX1_leastEnd 40 = .ok (.getfield 36, 3) := by decide +kernel
theorem dX1_leastEnd_43 : decode cX1_leastEnd 43 = .ok (.getfield 48, 3) := by decide +kernel
theorem dX1_leastEnd_46 : decode cX1_leastEnd 46 = .ok (.iload 7, 2) := by decide +kernel
theorem dX1_leastEnd_48 : decode cX1_leastEnd 48 = .ok (.isub, 1) := by decide +kernel
theorem dX1_leastEnd_49 : decode cX1_leastEnd 49 = .ok (.iload_n 3, 1) := by decide +kernel
theorem dX1_leastEnd_50 : decode cX1_leastEnd 50 = .ok (.isub, 1) := by decide +kernel
theorem dX1_leastEnd_51 : decode cX1_leastEnd 51 = .ok (.istore 8, 2) := by decide +kernel
theorem dX1_leastEnd_53 : decode cX1_leastEnd 53 = .ok (.aload_n 0, 1) := by decide +kernel
theorem dX1_leastEnd_54 : decode cX1_leastEnd 54 = .ok (.getfield 29, 3) := by decide +kernel
theorem dX1_leastEnd_57 : decode cX1_leastEnd 57 = .ok (.iload 4, 2) := by decide +kernel
theorem dX1_leastEnd_59 : decode cX1_leastEnd 59 = .ok (.iload 7, 2) := by decide +kernel
theorem dX1_leastEnd_61 : decode cX1_leastEnd 61 = .ok (.iadd, 1) := by decide +kernel
theorem dX1_leastEnd_62 : decode cX1_leastEnd 62 = .ok (.iaload, 1) := by decide +kernel
theorem dX1_leastEnd_63 : decode cX1_leastEnd 63 = .ok (.iload 8, 2) := by decide +kernel
theorem dX1_leastEnd_65 : decode cX1_leastEnd 65 = .ok (.ifCond .ge 9, 3) := by decide +kernel
theorem dX1_leastEnd_68 : decode cX1_leastEnd 68 = .ok (.iload 8, 2) := by decide +kernel
theorem dX1_leastEnd_70 : decode cX1_leastEnd 70 = .ok (.ineg, 1) := by decide +kernel
theorem dX1_leastEnd_71 : decode cX1_leastEnd 71 = .ok (.goto 5, 3) := by decide +kernel
theorem dX1_leastEnd_74 : decode cX1_leastEnd 74 = .ok (.iload 8, 2) := by decide +kernel
theorem dX1_leastEnd_76 : decode cX1_leastEnd 76 = .ok (.iload 5, 2) := by decide +kernel
theorem dX1_leastEnd_78 : decode cX1_leastEnd 78 = .ok (.imul, 1) := by decide +kernel
theorem dX1_leastEnd_79 : decode cX1_leastEnd 79 = .ok (.iadd, 1) := by decide +kernel
theorem dX1_leastEnd_80 : decode cX1_leastEnd 80 = .ok (.istore 9, 2) := by decide +kernel
theorem dX1_leastEnd_82 : decode cX1_leastEnd 82 = .ok (.iload 9, 2) := by decide +kernel
theorem dX1_leastEnd_84 : decode cX1_leastEnd 84 = .ok (.iload 6, 2) := by decide +kernel
theorem dX1_leastEnd_86 : decode cX1_leastEnd 86 = .ok (.if_icmp .ge 7, 3) := by decide +kernel
theorem dX1_leastEnd_89 : decode cX1_leastEnd 89 = .ok (.iload 9, 2) := by decide +kernel
theorem dX1_leastEnd_91 : decode cX1_leastEnd 91 = .ok (.istore 6, 2) := by decide +kernel
theorem dX1_leastEnd_93 : decode cX1_leastEnd 93 = .ok (.iinc 7 1, 3) := by decide +kernel
theorem dX1_leastEnd_96 : decode cX1_leastEnd 96 = .ok (.goto (-69), 3) := by decide +kernel
theorem dX1_leastEnd_99 : decode cX1_leastEnd 99 = .ok (.iload 6, 2) := by decide +kernel
theorem dX1_leastEnd_101 : decode cX1_leastEnd 101 = .ok (.ireturn, 1) := by decide +kernel
theorem dX2_init_0 : decode cX2_init 0 = .ok (.aload_n 0, 1) := by decide +kernel
theorem dX2_init_1 : decode cX2_init 1 = .ok (.invokespecial 3, 3) := by decide +kernel
theorem dX2_init_4 : decode cX2_init 4 = .ok (.aload_n 0, 1) := by decide +kernel
theorem dX2_init_5 : decode cX2_init 5 = .ok (.bipush 7, 2) := by decide +kernel
theorem dX2_init_7 : decode cX2_init 7 = .ok (.newarray .int, 2) := by decide +kernel
theorem dX2_init_9 : decode cX2_init 9 = .ok (.putfield 9, 3) := by decide +kernel
theorem dX2_init_12 : decode cX2_init 12 = .ok (.aload_n 0, 1) := by decide +kernel
theorem dX2_init_13 : decode cX2_init 13 = .ok (.bipush 7, 2) := by decide +kernel
theorem dX2_init_15 : decode cX2_init 15 = .ok (.newarray .int, 2) := by decide +kernel
theorem dX2_init_17 : decode cX2_init 17 = .ok (.putfield 15, 3) := by decide +kernel
theorem dX2_init_20 : decode cX2_init 20 = .ok (.aload_n 0, 1) := by decide +kernel
theorem dX2_init_21 : decode cX2_init 21 = .ok (.bipush 6, 2) := by decide +kernel
theorem dX2_init_23 : decode cX2_init 23 = .ok (.newarray .int, 2) := by decide +kernel
theorem dX2_init_25 : decode cX2_init 25 = .ok (.putfield 18, 3) := by decide +kernel
theorem dX2_init_28 : decode cX2_init 28 = .ok (.aload_n 0, 1) := by decide +kernel
theorem dX2_init_29 : decode cX2_init 29 = .ok (.aload_n 1, 1) := by decide +kernel
theorem dX2_init_30 : decode cX2_init 30 = .ok (.putfield 21, 3) := by decide +kernel
theorem dX2_init_33 : decode cX2_init 33 = .ok (.aload_n 0, 1) := by decide +kernel
theorem dX2_init_34 : decode cX2_init 34 = .ok (.aload_n 2, 1) := by decide +kernel
theorem dX2_init_35 : decode cX2_init 35 = .ok (.putfield 25, 3) := by decide +kernel
theorem dX2_init_38 : decode cX2_init 38 = .ok (.aload_n 0, 1) := by decide +kernel
theorem dX2_init_39 : decode cX2_init 39 = .ok (.new 29, 3) := by decide +kernel
theorem dX2_init_42 : decode cX2_init 42 = .ok (.dup, 1) := by decide +kernel
theorem dX2_init_43 : decode cX2_init 43 = .ok (.aload_n 1, 1) := by decide +kernel
theorem dX2_init_44 : decode cX2_init 44 = .ok (.bipush 6, 2) := by decide +kernel
theorem dX2_init_46 : decode cX2_init 46 = .ok (.bipush 120, 2) := by decide +kernel
theorem dX2_init_48 : decode cX2_init 48 = .ok (.invokespecial 31, 3) := by decide +kernel
theorem dX2_init_51 : decode cX2_init 51 = .ok (.putfield 34, 3) := by decide +kernel
theorem dX2_init_54 : decode cX2_init 54 = .ok (.aload_n 0, 1) := by decide +kernel
theorem dX2_init_55 : decode cX2_init 55 = .ok (.invokevirtual 38, 3) := by decide +kernel
theorem dX2_init_58 : decode cX2_init 58 = .ok (.return_, 1) := by decide +kernel
theorem dX2_forget_0 : decode cX2_forget 0 = .ok (.iconst 0, 1) := by decide +kernel
theorem dX2_forget_1 : decode cX2_forget 1 = .ok (.istore_n 1, 1) := by decide +kernel
theorem dX2_forget_2 : decode cX2_forget 2 = .ok (.iload_n 1, 1) := by decide +kernel
theorem dX2_forget_3 : decode cX2_forget 3 = .ok (.bipush 6, 2) := by decide +kernel
theorem dX2_forget_5 : decode cX2_forget 5 = .ok (.if_icmp .gt 17, 3) := by decide +kernel
theorem dX2_forget_8 : decode cX2_forget 8 = .ok (.aload_n 0, 1) := by decide +kernel
theorem dX2_forget_9 : decode cX2_forget 9 = .ok (.getfield 9, 3) := by decide +kernel
theorem dX2_forget_12 : decode cX2_forget 12 = .ok (.iload_n 1, 1) := by decide +kernel
theorem dX2_forget_13 : decode cX2_forget 13 = .ok (.bipush (-2), 2) := by decide +kernel
theorem dX2_forget_15 : decode cX2_forget 15 = .ok (.iastore, 1) := by decide +kernel
theorem dX2_forget_16 : decode cX2_forget 16 = .ok (.iinc 1 1, 3) := by decide +kernel
theorem dX2_forget_19 : decode cX2_forget 19 = .ok (.goto (-17), 3) := by decide +kernel
end
section
theorem dX2_forget_22 : decode cX2_forget 22 = .ok (.return_, 1) := by decide +kernel
theorem dX2_refresh_0 : decode cX2_refresh 0 = .ok (.aload_n 0, 1) := by decide +kernel
theorem dX2_refresh_1 : decode cX2_refresh 1 = .ok (.getfield 9, 3) := by decide +kernel
theorem dX2_refresh_4 : decode cX2_refresh 4 = .ok (.iload_n 1, 1) := by decide +kernel
theorem dX2_refresh_5 : decode cX2_refresh 5 = .ok (.iaload, 1) := by decide +kernel
theorem dX2_refresh_6 : decode cX2_refresh 6 = .ok (.bipush (-2), 2) := by decide +kernel
theorem dX2_refresh_8 : decode cX2_refresh 8 = .ok (.if_icmp .eq 4, 3) := by decide +kernel
theorem dX2_refresh_11 : decode cX2_refresh 11 = .ok (.return_, 1) := by decide +kernel
theorem dX2_refresh_12 : decode cX2_refresh 12 = .ok (.aload_n 0, 1) := by decide +kernel
theorem dX2_refresh_13 : decode cX2_refresh 13 = .ok (.getfield 9, 3) := by decide +kernel
theorem dX2_refresh_16 : decode cX2_refresh 16 = .ok (.iload_n 1, 1) := by decide +kernel
theorem dX2_refresh_17 : decode cX2_refresh 17 = .ok (.ldc 41, 2) := by decide +kernel
theorem dX2_refresh_19 : decode cX2_refresh 19 = .ok (.iastore, 1) := by decide +kernel
theorem dX2_refresh_20 : decode cX2_refresh 20 = .ok (.aload_n 0, 1) := by decide +kernel
theorem dX2_refresh_21 : decode cX2_refresh 21 = .ok (.getfield 34, 3) := by decide +kernel
theorem dX2_refresh_24 : decode cX2_refresh 24 = .ok (.iload_n 1, 1) := by decide +kernel
theorem dX2_refresh_25 : decode cX2_refresh 25 = .ok (.invokevirtual 42, 3) := by decide +kernel
theorem dX2_refresh_28 : decode cX2_refresh 28 = .ok (.iconst 0, 1) := by decide +kernel
theorem dX2_refresh_29 : decode cX2_refresh 29 = .ok (.istore_n 2, 1) := by decide +kernel
theorem dX2_refresh_30 : decode cX2_refresh 30 = .ok (.iload_n 2, 1) := by decide +kernel
theorem dX2_refresh_31 : decode cX2_refresh 31 = .ok (.aload_n 0, 1) := by decide +kernel
theorem dX2_refresh_32 : decode cX2_refresh 32 = .ok (.getfield 25, 3) := by decide +kernel
theorem dX2_refresh_35 : decode cX2_refresh 35 = .ok (.getfield 46, 3) := by decide +kernel
theorem dX2_refresh_38 : decode cX2_refresh 38 = .ok (.if_icmp .ge 54, 3) := by decide +kernel
theorem dX2_refresh_41 : decode cX2_refresh 41 = .ok (.iconst 0, 1) := by decide +kernel
theorem dX2_refresh_42 : decode cX2_refresh 42 = .ok (.istore_n 3, 1) := by decide +kernel
theorem dX2_refresh_43 : decode cX2_refresh 43 = .ok (.iload_n 3, 1) := by decide +kernel
theorem dX2_refresh_44 : decode cX2_refresh 44 = .ok (.aload_n 0, 1) := by decide +kernel
theorem dX2_refresh_45 : decode cX2_refresh 45 = .ok (.getfield 25, 3) := by decide +kernel
theorem dX2_refresh_48 : decode cX2_refresh 48 = .ok (.iload_n 2, 1) := by decide +kernel
theorem dX2_refresh_49 : decode cX2_refresh 49 = .ok (.iload_n 1, 1) := by decide +kernel
theorem dX2_refresh_50 : decode cX2_refresh 50 = .ok (.invokevirtual 52, 3) := by decide +kernel
theorem dX2_refresh_53 : decode cX2_refresh 53 = .ok (.if_icmp .ge 33, 3) := by decide +kernel
theorem dX2_refresh_56 : decode cX2_refresh 56 = .ok (.aload_n 0, 1) := by decide +kernel
theorem dX2_refresh_57 : decode cX2_refresh 57 = .ok (.getfield 34, 3) := by decide +kernel
theorem dX2_refresh_60 : decode cX2_refresh 60 = .ok (.aload_n 0, 1) := by decide +kernel
theorem dX2_refresh_61 : decode cX2_refresh 61 = .ok (.getfield 25, 3) := by decide +kernel
theorem dX2_refresh_64 : decode cX2_refresh 64 = .ok (.getfield 56, 3) := by decide +kernel
theorem dX2_refresh_67 : decode cX2_refresh 67 = .ok (.aload_n 0, 1) := by decide +kernel
theorem dX2_refresh_68 : decode cX2_refresh 68 = .ok (.getfield 25, 3) := by decide +kernel
theorem dX2_refresh_71 : decode cX2_refresh 71 = .ok (.iload_n 2, 1) := by decide +kernel
theorem dX2_refresh_72 : decode cX2_refresh 72 = .ok (.invokevirtual 59, 3) := by decide +kernel
theorem dX2_refresh_75 : decode cX2_refresh 75 = .ok (.iload_n 3, 1) := by decide +kernel
theorem dX2_refresh_76 : decode cX2_refresh 76 = .ok (.iadd, 1) := by decide +kernel
theorem dX2_refresh_77 : decode cX2_refresh 77 = .ok (.invokevirtual 63, 3) := by decide +kernel
theorem dX2_refresh_80 : decode cX2_refresh 80 = .ok (.iinc 3 1, 3) := by decide +kernel
theorem dX2_refresh_83 : decode cX2_refresh 83 = .ok (.goto (-40), 3) := by decide +kernel
theorem dX2_refresh_86 : decode cX2_refresh 86 = .ok (.iinc 2 1, 3) := by decide +kernel
theorem dX2_refresh_89 : decode cX2_refresh 89 = .ok (.goto (-59), 3) := by decide +kernel
theorem dX2_refresh_92 : decode cX2_refresh 92 = .ok (.iconst 0, 1) := by decide +kernel
theorem dX2_refresh_93 : decode cX2_refresh 93 = .ok (.istore_n 2, 1) := by decide +kernel
theorem dX2_refresh_94 : decode cX2_refresh 94 = .ok (.aload_n 0, 1) := by decide +kernel
theorem dX2_refresh_95 : decode cX2_refresh 95 = .ok (.getfield 21, 3) := by decide +kernel
theorem dX2_refresh_98 : decode cX2_refresh 98 = .ok (.iload_n 1, 1) := by decide +kernel
theorem dX2_refresh_99 : decode cX2_refresh 99 = .ok (.invokevirtual 67, 3) := by decide +kernel
theorem dX2_refresh_102 : decode cX2_refresh 102 = .ok (.istore_n 3, 1) := by decide +kernel
theorem dX2_refresh_103 : decode cX2_refresh 103 = .ok (.iload_n 3, 1) := by decide +kernel
theorem dX2_refresh_104 : decode cX2_refresh 104 = .ok (.ifCond .le 27, 3) := by decide +kernel
theorem dX2_refresh_107 : decode cX2_refresh 107 = .ok (.iload_n 2, 1) := by decide +kernel
theorem dX2_refresh_108 : decode cX2_refresh 108 = .ok (.ifCond .lt 23, 3) := by decide +kernel
theorem dX2_refresh_111 : decode cX2_refresh 111 = .ok (.aload_n 0, 1) := by decide +kernel
theorem dX2_refresh_112 : decode cX2_refresh 112 = .ok (.getfield 34, 3) := by decide +kernel
theorem dX2_refresh_115 : decode cX2_refresh 115 = .ok (.aload_n 0, 1) := by decide +kernel
theorem dX2_refresh_116 : decode cX2_refresh 116 = .ok (.iload_n 2, 1) := by decide +kernel
theorem dX2_refresh_117 : decode cX2_refresh 117 = .ok (.iload_n 1, 1) := by decide +kernel
theorem dX2_refresh_118 : decode cX2_refresh 118 = .ok (.invokevirtual 72, 3) := by decide +kernel
theorem dX2_refresh_121 : decode cX2_refresh 121 = .ok (.invokevirtual 75, 3) := by decide +kernel
theorem dX2_refresh_124 : decode cX2_refresh 124 = .ok (.istore_n 2, 1) := by decide +kernel
theorem dX2_refresh_125 : decode cX2_refresh 125 = .ok (.iinc 3 (-1), 3) := by decide +kernel
theorem dX2_refresh_128 : decode cX2_refresh 128 = .ok (.goto (-25), 3) := by decide +kernel
theorem dX2_refresh_131 : decode cX2_refresh 131 = .ok (.return_, 1) := by decide +kernel
theorem dX2_descend_0 : decode cX2_descend 0 = .ok (.iload_n 1, 1) := by decide +kernel
theorem dX2_descend_1 : decode cX2_descend 1 = .ok (.istore_n 3, 1) := by decide +kernel
theorem dX2_descend_2 : decode cX2_descend 2 = .ok (.iload_n 3, 1) := by decide +kernel
theorem dX2_descend_3 : decode cX2_descend 3 = .ok (.iload_n 2, 1) := by decide +kernel
theorem dX2_descend_4 : decode cX2_descend 4 = .ok (.if_icmp .ge 66, 3) := by decide +kernel
theorem dX2_descend_7 : decode cX2_descend 7 = .ok (.aload_n 0, 1) := by decide +kernel
theorem dX2_descend_8 : decode cX2_descend 8 = .ok (.getfield 34, 3) := by decide +kernel
theorem dX2_descend_11 : decode cX2_descend 11 = .ok (.iload_n 3, 1) := by decide +kernel
theorem dX2_descend_12 : decode cX2_descend 12 = .ok (.invokevirtual 78, 3) := by decide +kernel
theorem dX2_descend_15 : decode cX2_descend 15 = .ok (.aload_n 0, 1) := by decide +kernel
theorem dX2_descend_16 : decode cX2_descend 16 = .ok (.iload_n 3, 1) := by decide +kernel
theorem dX2_descend_17 : decode cX2_descend 17 = .ok (.iload_n 2, 1) := by decide +kernel
theorem dX2_descend_18 : decode cX2_descend 18 = .ok (.invokevirtual 81, 3) := by decide +kernel
theorem dX2_descend_21 : decode cX2_descend 21 = .ok (.istore 4, 2) := by decide +kernel
theorem dX2_descend_23 : decode cX2_descend 23 = .ok (.iload 4, 2) := by decide +kernel
theorem dX2_descend_25 : decode cX2_descend 25 = .ok (.aload_n 0, 1) := by decide +kernel
theorem dX2_descend_26 : decode cX2_descend 26 = .ok (.getfield 9, 3) := by decide +kernel
theorem dX2_descend_29 : decode cX2_descend 29 = .ok (.iload_n 2, 1) := by decide +kernel
theorem dX2_descend_30 : decode cX2_descend 30 = .ok (.iaload, 1) := by decide +kernel
theorem dX2_descend_31 : decode cX2_descend 31 = .ok (.if_icmp .lt 5, 3) := by decide +kernel
theorem dX2_descend_34 : decode cX2_descend 34 = .ok (.iload_n 3, 1) := by decide +kernel
theorem dX2_descend_35 : decode cX2_descend 35 = .ok (.ireturn, 1) := by decide +kernel
theorem dX2_descend_36 : decode cX2_descend 36 = .ok (.iload_n 3, 1) := by decide +kernel
theorem dX2_descend_37 : decode cX2_descend 37 = .ok (.iload_n 2, 1) := by decide +kernel
theorem dX2_descend_38 : decode cX2_descend 38 = .ok (.iconst 1, 1) := by decide +kernel
theorem dX2_descend_39 : decode cX2_descend 39 = .ok (.isub, 1) := by decide +kernel
theorem dX2_descend_40 : decode cX2_descend 40 = .ok (.if_icmp .ne 24, 3) := by decide +kernel
theorem dX2_descend_43 : decode cX2_descend 43 = .ok (.aload_n 0, 1) := by decide +kernel
theorem dX2_descend_44 : decode cX2_descend 44 = .ok (.getfield 9, 3) := by decide +kernel
theorem dX2_descend_47 : decode cX2_descend 47 = .ok (.iload_n 2, 1) := by decide +kernel
theorem dX2_descend_48 : decode cX2_descend 48 = .ok (.iload 4, 2) := by decide +kernel
theorem dX2_descend_50 : decode cX2_descend 50 = .ok (.iastore, 1) := by decide +kernel
theorem dX2_descend_51 : decode cX2_descend 51 = .ok (.aload_n 0, 1) := by decide +kernel
theorem dX2_descend_52 : decode cX2_descend 52 = .ok (.getfield 15, 3) := by decide +kernel
theorem dX2_descend_55 : decode cX2_descend 55 = .ok (.iload_n 2, 1) := by decide +kernel
theorem dX2_descend_56 : decode cX2_descend 56 = .ok (.aload_n 0, 1) := by decide +kernel
theorem dX2_descend_57 : decode cX2_descend 57 = .ok (.getfield 34, 3) := by decide +kernel
theorem dX2_descend_60 : decode cX2_descend 60 = .ok (.invokevirtual 84, 3) := by decide +kernel
theorem dX2_descend_63 : decode cX2_descend 63 = .ok (.iastore, 1) := by decide +kernel
theorem dX2_descend_64 : decode cX2_descend 64 = .ok (.iinc 3 1, 3) := by decide +kernel
theorem dX2_descend_67 : decode cX2_descend 67 = .ok (.goto (-65), 3) := by decide +kernel
theorem dX2_descend_70 : decode cX2_descend 70 = .ok (.iload_n 2, 1) := by decide +kernel
theorem dX2_descend_71 : decode cX2_descend 71 = .ok (.iconst 1, 1) := by decide +kernel
theorem dX2_descend_72 : decode cX2_descend 72 = .ok (.isub, 1) := by decide +kernel
theorem dX2_descend_73 : decode cX2_descend 73 = .ok (.ireturn, 1) := by decide +kernel
theorem dX2_leastReach_0 : decode cX2_leastReach 0 = .ok (.iconst 0, 1) := by decide +kernel
theorem dX2_leastReach_1 : decode cX2_leastReach 1 = .ok (.istore_n 3, 1) := by decide +kernel
theorem dX2_leastReach_2 : decode cX2_leastReach 2 = .ok (.iconst 0, 1) := by decide +kernel
theorem dX2_leastReach_3 : decode cX2_leastReach 3 = .ok (.istore 4, 2) := by decide +kernel
theorem dX2_leastReach_5 : decode cX2_leastReach 5 = .ok (.iconst 0, 1) := by decide +kernel
theorem dX2_leastReach_6 : decode cX2_leastReach 6 = .ok (.istore 5, 2) := by decide +kernel
theorem dX2_leastReach_8 : decode cX2_leastReach 8 = .ok (.iload 5, 2) := by decide +kernel
theorem dX2_leastReach_10 : decode cX2_leastReach 10 = .ok (.aload_n 0, 1) := by decide +kernel
theorem dX2_leastReach_11 : decode cX2_leastReach 11 = .ok (.getfield 25, 3) := by decide +kernel
theorem dX2_leastReach_14 : decode cX2_leastReach 14 = .ok (.getfield 46, 3) := by decide +kernel
theorem dX2_leastReach_17 : decode cX2_leastReach 17 = .ok (.if_icmp .ge 42, 3) := by decide +kernel
theorem dX2_leastReach_20 : decode cX2_leastReach 20 = .ok (.iload 4, 2) := by decide +kernel
theorem dX2_leastReach_22 : decode cX2_leastReach 22 = .ok (.aload_n 0, 1) := by decide +kernel
theorem dX2_leastReach_23 : decode cX2_leastReach 23 = .ok (.getfield 25, 3) := by decide +kernel
theorem dX2_leastReach_26 : decode cX2_leastReach 26 = .ok (.iload 5, 2) := by decide +kernel
theorem dX2_leastReach_28 : decode cX2_leastReach 28 = .ok (.iload_n 2, 1) := by decide +kernel
theorem dX2_leastReach_29 : decode cX2_leastReach 29 = .ok (.invokevirtual 52, 3) := by decide +kernel
theorem dX2_leastReach_32 : decode cX2_leastReach 32 = .ok (.iadd, 1) := by decide +kernel
theorem dX2_leastReach_33 : decode cX2_leastReach 33 = .ok (.istore 6, 2) := by decide +kernel
theorem dX2_leastReach_35 : decode cX2_leastReach 35 = .ok (.iload_n 3, 1) := by decide +kernel
theorem dX2_leastReach_36 : decode cX2_leastReach 36 = .ok (.aload_n 0, 1) := by decide +kernel
theorem dX2_leastReach_37 : decode cX2_leastReach 37 = .ok (.iload_n 1, 1) := by decide +kernel
theorem dX2_leastReach_38 : decode cX2_leastReach 38 = .ok (.iload 4, 2) := by decide +kernel
theorem dX2_leastReach_40 : decode cX2_leastReach 40 = .ok (.iload 6, 2) := by decide +kernel
theorem dX2_leastReach_42 : decode cX2_leastReach 42 = .ok (.invokevirtual 88, 3) := by decide +kernel
theorem dX2_leastReach_45 : decode cX2_leastReach 45 = .ok (.invokestatic 92, 3) := by decide +kernel
theorem dX2_leastReach_48 : decode cX2_leastReach 48 = .ok (.istore_n 3, 1) := by decide +kernel
theorem dX2_leastReach_49 : decode cX2_leastReach 49 = .ok (.iload 6, 2) := by decide +kernel
theorem dX2_leastReach_51 : decode cX2_leastReach 51 = .ok (.istore 4, 2) := by decide +kernel
theorem dX2_leastReach_53 : decode cX2_leastReach 53 = .ok (.iinc 5 1, 3) := by decide +kernel
theorem dX2_leastReach_56 : decode cX2_leastReach 56 = .ok (.goto (-48), 3) := by decide +kernel
theorem dX2_leastReach_59 : decode cX2_leastReach 59 = .ok (.iload_n 3, 1) := by decide +kernel
theorem dX2_leastReach_60 : decode cX2_leastReach 60 = .ok (.ireturn, 1) := by decide +kernel
theorem dX2_leastSum_0 : decode cX2_leastSum 0 = .ok (.iload_n 1, 1) := by decide +kernel
theorem dX2_leastSum_1 : decode cX2_leastSum 1 = .ok (.aload_n 0, 1) := by decide +kernel
theorem dX2_leastSum_2 : decode cX2_leastSum 2 = .ok (.getfield 34, 3) := by decide +kernel
theorem dX2_leastSum_5 : decode cX2_leastSum 5 = .ok (.getfield 97, 3) := by decide +kernel
theorem dX2_leastSum_8 : decode cX2_leastSum 8 = .ok (.imul, 1) := by decide +kernel
theorem dX2_leastSum_9 : decode cX2_leastSum 9 = .ok (.istore 4, 2) := by decide +kernel
theorem dX2_leastSum_11 : decode cX2_leastSum 11 = .ok (.aload_n 0, 1) := by decide +kernel
theorem dX2_leastSum_12 : decode cX2_leastSum 12 = .ok (.getfield 21, 3) := by decide +kernel
theorem dX2_leastSum_15 : decode cX2_leastSum 15 = .ok (.getfield 100, 3) := by decide +kernel
theorem dX2_leastSum_18 : decode cX2_leastSum 18 = .ok (.ifCond .le 20, 3) := by decide +kernel
theorem dX2_leastSum_21 : decode cX2_leastSum 21 = .ok (.iload_n 1, 1) := by decide +kernel
theorem dX2_leastSum_22 : decode cX2_leastSum 22 = .ok (.aload_n 0, 1) := by decide +kernel
theorem dX2_leastSum_23 : decode cX2_leastSum 23 = .ok (.getfield 34, 3) := by decide +kernel
theorem dX2_leastSum_26 : decode cX2_leastSum 26 = .ok (.getfield 103, 3) := by decide +kernel
theorem dX2_leastSum_29 : decode cX2_leastSum 29 = .ok (.iconst 1, 1) := by decide +kernel
theorem dX2_leastSum_30 : decode cX2_leastSum 30 = .ok (.isub, 1) := by decide +kernel
theorem dX2_leastSum_31 : decode cX2_leastSum 31 = .ok (.if_icmp .ge 7, 3) := by decide +kernel
theorem dX2_leastSum_34 : decode cX2_leastSum 34 = .ok (.iconst 1, 1) := by decide +kernel
theorem dX2_leastSum_35 : decode cX2_leastSum 35 = .ok (.goto 4, 3) := by decide +kernel
theorem dX2_leastSum_38 : decode cX2_leastSum 38 = .ok (.iconst 0, 1) := by decide +kernel
theorem dX2_leastSum_39 : decode cX2_leastSum 39 = .ok (.istore 5, 2) := by decide +kernel
theorem dX2_leastSum_41 : decode cX2_leastSum 41 = .ok (.ldc 41, 2) := by decide +kernel
theorem dX2_leastSum_43 : decode cX2_leastSum 43 = .ok (.istore 6, 2) := by decide +kernel
theorem dX2_leastSum_45 : decode cX2_leastSum 45 = .ok (.iload_n 2, 1) := by decide +kernel
theorem dX2_leastSum_46 : decode cX2_leastSum 46 = .ok (.istore 7, 2) := by decide +kernel
theorem dX2_leastSum_48 : decode cX2_leastSum 48 = .ok (.iload 7, 2) := by decide +kernel
theorem dX2_leastSum_50 : decode cX2_leastSum 50 = .ok (.iload_n 3, 1) := by decide +kernel
theorem dX2_leastSum_51 : decode cX2_leastSum 51 = .ok (.if_icmp .ge 97, 3) := by decide +kernel
theorem dX2_leastSum_54 : decode cX2_leastSum 54 = .ok (.aload_n 0, 1) := by decide +kernel
theorem dX2_leastSum_55 : decode cX2_leastSum 55 = .ok (.getfield 34, 3) := by decide +kernel
theorem dX2_leastSum_58 : decode cX2_leastSum 58 = .ok (.getfield 106, 3) := by decide +kernel
theorem dX2_leastSum_61 : decode cX2_leastSum 61 = .ok (.iload 4, 2) := by decide +kernel
theorem dX2_leastSum_63 : decode cX2_leastSum 63 = .ok (.aload_n 0, 1) := by decide +kernel
theorem dX2_leastSum_64 : decode cX2_leastSum 64 = .ok (.getfield 34, 3) := by decide +kernel
theorem dX2_leastSum_67 : decode cX2_leastSum 67 = .ok (.getfield 97, 3) := by decide +kernel
theorem dX2_leastSum_70 : decode cX2_leastSum 70 = .ok (.iadd, 1) := by decide +kernel
theorem dX2_leastSum_71 : decode cX2_leastSum 71 = .ok (.iload 7, 2) := by decide +kernel
theorem dX2_leastSum_73 : decode cX2_leastSum 73 = .ok (.iadd, 1) := by decide +kernel
theorem dX2_leastSum_74 : decode cX2_leastSum 74 = .ok (.iaload, 1) := by decide +kernel
theorem dX2_leastSum_75 : decode cX2_leastSum 75 = .ok (.istore 8, 2) := by decide +kernel
theorem dX2_leastSum_77 : decode cX2_leastSum 77 = .ok (.iload 5, 2) := by decide +kernel
theorem dX2_leastSum_79 : decode cX2_leastSum 79 = .ok (.ifCond .eq 52, 3) := by decide +kernel
theorem dX2_leastSum_82 : decode cX2_leastSum 82 = .ok (.aload_n 0, 1) := by decide +kernel
theorem dX2_leastSum_83 : decode cX2_leastSum 83 = .ok (.getfield 34, 3) := by decide +kernel
theorem dX2_leastSum_86 : decode cX2_leastSum 86 = .ok (.getfield 106, 3) := by decide +kernel
theorem dX2_leastSum_89 : decode cX2_leastSum 89 = .ok (.iload 4, 2) := by decide +kernel
theorem dX2_leastSum_91 : decode cX2_leastSum 91 = .ok (.iload 7, 2) := by decide +kernel
theorem dX2_leastSum_93 : decode cX2_leastSum 93 = .ok (.iadd, 1) := by decide +kernel
theorem dX2_leastSum_94 : decode cX2_leastSum 94 = .ok (.iaload, 1) := by decide +kernel
theorem dX2_leastSum_95 : decode cX2_leastSum 95 = .ok (.aload_n 0, 1) := by decide +kernel
theorem dX2_leastSum_96 : decode cX2_leastSum 96 = .ok (.getfield 21, 3) := by decide +kernel
theorem dX2_leastSum_99 : decode cX2_leastSum 99 = .ok (.getfield 100, 3) := by decide +kernel
theorem dX2_leastSum_102 : decode cX2_leastSum 102 = .ok (.iadd, 1) := by decide +kernel
theorem dX2_leastSum_103 : decode cX2_leastSum 103 = .ok (.iload 8, 2) := by decide +kernel
theorem dX2_leastSum_105 : decode cX2_leastSum 105 = .ok (.if_icmp .ge 26, 3) := by decide +kernel
theorem dX2_leastSum_108 : decode cX2_leastSum 108 = .ok (.aload_n 0, 1) := by decide +kernel
theorem dX2_leastSum_109 : decode cX2_leastSum 109 = .ok (.getfield 34, 3) := by decide +kernel
theorem dX2_leastSum_112 : decode cX2_leastSum 112 = .ok (.getfield 106, 3) := by decide +kernel
theorem dX2_leastSum_115 : decode cX2_leastSum 115 = .ok (.iload 4, 2) := by decide +kernel
theorem dX2_leastSum_117 : decode cX2_leastSum 117 = .ok (.iload 7, 2) := by decide +kernel
theorem dX2_leastSum_119 : decode cX2_leastSum 119 = .ok (.iadd, 1) := by decide +kernel
theorem dX2_leastSum_120 : decode cX2_leastSum 120 = .ok (.iaload, 1) := by decide +kernel
theorem dX2_leastSum_121 : decode cX2_leastSum 121 = .ok (.aload_n 0, 1) := by decide +kernel
theorem dX2_leastSum_122 : decode cX2_leastSum 122 = .ok (.getfield 21, 3) := by decide +kernel
theorem dX2_leastSum_125 : decode cX2_leastSum 125 = .ok (.getfield 100, 3) := by decide +kernel
theorem dX2_leastSum_128 : decode cX2_leastSum 128 = .ok (.iadd, 1) := by decide +kernel
theorem dX2_leastSum_129 : decode cX2_leastSum 129 = .ok (.istore 8, 2) := by decide +kernel
theorem dX2_leastSum_131 : decode cX2_leastSum 131 = .ok (.iload 8, 2) := by decide +kernel
theorem dX2_leastSum_133 : decode cX2_leastSum 133 = .ok (.iload 6, 2) := by decide +kernel
theorem dX2_leastSum_135 : decode cX2_leastSum 135 = .ok (.if_icmp .ge 7, 3) := by decide +kernel
theorem dX2_leastSum_138 : decode cX2_leastSum 138 = .ok (.iload 8, 2) := by decide +kernel
theorem dX2_leastSum_140 : decode cX2_leastSum 140 = .ok (.istore 6, 2) := by decide +kernel
theorem dX2_leastSum_142 : decode cX2_leastSum 142 = .ok (.iinc 7 1, 3) := by decide +kernel
theorem dX2_leastSum_145 : decode cX2_leastSum 145 = .ok (.goto (-97), 3) := by decide +kernel
theorem dX2_leastSum_148 : decode cX2_leastSum 148 = .ok (.iload 6, 2) := by decide +kernel
theorem dX2_leastSum_150 : decode cX2_leastSum 150 = .ok (.ireturn, 1) := by decide +kernel
theorem dX2_nearestPiece_0 : decode cX2_nearestPiece 0 = .ok (.iconst 0, 1) := by decide +kernel
theorem dX2_nearestPiece_1 : decode cX2_nearestPiece 1 = .ok (.istore_n 3, 1) := by decide +kernel
theorem dX2_nearestPiece_2 : decode cX2_nearestPiece 2 = .ok (.iload_n 3, 1) := by decide +kernel
theorem dX2_nearestPiece_3 : decode cX2_nearestPiece 3 = .ok (.iload_n 1, 1) := by decide +kernel
theorem dX2_nearestPiece_4 : decode cX2_nearestPiece 4 = .ok (.if_icmp .ge 26, 3) := by decide +kernel
theorem dX2_nearestPiece_7 : decode cX2_nearestPiece 7 = .ok (.aload_n 0, 1) := by decide +kernel
theorem dX2_nearestPiece_8 : decode cX2_nearestPiece 8 = .ok (.getfield 18, 3) := by decide +kernel
theorem dX2_nearestPiece_11 : decode cX2_nearestPiece 11 = .ok (.iload_n 3, 1) := by decide +kernel
theorem dX2_nearestPiece_12 : decode cX2_nearestPiece 12 = .ok (.aload_n 0, 1) := by decide +kernel
theorem dX2_nearestPiece_13 : decode cX2_nearestPiece 13 = .ok (.getfield 15, 3) := by decide +kernel
theorem dX2_nearestPiece_16 : decode cX2_nearestPiece 16 = .ok (.iload_n 1, 1) := by decide +kernel
theorem dX2_nearestPiece_17 : decode cX2_nearestPiece 17 = .ok (.iaload, 1) := by decide +kernel
theorem dX2_nearestPiece_18 : decode cX2_nearestPiece 18 = .ok (.iload_n 1, 1) := by decide +kernel
theorem dX2_nearestPiece_19 : decode cX2_nearestPiece 19 = .ok (.iload_n 3, 1) := by decide +kernel
theorem dX2_nearestPiece_20 : decode cX2_nearestPiece 20 = .ok (.invokestatic 109, 3) := by decide +kernel
theorem dX2_nearestPiece_23 : decode cX2_nearestPiece 23 = .ok (.iastore, 1) := by decide +kernel
theorem dX2_nearestPiece_24 : decode cX2_nearestPiece 24 = .ok (.iinc 3 1, 3) := by decide +kernel
theorem dX2_nearestPiece_27 : decode cX2_nearestPiece 27 = .ok (.goto (-25), 3) := by decide +kernel
theorem dX2_nearestPiece_30 : decode cX2_nearestPiece 30 = .ok (.iconst 0, 1) := by decide +kernel
theorem dX2_nearestPiece_31 : decode cX2_nearestPiece 31 = .ok (.istore_n 3, 1) := by decide +kernel
theorem dX2_nearestPiece_32 : decode cX2_nearestPiece 32 = .ok (.ldc 41, 2) := by decide +kernel
theorem dX2_nearestPiece_34 : decode cX2_nearestPiece 34 = .ok (.istore 4, 2) := by decide +kernel
theorem dX2_nearestPiece_36 : decode cX2_nearestPiece 36 = .ok (.iconst 0, 1) := by decide +kernel
theorem dX2_nearestPiece_37 : decode cX2_nearestPiece 37 = .ok (.istore 5, 2) := by decide +kernel
theorem dX2_nearestPiece_39 : decode cX2_nearestPiece 39 = .ok (.iload 5, 2) := by decide +kernel
theorem dX2_nearestPiece_41 : decode cX2_nearestPiece 41 = .ok (.aload_n 0, 1) := by decide +kernel
theorem dX2_nearestPiece_42 : decode cX2_nearestPiece 42 = .ok (.getfield 25, 3) := by decide +kernel
theorem dX2_nearestPiece_45 : decode cX2_nearestPiece 45 = .ok (.iload_n 2, 1) := by decide +kernel
theorem dX2_nearestPiece_46 : decode cX2_nearestPiece 46 = .ok (.iload_n 1, 1) := by decide +kernel
theorem dX2_nearestPiece_47 : decode cX2_nearestPiece 47 = .ok (.invokevirtual 52, 3) := by decide +kernel
theorem dX2_nearestPiece_50 : decode cX2_nearestPiece 50 = .ok (.if_icmp .ge 56, 3) := by decide +kernel
theorem dX2_nearestPiece_53 : decode cX2_nearestPiece 53 = .ok (.aload_n 0, 1) := by decide +kernel
theorem dX2_nearestPiece_54 : decode cX2_nearestPiece 54 = .ok (.getfield 21, 3) := by decide +kernel
theorem dX2_nearestPiece_57 : decode cX2_nearestPiece 57 = .ok (.aload_n 0, 1) := by decide +kernel
theorem dX2_nearestPiece_58 : decode cX2_nearestPiece 58 = .ok (.getfield 18, 3) := by decide +kernel
theorem dX2_nearestPiece_61 : decode cX2_nearestPiece 61 = .ok (.iconst 0, 1) := by decide +kernel
theorem dX2_nearestPiece_62 : decode cX2_nearestPiece 62 = .ok (.aload_n 0, 1) := by decide +kernel
theorem dX2_nearestPiece_63 : decode cX2_nearestPiece 63 = .ok (.getfield 25, 3) := by decide +kernel
theorem dX2_nearestPiece_66 : decode cX2_nearestPiece 66 = .ok (.getfield 56, 3) := by decide +kernel
theorem dX2_nearestPiece_69 : decode cX2_nearestPiece 69 = .ok (.aload_n 0, 1) := by decide +kernel
theorem dX2_nearestPiece_70 : decode cX2_nearestPiece 70 = .ok (.getfield 25, 3) := by decide +kernel
theorem dX2_nearestPiece_73 : decode cX2_nearestPiece 73 = .ok (.iload_n 2, 1) := by decide +kernel
theorem dX2_nearestPiece_74 : decode cX2_nearestPiece 74 = .ok (.invokevirtual 59, 3) := by decide +kernel
theorem dX2_nearestPiece_77 : decode cX2_nearestPiece 77 = .ok (.iload 5, 2) := by decide +kernel
theorem dX2_nearestPiece_79 : decode cX2_nearestPiece 79 = .ok (.iadd, 1) := by decide +kernel
theorem dX2_nearestPiece_80 : decode cX2_nearestPiece 80 = .ok (.iload_n 1, 1) := by decide +kernel
theorem dX2_nearestPiece_81 : decode cX2_nearestPiece 81 = .ok (.invokevirtual 112, 3) := by decide +kernel
theorem dX2_nearestPiece_84 : decode cX2_nearestPiece 84 = .ok (.istore 6, 2) := by decide +kernel
theorem dX2_nearestPiece_86 : decode cX2_nearestPiece 86 = .ok (.iload 6, 2) := by decide +kernel
theorem dX2_nearestPiece_88 : decode cX2_nearestPiece 88 = .ok (.iload 4, 2) := by decide +kernel
theorem dX2_nearestPiece_90 : decode cX2_nearestPiece 90 = .ok (.if_icmp .ge 10, 3) := by decide +kernel
theorem dX2_nearestPiece_93 : decode cX2_nearestPiece 93 = .ok (.iload 6, 2) := by decide +kernel
theorem dX2_nearestPiece_95 : decode cX2_nearestPiece 95 = .ok (.istore 4, 2) := by decide +kernel
theorem dX2_nearestPiece_97 : decode cX2_nearestPiece 97 = .ok (.iload 5, 2) := by decide +kernel
theorem dX2_nearestPiece_99 : decode cX2_nearestPiece 99 = .ok (.istore_n 3, 1) := by decide +kernel
theorem dX2_nearestPiece_100 : decode cX2_nearestPiece 100 = .ok (.iinc 5 1, 3) := by decide +kernel
theorem dX2_nearestPiece_103 : decode cX2_nearestPiece 103 = .ok (.goto (-64), 3) := by decide +kernel
theorem dX2_nearestPiece_106 : decode cX2_nearestPiece 106 = .ok (.iload_n 3, 1) := by decide +kernel
theorem dX2_nearestPiece_107 : decode cX2_nearestPiece 107 = .ok (.ireturn, 1) := by decide +kernel
theorem dX3_init_0 : decode cX3_init 0 = .ok (.aload_n 0, 1) := by decide +kernel
theorem dX3_init_1 : decode cX3_init 1 = .ok (.invokespecial 3, 3) := by decide +kernel
theorem dX3_init_4 : decode cX3_init 4 = .ok (.aload_n 0, 1) := by decide +kernel
theorem dX3_init_5 : decode cX3_init 5 = .ok (.iconst 4, 1) := by decide +kernel
theorem dX3_init_6 : decode cX3_init 6 = .ok (.putfield 9, 3) := by decide +kernel
theorem dX3_init_9 : decode cX3_init 9 = .ok (.aload_n 0, 1) := by decide +kernel
theorem dX3_init_10 : decode cX3_init 10 = .ok (.iconst 0, 1) := by decide +kernel
theorem dX3_init_11 : decode cX3_init 11 = .ok (.putfield 15, 3) := by decide +kernel
theorem dX3_init_14 : decode cX3_init 14 = .ok (.aload_n 0, 1) := by decide +kernel
theorem dX3_init_15 : decode cX3_init 15 = .ok (.iconst 2, 1) := by decide +kernel
theorem dX3_init_16 : decode cX3_init 16 = .ok (.putfield 18, 3) := by decide +kernel
theorem dX3_init_19 : decode cX3_init 19 = .ok (.aload_n 0, 1) := by decide +kernel
theorem dX3_init_20 : decode cX3_init 20 = .ok (.iconst 0, 1) := by decide +kernel
theorem dX3_init_21 : decode cX3_init 21 = .ok (.putfield 21, 3) := by decide +kernel
theorem dX3_init_24 : decode cX3_init 24 = .ok (.aload_n 0, 1) := by decide +kernel
theorem dX3_init_25 : decode cX3_init 25 = .ok (.bipush 16, 2) := by decide +kernel
theorem dX3_init_27 : decode cX3_init 27 = .ok (.newarray .int, 2) := by decide +kernel
theorem dX3_init_29 : decode cX3_init 29 = .ok (.putfield 24, 3) := by decide +kernel
theorem dX3_init_32 : decode cX3_init 32 = .ok (.iconst 0, 1) := by decide +kernel
theorem dX3_init_33 : decode cX3_init 33 = .ok (.istore_n 1, 1) := by decide +kernel
theorem dX3_init_34 : decode cX3_init 34 = .ok (.iload_n 1, 1) := by decide +kernel
theorem dX3_init_35 : decode cX3_init 35 = .ok (.iconst 4, 1) := by decide +kernel
theorem dX3_init_36 : decode cX3_init 36 = .ok (.if_icmp .ge 42, 3) := by decide +kernel
theorem dX3_init_39 : decode cX3_init 39 = .ok (.iconst 0, 1) := by decide +kernel
theorem dX3_init_40 : decode cX3_init 40 = .ok (.istore_n 2, 1) := by decide +kernel
theorem dX3_init_41 : decode cX3_init 41 = .ok (.iload_n 2, 1) := by decide +kernel
theorem dX3_init_42 : decode cX3_init 42 = .ok (.iconst 4, 1) := by decide +kernel
theorem dX3_init_43 : decode cX3_init 43 = .ok (.if_icmp .ge 29, 3) := by decide +kernel
theorem dX3_init_46 : decode cX3_init 46 = .ok (.aload_n 0, 1) := by decide +kernel
theorem dX3_init_47 : decode cX3_init 47 = .ok (.getfield 24, 3) := by decide +kernel
theorem dX3_init_50 : decode cX3_init 50 = .ok (.iload_n 1, 1) := by decide +kernel
theorem dX3_init_51 : decode cX3_init 51 = .ok (.iconst 4, 1) := by decide +kernel
theorem dX3_init_52 : decode cX3_init 52 = .ok (.imul, 1) := by decide +kernel
theorem dX3_init_53 : decode cX3_init 53 = .ok (.iload_n 2, 1) := by decide +kernel
theorem dX3_init_54 : decode cX3_init 54 = .ok (.iadd, 1) := by decide +kernel
theorem dX3_init_55 : decode cX3_init 55 = .ok (.iload_n 1, 1) := by decide +kernel
theorem dX3_init_56 : decode cX3_init 56 = .ok (.iload_n 2, 1) := by decide +kernel
theorem dX3_init_57 : decode cX3_init 57 = .ok (.if_icmp .ne 7, 3) := by decide +kernel
theorem dX3_init_60 : decode cX3_init 60 = .ok (.iconst 0, 1) := by decide +kernel
theorem dX3_init_61 : decode cX3_init 61 = .ok (.goto 4, 3) := by decide +kernel
theorem dX3_init_64 : decode cX3_init 64 = .ok (.iconst 1, 1) := by decide +kernel
theorem dX3_init_65 : decode cX3_init 65 = .ok (.iastore, 1) := by decide +kernel
theorem dX3_init_66 : decode cX3_init 66 = .ok (.iinc 2 1, 3) := by decide +kernel
theorem dX3_init_69 : decode cX3_init 69 = .ok (.goto (-28), 3) := by decide +kernel
theorem dX3_init_72 : decode cX3_init 72 = .ok (.iinc 1 1, 3) := by decide +kernel
theorem dX3_init_75 : decode cX3_init 75 = .ok (.goto (-41), 3) := by decide +kernel
theorem dX3_init_78 : decode cX3_init 78 = .ok (.return_, 1) := by decide +kernel
theorem dX3_setPrice_0 : decode cX3_setPrice 0 = .ok (.aload_n 0, 1) := by decide +kernel
theorem dX3_setPrice_1 : decode cX3_setPrice 1 = .ok (.getfield 24, 3) := by decide +kernel
theorem dX3_setPrice_4 : decode cX3_setPrice 4 = .ok (.iload_n 1, 1) := by decide +kernel
theorem dX3_setPrice_5 : decode cX3_setPrice 5 = .ok (.iconst 4, 1) := by decide +kernel
theorem dX3_setPrice_6 : decode cX3_setPrice 6 = .ok (.imul, 1) := by decide +kernel
theorem dX3_setPrice_7 : decode cX3_setPrice 7 = .ok (.iload_n 2, 1) := by decide +kernel
theorem dX3_setPrice_8 : decode cX3_setPrice 8 = .ok (.iadd, 1) := by decide +kernel
theorem dX3_setPrice_9 : decode cX3_setPrice 9 = .ok (.iload_n 3, 1) := by decide +kernel
theorem dX3_setPrice_10 : decode cX3_setPrice 10 = .ok (.iastore, 1) := by decide +kernel
theorem dX3_setPrice_11 : decode cX3_setPrice 11 = .ok (.aload_n 0, 1) := by decide +kernel
theorem dX3_setPrice_12 : decode cX3_setPrice 12 = .ok (.getfield 24, 3) := by decide +kernel
theorem dX3_setPrice_15 : decode cX3_setPrice 15 = .ok (.iload_n 2, 1) := by decide +kernel
theorem dX3_setPrice_16 : decode cX3_setPrice 16 = .ok (.iconst 4, 1) := by decide +kernel
theorem dX3_setPrice_17 : decode cX3_setPrice 17 = .ok (.imul, 1) := by decide +kernel
theorem dX3_setPrice_18 : decode cX3_setPrice 18 = .ok (.iload_n 1, 1) := by decide +kernel
theorem dX3_setPrice_19 : decode cX3_setPrice 19 = .ok (.iadd, 1) := by decide +kernel
theorem dX3_setPrice_20 : decode cX3_setPrice 20 = .ok (.iload_n 3, 1) := by decide +kernel
theorem dX3_setPrice_21 : decode cX3_setPrice 21 = .ok (.iastore, 1) := by decide +kernel
theorem dX3_setPrice_22 : decode cX3_setPrice 22 = .ok (.return_, 1) := by decide +kernel
theorem dX3_distance_0 : decode cX3_distance 0 = .ok (.iconst 0, 1) := by decide +kernel
theorem dX3_distance_1 : decode cX3_distance 1 = .ok (.istore 6, 2) := by decide +kernel
theorem dX3_distance_3 : decode cX3_distance 3 = .ok (.iconst 0, 1) := by decide +kernel
theorem dX3_distance_4 : decode cX3_distance 4 = .ok (.istore 7, 2) := by decide +kernel
theorem dX3_distance_6 : decode cX3_distance 6 = .ok (.iconst 0, 1) := by decide +kernel
theorem dX3_distance_7 : decode cX3_distance 7 = .ok (.istore 8, 2) := by decide +kernel
theorem dX3_distance_9 : decode cX3_distance 9 = .ok (.iload 8, 2) := by decide +kernel
theorem dX3_distance_11 : decode cX3_distance 11 = .ok (.iload 5, 2) := by decide +kernel
theorem dX3_distance_13 : decode cX3_distance 13 = .ok (.if_icmp .ge 104, 3) := by decide +kernel
theorem dX3_distance_16 : decode cX3_distance 16 = .ok (.aload_n 1, 1) := by decide +kernel
theorem dX3_distance_17 : decode cX3_distance 17 = .ok (.iload_n 2, 1) := by decide +kernel
theorem dX3_distance_18 : decode cX3_distance 18 = .ok (.iload 8, 2) := by decide +kernel
theorem dX3_distance_20 : decode cX3_distance 20 = .ok (.iadd, 1) := by decide +kernel
theorem dX3_distance_21 : decode cX3_distance 21 = .ok (.iaload, 1) := by decide +kernel
theorem dX3_distance_22 : decode cX3_distance 22 = .ok (.istore 9, 2) := by decide +kernel
theorem dX3_distance_24 : decode cX3_distance 24 = .ok (.aload_n 3, 1) := by decide +kernel
theorem dX3_distance_25 : decode cX3_distance 25 = .ok (.iload 4, 2) := by decide +kernel
theorem dX3_distance_27 : decode cX3_distance 27 = .ok (.iload 8, 2) := by decide +kernel
theorem dX3_distance_29 : decode cX3_distance 29 = .ok (.iadd, 1) := by decide +kernel
theorem dX3_distance_30 : decode cX3_distance 30 = .ok (.iaload, 1) := by decide +kernel
theorem dX3_distance_31 : decode cX3_distance 31 = .ok (.istore 10, 2) := by decide +kernel
theorem dX3_distance_33 : decode cX3_distance 33 = .ok (.iload 7, 2) := by decide +kernel
theorem dX3_distance_35 : decode cX3_distance 35 = .ok (.aload_n 0, 1) := by decide +kernel
theorem dX3_distance_36 : decode cX3_distance 36 = .ok (.getfield 24, 3) := by decide +kernel
theorem dX3_distance_39 : decode cX3_distance 39 = .ok (.iload 9, 2) := by decide +kernel
theorem dX3_distance_41 : decode cX3_distance 41 = .ok (.iconst 4, 1) := by decide +kernel
theorem dX3_distance_42 : decode cX3_distance 42 = .ok (.imul, 1) := by decide +kernel
theorem dX3_distance_43 : decode cX3_distance 43 = .ok (.iload 10, 2) := by decide +kernel
theorem dX3_distance_45 : decode cX3_distance 45 = .ok (.iadd, 1) := by decide +kernel
theorem dX3_distance_46 : decode cX3_distance 46 = .ok (.iaload, 1) := by decide +kernel
theorem dX3_distance_47 : decode cX3_distance 47 = .ok (.iadd, 1) := by decide +kernel
theorem dX3_distance_48 : decode cX3_distance 48 = .ok (.istore 11, 2) := by decide +kernel
theorem dX3_distance_50 : decode cX3_distance 50 = .ok (.aload_n 0, 1) := by decide +kernel
theorem dX3_distance_51 : decode cX3_distance 51 = .ok (.getfield 15, 3) := by decide +kernel
theorem dX3_distance_54 : decode cX3_distance 54 = .ok (.ifCond .le 49, 3) := by decide +kernel
theorem dX3_distance_57 : decode cX3_distance 57 = .ok (.iload 8, 2) := by decide +kernel
theorem dX3_distance_59 : decode cX3_distance 59 = .ok (.ifCond .le 44, 3) := by decide +kernel
theorem dX3_distance_62 : decode cX3_distance 62 = .ok (.aload_n 1, 1) := by decide +kernel
theorem dX3_distance_63 : decode cX3_distance 63 = .ok (.iload_n 2, 1) := by decide +kernel
theorem dX3_distance_64 : decode cX3_distance 64 = .ok (.iload 8, 2) := by decide +kernel
theorem dX3_distance_66 : decode cX3_distance 66 = .ok (.iadd, 1) := by decide +kernel
theorem dX3_distance_67 : decode cX3_distance 67 = .ok (.iconst 1, 1) := by decide +kernel
theorem dX3_distance_68 : decode cX3_distance 68 = .ok (.isub, 1) := by decide +kernel
theorem dX3_distance_69 : decode cX3_distance 69 = .ok (.iaload, 1) := by decide +kernel
theorem dX3_distance_70 : decode cX3_distance 70 = .ok (.iload 10, 2) := by decide +kernel
theorem dX3_distance_72 : decode cX3_distance 72 = .ok (.if_icmp .ne 31, 3) := by decide +kernel
theorem dX3_distance_75 : decode cX3_distance 75 = .ok (.aload_n 3, 1) := by decide +kernel
theorem dX3_distance_76 : decode cX3_distance 76 = .ok (.iload 4, 2) := by decide +kernel
theorem dX3_distance_78 : decode cX3_distance 78 = .ok (.iload 8, 2) := by decide +kernel
theorem dX3_distance_80 : decode cX3_distance 80 = .ok (.iadd, 1) := by decide +kernel
theorem dX3_distance_81 : decode cX3_distance 81 = .ok (.iconst 1, 1) := by decide +kernel
theorem dX3_distance_82 : decode cX3_distance 82 = .ok (.isub, 1) := by decide +kernel
theorem dX3_distance_83 : decode cX3_distance 83 = .ok (.iaload, 1) := by decide +kernel
theorem dX3_distance_84 : decode cX3_distance 84 = .ok (.iload 9, 2) := by decide +kernel
theorem dX3_distance_86 : decode cX3_distance 86 = .ok (.if_icmp .ne 17, 3) := by decide +kernel
theorem dX3_distance_89 : decode cX3_distance 89 = .ok (.iload 11, 2) := by decide +kernel
theorem dX3_distance_91 : decode cX3_distance 91 = .ok (.iload 6, 2) := by decide +kernel
theorem dX3_distance_93 : decode cX3_distance 93 = .ok (.aload_n 0, 1) := by decide +kernel
theorem dX3_distance_94 : decode cX3_distance 94 = .ok (.getfield 15, 3) := by decide +kernel
theorem dX3_distance_97 : decode cX3_distance 97 = .ok (.iadd, 1) := by decide +kernel
theorem dX3_distance_98 : decode cX3_distance 98 = .ok (.invokestatic 28, 3) := by decide +kernel
theorem dX3_distance_101 : decode cX3_distance 101 = .ok (.istore 11, 2) := by decide +kernel
theorem dX3_distance_103 : decode cX3_distance 103 = .ok (.iload 7, 2) := by decide +kernel
theorem dX3_distance_105 : decode cX3_distance 105 = .ok (.istore 6, 2) := by decide +kernel
theorem dX3_distance_107 : decode cX3_distance 107 = .ok (.iload 11, 2) := by decide +kernel
theorem dX3_distance_109 : decode cX3_distance 109 = .ok (.istore 7, 2) := by decide +kernel
theorem dX3_distance_111 : decode cX3_distance 111 = .ok (.iinc 8 1, 3) := by decide +kernel
theorem dX3_distance_114 : decode cX3_distance 114 = .ok (.goto (-105), 3) := by decide +kernel
theorem dX3_distance_117 : decode cX3_distance 117 = .ok (.iload 7, 2) := by decide +kernel
theorem dX3_distance_119 : decode cX3_distance 119 = .ok (.ireturn, 1) := by decide +kernel
theorem dX3_rowsOf_0 : decode cX3_rowsOf 0 = .ok (.iconst 1, 1) := by decide +kernel
theorem dX3_rowsOf_1 : decode cX3_rowsOf 1 = .ok (.istore_n 2, 1) := by decide +kernel
theorem dX3_rowsOf_2 : decode cX3_rowsOf 2 = .ok (.iconst 0, 1) := by decide +kernel
theorem dX3_rowsOf_3 : decode cX3_rowsOf 3 = .ok (.istore_n 3, 1) := by decide +kernel
theorem dX3_rowsOf_4 : decode cX3_rowsOf 4 = .ok (.iload_n 3, 1) := by decide +kernel
theorem dX3_rowsOf_5 : decode cX3_rowsOf 5 = .ok (.iload_n 1, 1) := by decide +kernel
theorem dX3_rowsOf_6 : decode cX3_rowsOf 6 = .ok (.if_icmp .ge 16, 3) := by decide +kernel
theorem dX3_rowsOf_9 : decode cX3_rowsOf 9 = .ok (.iload_n 2, 1) := by decide +kernel
theorem dX3_rowsOf_10 : decode cX3_rowsOf 10 = .ok (.aload_n 0, 1) := by decide +kernel
theorem dX3_rowsOf_11 : decode cX3_rowsOf 11 = .ok (.getfield 9, 3) := by decide +kernel
theorem dX3_rowsOf_14 : decode cX3_rowsOf 14 = .ok (.imul, 1) := by decide +kernel
theorem dX3_rowsOf_15 : decode cX3_rowsOf 15 = .ok (.istore_n 2, 1) := by decide +kernel
theorem dX3_rowsOf_16 : decode cX3_rowsOf 16 = .ok (.iinc 3 1, 3) := by decide +kernel
theorem dX3_rowsOf_19 : decode cX3_rowsOf 19 = .ok (.goto (-15), 3) := by decide +kernel
theorem dX3_rowsOf_22 : decode cX3_rowsOf 22 = .ok (.iload_n 2, 1) := by decide +kernel
theorem dX3_rowsOf_23 : decode cX3_rowsOf 23 = .ok (.ireturn, 1) := by decide +kernel
theorem dX3_advance_0 : decode cX3_advance 0 = .ok (.iload_n 2, 1) := by decide +kernel
theorem dX3_advance_1 : decode cX3_advance 1 = .ok (.istore 4, 2) := by decide +kernel
theorem dX3_advance_3 : decode cX3_advance 3 = .ok (.iload 4, 2) := by decide +kernel
theorem dX3_advance_5 : decode cX3_advance 5 = .ok (.ifCond .lt 22, 3) := by decide +kernel
theorem dX3_advance_8 : decode cX3_advance 8 = .ok (.aload_n 1, 1) := by decide +kernel
theorem dX3_advance_9 : decode cX3_advance 9 = .ok (.iload 4, 2) := by decide +kernel
theorem dX3_advance_11 : decode cX3_advance 11 = .ok (.iaload, 1) := by decide +kernel
theorem dX3_advance_12 : decode cX3_advance 12 = .ok (.aload_n 0, 1) := by decide +kernel
theorem dX3_advance_13 : decode cX3_advance 13 = .ok (.getfield 9, 3) := by decide +kernel
theorem dX3_advance_16 : decode cX3_advance 16 = .ok (.iconst 1, 1) := by decide +kernel
theorem dX3_advance_17 : decode cX3_advance 17 = .ok (.isub, 1) := by decide +kernel
theorem dX3_advance_18 : decode cX3_advance 18 = .ok (.if_icmp .lt 9, 3) := by decide +kernel
theorem dX3_advance_21 : decode cX3_advance 21 = .ok (.iinc 4 (-1), 3) := by decide +kernel
theorem dX3_advance_24 : decode cX3_advance 24 = .ok (.goto (-21), 3) := by decide +kernel
theorem dX3_advance_27 : decode cX3_advance 27 = .ok (.iload 4, 2) := by decide +kernel
theorem dX3_advance_29 : decode cX3_advance 29 = .ok (.ifCond .ge 5, 3) := by decide +kernel
theorem dX3_advance_32 : decode cX3_advance 32 = .ok (.iconst (-1), 1) := by decide +kernel
theorem dX3_advance_33 : decode cX3_advance 33 = .ok (.ireturn, 1) := by decide +kernel
theorem dX3_advance_34 : decode cX3_advance 34 = .ok (.aload_n 1, 1) := by decide +kernel
theorem dX3_advance_35 : decode cX3_advance 35 = .ok (.iload 4, 2) := by decide +kernel
theorem dX3_advance_37 : decode cX3_advance 37 = .ok (.dup2, 1) := by decide +kernel
theorem dX3_advance_38 : decode cX3_advance 38 = .ok (.iaload, 1) := by decide +kernel
theorem dX3_advance_39 : decode cX3_advance 39 = .ok (.iconst 1, 1) := by decide +kernel
theorem dX3_advance_40 : decode cX3_advance 40 = .ok (.iadd, 1) := by decide +kernel
theorem dX3_advance_41 : decode cX3_advance 41 = .ok (.iastore, 1) := by decide +kernel
theorem dX3_advance_42 : decode cX3_advance 42 = .ok (.iload 4, 2) := by decide +kernel
theorem dX3_advance_44 : decode cX3_advance 44 = .ok (.iconst 1, 1) := by decide +kernel
theorem dX3_advance_45 : decode cX3_advance 45 = .ok (.iadd, 1) := by decide +kernel
theorem dX3_advance_46 : decode cX3_advance 46 = .ok (.istore 5, 2) := by decide +kernel
theorem dX3_advance_48 : decode cX3_advance 48 = .ok (.iload 5, 2) := by decide +kernel
theorem dX3_advance_50 : decode cX3_advance 50 = .ok (.iload_n 3, 1) := by decide +kernel
theorem dX3_advance_51 : decode cX3_advance 51 = .ok (.if_icmp .ge 14, 3) := by decide +kernel
theorem dX3_advance_54 : decode cX3_advance 54 = .ok (.aload_n 1, 1) := by decide +kernel
theorem dX3_advance_55 : decode cX3_advance 55 = .ok (.iload 5, 2) := by decide +kernel
theorem dX3_advance_57 : decode cX3_advance 57 = .ok (.iconst 0, 1) := by decide +kernel
theorem dX3_advance_58 : decode cX3_advance 58 = .ok (.iastore, 1) := by decide +kernel
theorem dX3_advance_59 : decode cX3_advance 59 = .ok (.iinc 5 1, 3) := by decide +kernel
theorem dX3_advance_62 : decode cX3_advance 62 = .ok (.goto (-14), 3) := by decide +kernel
theorem dX3_advance_65 : decode cX3_advance 65 = .ok (.iload 4, 2) := by decide +kernel
theorem dX3_advance_67 : decode cX3_advance 67 = .ok (.ireturn, 1) := by decide +kernel
theorem dX4_init_0 : decode cX4_init 0 = .ok (.aload_n 0, 1) := by decide +kernel
theorem dX4_init_1 : decode cX4_init 1 = .ok (.invokespecial 3, 3) := by decide +kernel
theorem dX4_init_4 : decode cX4_init 4 = .ok (.aload_n 0, 1) := by decide +kernel
theorem dX4_init_5 : decode cX4_init 5 = .ok (.iconst 0, 1) := by decide +kernel
theorem dX4_init_6 : decode cX4_init 6 = .ok (.putfield 9, 3) := by decide +kernel
theorem dX4_init_9 : decode cX4_init 9 = .ok (.aload_n 0, 1) := by decide +kernel
theorem dX4_init_10 : decode cX4_init 10 = .ok (.bipush 9, 2) := by decide +kernel
theorem dX4_init_12 : decode cX4_init 12 = .ok (.newarray .int, 2) := by decide +kernel
theorem dX4_init_14 : decode cX4_init 14 = .ok (.putfield 15, 3) := by decide +kernel
theorem dX4_init_17 : decode cX4_init 17 = .ok (.aload_n 0, 1) := by decide +kernel
theorem dX4_init_18 : decode cX4_init 18 = .ok (.sipush 256, 3) := by decide +kernel
theorem dX4_init_21 : decode cX4_init 21 = .ok (.newarray .int, 2) := by decide +kernel
theorem dX4_init_23 : decode cX4_init 23 = .ok (.putfield 19, 3) := by decide +kernel
theorem dX4_init_26 : decode cX4_init 26 = .ok (.aload_n 0, 1) := by decide +kernel
theorem dX4_init_27 : decode cX4_init 27 = .ok (.sipush 256, 3) := by decide +kernel
theorem dX4_init_30 : decode cX4_init 30 = .ok (.newarray .int, 2) := by decide +kernel
theorem dX4_init_32 : decode cX4_init 32 = .ok (.putfield 22, 3) := by decide +kernel
theorem dX4_init_35 : decode cX4_init 35 = .ok (.aload_n 0, 1) := by decide +kernel
theorem dX4_init_36 : decode cX4_init 36 = .ok (.bipush 8, 2) := by decide +kernel
theorem dX4_init_38 : decode cX4_init 38 = .ok (.newarray .int, 2) := by decide +kernel
theorem dX4_init_40 : decode cX4_init 40 = .ok (.putfield 25, 3) := by decide +kernel
theorem dX4_init_43 : decode cX4_init 43 = .ok (.aload_n 0, 1) := by decide +kernel
theorem dX4_init_44 : decode cX4_init 44 = .ok (.iconst 0, 1) := by decide +kernel
theorem dX4_init_45 : decode cX4_init 45 = .ok (.putfield 28, 3) := by decide +kernel
theorem dX4_init_48 : decode cX4_init 48 = .ok (.aload_n 0, 1) := by decide +kernel
theorem dX4_init_49 : decode cX4_init 49 = .ok (.aload_n 1, 1) := by decide +kernel
theorem dX4_init_50 : decode cX4_init 50 = .ok (.putfield 32, 3) := by decide +kernel
theorem dX4_init_53 : decode cX4_init 53 = .ok (.return_, 1) := by decide +kernel
theorem dX4_reachOf_0 : decode cX4_reachOf 0 = .ok (.iload_n 1, 1) := by decide +kernel
theorem dX4_reachOf_1 : decode cX4_reachOf 1 = .ok (.bipush 14, 2) := by decide +kernel
theorem dX4_reachOf_3 : decode cX4_reachOf 3 = .ok (.ishr, 1) := by decide +kernel
theorem dX4_reachOf_4 : decode cX4_reachOf 4 = .ok (.ireturn, 1) := by decide +kernel
theorem dX4_rowOf_0 : decode cX4_rowOf 0 = .ok (.iload_n 1, 1) := by decide +kernel
theorem dX4_rowOf_1 : decode cX4_rowOf 1 = .ok (.sipush 16383, 3) := by decide +kernel
theorem dX4_rowOf_4 : decode cX4_rowOf 4 = .ok (.iand, 1) := by decide +kernel
theorem dX4_rowOf_5 : decode cX4_rowOf 5 = .ok (.ireturn, 1) := by decide +kernel
theorem dX4_refresh_0 : decode cX4_refresh 0 = .ok (.aload_n 0, 1) := by decide +kernel
theorem dX4_refresh_1 : decode cX4_refresh 1 = .ok (.getfield 9, 3) := by decide +kernel
theorem dX4_refresh_4 : decode cX4_refresh 4 = .ok (.ifCond .eq 4, 3) := by decide +kernel
theorem dX4_refresh_7 : decode cX4_refresh 7 = .ok (.return_, 1) := by decide +kernel
theorem dX4_refresh_8 : decode cX4_refresh 8 = .ok (.aload_n 0, 1) := by decide +kernel
theorem dX4_refresh_9 : decode cX4_refresh 9 = .ok (.iconst 1, 1) := by decide +kernel
theorem dX4_refresh_10 : decode cX4_refresh 10 = .ok (.putfield 9, 3) := by decide +kernel
theorem dX4_refresh_13 : decode cX4_refresh 13 = .ok (.aload_n 0, 1) := by decide +kernel
theorem dX4_refresh_14 : decode cX4_refresh 14 = .ok (.aload_n 0, 1) := by decide +kernel
theorem dX4_refresh_15 : decode cX4_refresh 15 = .ok (.getfield 32, 3) := by decide +kernel
theorem dX4_refresh_18 : decode cX4_refresh 18 = .ok (.getfield 36, 3) := by decide +kernel
theorem dX4_refresh_21 : decode cX4_refresh 21 = .ok (.iconst 1, 1) := by decide +kernel
theorem dX4_refresh_22 : decode cX4_refresh 22 = .ok (.invokevirtual 42, 3) := by decide +kernel
theorem dX4_refresh_25 : decode cX4_refresh 25 = .ok (.putfield 28, 3) := by decide +kernel
theorem dX4_refresh_28 : decode cX4_refresh 28 = .ok (.iconst 0, 1) := by decide +kernel
theorem dX4_refresh_29 : decode cX4_refresh 29 = .ok (.istore_n 1, 1) := by decide +kernel
theorem dX4_refresh_30 : decode cX4_refresh 30 = .ok (.iload_n 1, 1) := by decide +kernel
theorem dX4_refresh_31 : decode cX4_refresh 31 = .ok (.sipush 256, 3) := by decide +kernel
theorem dX4_refresh_34 : decode cX4_refresh 34 = .ok (.if_icmp .ge 17, 3) := by decide +kernel
theorem dX4_refresh_37 : decode cX4_refresh 37 = .ok (.aload_n 0, 1) := by decide +kernel
theorem dX4_refresh_38 : decode cX4_refresh 38 = .ok (.getfield 19, 3) := by decide +kernel
theorem dX4_refresh_41 : decode cX4_refresh 41 = .ok (.iload_n 1, 1) := by decide +kernel
theorem dX4_refresh_42 : decode cX4_refresh 42 = .ok (.ldc 48, 2) := by decide +kernel
theorem dX4_refresh_44 : decode cX4_refresh 44 = .ok (.iastore, 1) := by decide +kernel
theorem dX4_refresh_45 : decode cX4_refresh 45 = .ok (.iinc 1 1, 3) := by decide +kernel
theorem dX4_refresh_48 : decode cX4_refresh 48 = .ok (.goto (-18), 3) := by decide +kernel
theorem dX4_refresh_51 : decode cX4_refresh 51 = .ok (.aload_n 0, 1) := by decide +kernel
theorem dX4_refresh_52 : decode cX4_refresh 52 = .ok (.getfield 28, 3) := by decide +kernel
theorem dX4_refresh_55 : decode cX4_refresh 55 = .ok (.ifCond .eq 15, 3) := by decide +kernel
theorem dX4_refresh_58 : decode cX4_refresh 58 = .ok (.aload_n 0, 1) := by decide +kernel
theorem dX4_refresh_59 : decode cX4_refresh 59 = .ok (.invokevirtual 49, 3) := by decide +kernel
theorem dX4_refresh_62 : decode cX4_refresh 62 = .ok (.aload_n 0, 1) := by decide +kernel
theorem dX4_refresh_63 : decode cX4_refresh 63 = .ok (.invokevirtual 52, 3) := by decide +kernel
theorem dX4_refresh_66 : decode cX4_refresh 66 = .ok (.aload_n 0, 1) := by decide +kernel
theorem dX4_refresh_67 : decode cX4_refresh 67 = .ok (.invokevirtual 55, 3) := by decide +kernel
theorem dX4_refresh_70 : decode cX4_refresh 70 = .ok (.return_, 1) := by decide +kernel
theorem dX4_lookAtAll_0 : decode cX4_lookAtAll 0 = .ok (.aload_n 0, 1) := by decide +kernel
theorem dX4_lookAtAll_1 : decode cX4_lookAtAll 1 = .ok (.getfield 32, 3) := by decide +kernel
theorem dX4_lookAtAll_4 : decode cX4_lookAtAll 4 = .ok (.getfield 58, 3) := by decide +kernel
theorem dX4_lookAtAll_7 : decode cX4_lookAtAll 7 = .ok (.astore_n 1, 1) := by decide +kernel
theorem dX4_lookAtAll_8 : decode cX4_lookAtAll 8 = .ok (.aload_n 0, 1) := by decide +kernel
theorem dX4_lookAtAll_9 : decode cX4_lookAtAll 9 = .ok (.getfield 32, 3) := by decide +kernel
theorem dX4_lookAtAll_12 : decode cX4_lookAtAll 12 = .ok (.invokevirtual 62, 3) := by decide +kernel
theorem dX4_lookAtAll_15 : decode cX4_lookAtAll 15 = .ok (.istore_n 2, 1) := by decide +kernel
theorem dX4_lookAtAll_16 : decode cX4_lookAtAll 16 = .ok (.iconst 0, 1) := by decide +kernel
theorem dX4_lookAtAll_17 : decode cX4_lookAtAll 17 = .ok (.istore_n 3, 1) := by decide +kernel
theorem dX4_lookAtAll_18 : decode cX4_lookAtAll 18 = .ok (.iload_n 3, 1) := by decide +kernel
theorem dX4_lookAtAll_19 : decode cX4_lookAtAll 19 = .ok (.aload_n 0, 1) := by decide +kernel
theorem dX4_lookAtAll_20 : decode cX4_lookAtAll 20 = .ok (.getfield 32, 3) := by decide +kernel
theorem dX4_lookAtAll_23 : decode cX4_lookAtAll 23 = .ok (.getfield 66, 3) := by decide +kernel
theorem dX4_lookAtAll_26 : decode cX4_lookAtAll 26 = .ok (.if_icmp .ge 16, 3) := by decide +kernel
theorem dX4_lookAtAll_29 : decode cX4_lookAtAll 29 = .ok (.aload_n 0, 1) := by decide +kernel
theorem dX4_lookAtAll_30 : decode cX4_lookAtAll 30 = .ok (.getfield 25, 3) := by decide +kernel
theorem dX4_lookAtAll_33 : decode cX4_lookAtAll 33 = .ok (.iload_n 3, 1) := by decide +kernel
theorem dX4_lookAtAll_34 : decode cX4_lookAtAll 34 = .ok (.iload_n 3, 1) := by decide +kernel
theorem dX4_lookAtAll_35 : decode cX4_lookAtAll 35 = .ok (.iastore, 1) := by decide +kernel
theorem dX4_lookAtAll_36 : decode cX4_lookAtAll 36 = .ok (.iinc 3 1, 3) := by decide +kernel
theorem dX4_lookAtAll_39 : decode cX4_lookAtAll 39 = .ok (.goto (-21), 3) := by decide +kernel
theorem dX4_lookAtAll_42 : decode cX4_lookAtAll 42 = .ok (.iconst 0, 1) := by decide +kernel
theorem dX4_lookAtAll_43 : decode cX4_lookAtAll 43 = .ok (.istore_n 3, 1) := by decide +kernel
theorem dX4_lookAtAll_44 : decode cX4_lookAtAll 44 = .ok (.iload_n 2, 1) := by decide +kernel
theorem dX4_lookAtAll_45 : decode cX4_lookAtAll 45 = .ok (.ifCond .le 56, 3) := by decide +kernel
theorem dX4_lookAtAll_48 : decode cX4_lookAtAll 48 = .ok (.iload_n 3, 1) := by decide +kernel
theorem dX4_lookAtAll_49 : decode cX4_lookAtAll 49 = .ok (.ifCond .lt 52, 3) := by decide +kernel
theorem dX4_lookAtAll_52 : decode cX4_lookAtAll 52 = .ok (.aload_n 1, 1) := by decide +kernel
theorem dX4_lookAtAll_53 : decode cX4_lookAtAll 53 = .ok (.iload_n 3, 1) := by decide +kernel
theorem dX4_lookAtAll_54 : decode cX4_lookAtAll 54 = .ok (.invokevirtual 69, 3) := by decide +kernel
theorem dX4_lookAtAll_57 : decode cX4_lookAtAll 57 = .ok (.aload_n 0, 1) := by decide +kernel
theorem dX4_lookAtAll_58 : decode cX4_lookAtAll 58 = .ok (.getfield 32, 3) := by decide +kernel
theorem dX4_lookAtAll_61 : decode cX4_lookAtAll 61 = .ok (.invokevirtual 75, 3) := by decide +kernel
theorem dX4_lookAtAll_64 : decode cX4_lookAtAll 64 = .ok (.ifCond .eq 20, 3) := by decide +kernel
theorem dX4_lookAtAll_67 : decode cX4_lookAtAll 67 = .ok (.aload_n 0, 1) := by decide +kernel
theorem dX4_lookAtAll_68 : decode cX4_lookAtAll 68 = .ok (.aload_n 1, 1) := by decide +kernel
theorem dX4_lookAtAll_69 : decode cX4_lookAtAll 69 = .ok (.getfield 79, 3) := by decide +kernel
theorem dX4_lookAtAll_72 : decode cX4_lookAtAll 72 = .ok (.aload_n 1, 1) := by decide +kernel
theorem dX4_lookAtAll_73 : decode cX4_lookAtAll 73 = .ok (.invokevirtual 82, 3) := by decide +kernel
theorem dX4_lookAtAll_76 : decode cX4_lookAtAll 76 = .ok (.invokevirtual 85, 3) := by decide +kernel
theorem dX4_lookAtAll_79 : decode cX4_lookAtAll 79 = .ok (.aload_n 0, 1) := by decide +kernel
theorem dX4_lookAtAll_80 : decode cX4_lookAtAll 80 = .ok (.aload_n 1, 1) := by decide +kernel
theorem dX4_lookAtAll_81 : decode cX4_lookAtAll 81 = .ok (.invokevirtual 89, 3) := by decide +kernel
theorem dX4_lookAtAll_84 : decode cX4_lookAtAll 84 = .ok (.aload_n 1, 1) := by decide +kernel
theorem dX4_lookAtAll_85 : decode cX4_lookAtAll 85 = .ok (.aload_n 1, 1) := by decide +kernel
theorem dX4_lookAtAll_86 : decode cX4_lookAtAll 86 = .ok (.getfield 93, 3) := by decide +kernel
theorem dX4_lookAtAll_89 : decode cX4_lookAtAll 89 = .ok (.iconst 1, 1) := by decide +kernel
theorem dX4_lookAtAll_90 : decode cX4_lookAtAll 90 = .ok (.isub, 1) := by decide +kernel
theorem dX4_lookAtAll_91 : decode cX4_lookAtAll 91 = .ok (.invokevirtual 96, 3) := by decide +kernel
theorem dX4_lookAtAll_94 : decode cX4_lookAtAll 94 = .ok (.istore_n 3, 1) := by decide +kernel
theorem dX4_lookAtAll_95 : decode cX4_lookAtAll 95 = .ok (.iinc 2 (-1), 3) := by decide +kernel
theorem dX4_lookAtAll_98 : decode cX4_lookAtAll 98 = .ok (.goto (-54), 3) := by decide +kernel
theorem dX4_lookAtAll_101 : decode cX4_lookAtAll 101 = .ok (.return_, 1) := by decide +kernel
theorem dX4_sortByDistance_0 : decode cX4_sortByDistance 0 = .ok (.iconst 1, 1) := by decide +kernel
theorem dX4_sortByDistance_1 : decode cX4_sortByDistance 1 = .ok (.istore_n 3, 1) := by decide +kernel
theorem dX4_sortByDistance_2 : decode cX4_sortByDistance 2 = .ok (.iload_n 3, 1) := by decide +kernel
theorem dX4_sortByDistance_3 : decode cX4_sortByDistance 3 = .ok (.aload_n 0, 1) := by decide +kernel
theorem dX4_sortByDistance_4 : decode cX4_sortByDistance 4 = .ok (.getfield 32, 3) := by decide +kernel
theorem dX4_sortByDistance_7 : decode cX4_sortByDistance 7 = .ok (.getfield 66, 3) := by decide +kernel
theorem dX4_sortByDistance_10 : decode cX4_sortByDistance 10 = .ok (.if_icmp .ge 84, 3) := by decide +kernel
theorem dX4_sortByDistance_13 : decode cX4_sortByDistance 13 = .ok (.aload_n 0, 1) := by decide +kernel
theorem dX4_sortByDistance_14 : decode cX4_sortByDistance 14 = .ok (.getfield 25, 3) := by decide +kernel
theorem dX4_sortByDistance_17 : decode cX4_sortByDistance 17 = .ok (.iload_n 3, 1) := by decide +kernel
theorem dX4_sortByDistance_18 : decode cX4_sortByDistance 18 = .ok (.iaload, 1) := by decide +kernel
theorem dX4_sortByDistance_19 : decode cX4_sortByDistance 19 = .ok (.istore 4, 2) := by decide +kernel
theorem dX4_sortByDistance_21 : decode cX4_sortByDistance 21 = .ok (.aload_n 1, 1) := by decide +kernel
theorem dX4_sortByDistance_22 : decode cX4_sortByDistance 22 = .ok (.iload_n 2, 1) := by decide +kernel
theorem dX4_sortByDistance_23 : decode cX4_sortByDistance 23 = .ok (.iload 4, 2) := by decide +kernel
theorem dX4_sortByDistance_25 : decode cX4_sortByDistance 25 = .ok (.iadd, 1) := by decide +kernel
theorem dX4_sortByDistance_26 : decode cX4_sortByDistance 26 = .ok (.iaload, 1) := by decide +kernel
theorem dX4_sortByDistance_27 : decode cX4_sortByDistance 27 = .ok (.istore 5, 2) := by decide +kernel
theorem dX4_sortByDistance_29 : decode cX4_sortByDistance 29 = .ok (.iload_n 3, 1) := by decide +kernel
theorem dX4_sortByDistance_30 : decode cX4_sortByDistance 30 = .ok (.iconst 1, 1) := by decide +kernel
theorem dX4_sortByDistance_31 : decode cX4_sortByDistance 31 = .ok (.isub, 1) := by decide +kernel
theorem dX4_sortByDistance_32 : decode cX4_sortByDistance 32 = .ok (.istore 6, 2) := by decide +kernel
theorem dX4_sortByDistance_34 : decode cX4_sortByDistance 34 = .ok (.iload 6, 2) := by decide +kernel
theorem dX4_sortByDistance_36 : decode cX4_sortByDistance 36 = .ok (.ifCond .lt 41, 3) := by decide +kernel
theorem dX4_sortByDistance_39 : decode cX4_sortByDistance 39 = .ok (.aload_n 1, 1) := by decide +kernel
theorem dX4_sortByDistance_40 : decode cX4_sortByDistance 40 = .ok (.iload_n 2, 1) := by decide +kernel
theorem dX4_sortByDistance_41 : decode cX4_sortByDistance 41 = .ok (.aload_n 0, 1) := by decide +kernel
theorem dX4_sortByDistance_42 : decode cX4_sortByDistance 42 = .ok (.getfield 25, 3) := by decide +kernel
theorem dX4_sortByDistance_45 : decode cX4_sortByDistance 45 = .ok (.iload 6, 2) := by decide +kernel
theorem dX4_sortByDistance_47 : decode cX4_sortByDistance 47 = .ok (.iaload, 1) := by decide +kernel
theorem dX4_sortByDistance_48 : decode cX4_sortByDistance 48 = .ok (.iadd, 1) := by decide +kernel
theorem dX4_sortByDistance_49 : decode cX4_sortByDistance 49 = .ok (.iaload, 1) := by decide +kernel
theorem dX4_sortByDistance_50 : decode cX4_sortByDistance 50 = .ok (.iload 5, 2) := by decide +kernel
theorem dX4_sortByDistance_52 : decode cX4_sortByDistance 52 = .ok (.if_icmp .le 25, 3) := by decide +kernel
theorem dX4_sortByDistance_55 : decode cX4_sortByDistance 55 = .ok (.aload_n 0, 1) := by decide +kernel
theorem dX4_sortByDistance_56 : decode cX4_sortByDistance 56 = .ok (.getfield 25, 3) := by decide +kernel
theorem dX4_sortByDistance_59 : decode cX4_sortByDistance 59 = .ok (.iload 6, 2) := by decide +kernel
theorem dX4_sortByDistance_61 : decode cX4_sortByDistance 61 = .ok (.iconst 1, 1) := by decide +kernel
theorem dX4_sortByDistance_62 : decode cX4_sortByDistance 62 = .ok (.iadd, 1) := by decide +kernel
theorem dX4_sortByDistance_63 : decode cX4_sortByDistance 63 = .ok (.aload_n 0, 1) := by decide +kernel
theorem dX4_sortByDistance_64 : decode cX4_sortByDistance 64 = .ok (.getfield 25, 3) := by decide +kernel
theorem dX4_sortByDistance_67 : decode cX4_sortByDistance 67 = .ok (.iload 6, 2) := by decide +kernel
theorem dX4_sortByDistance_69 : decode cX4_sortByDistance 69 = .ok (.iaload, 1) := by decide +kernel
theorem dX4_sortByDistance_70 : decode cX4_sortByDistance 70 = .ok (.iastore, 1) := by decide +kernel
theorem dX4_sortByDistance_71 : decode cX4_sortByDistance 71 = .ok (.iinc 6 (-1), 3) := by decide +kernel
theorem dX4_sortByDistance_74 : decode cX4_sortByDistance 74 = .ok (.goto (-40), 3) := by decide +kernel
theorem dX4_sortByDistance_77 : decode cX4_sortByDistance 77 = .ok (.aload_n 0, 1) := by decide +kernel
theorem dX4_sortByDistance_78 : decode cX4_sortByDistance 78 = .ok (.getfield 25, 3) := by decide +kernel
theorem dX4_sortByDistance_81 : decode cX4_sortByDistance 81 = .ok (.iload 6, 2) := by decide +kernel
theorem dX4_sortByDistance_83 : decode cX4_sortByDistance 83 = .ok (.iconst 1, 1) := by decide +kernel
theorem dX4_sortByDistance_84 : decode cX4_sortByDistance 84 = .ok (.iadd, 1) := by decide +kernel
theorem dX4_sortByDistance_85 : decode cX4_sortByDistance 85 = .ok (.iload 4, 2) := by decide +kernel
theorem dX4_sortByDistance_87 : decode cX4_sortByDistance 87 = .ok (.iastore, 1) := by decide +kernel
theorem dX4_sortByDistance_88 : decode cX4_sortByDistance 88 = .ok (.iinc 3 1, 3) := by decide +kernel
theorem dX4_sortByDistance_91 : decode cX4_sortByDistance 91 = .ok (.goto (-89), 3) := by decide +kernel
theorem dX4_sortByDistance_94 : decode cX4_sortByDistance 94 = .ok (.return_, 1) := by decide +kernel
theorem dX4_holdNearest_0 : decode cX4_holdNearest 0 = .ok (.aload_n 1, 1) := by decide +kernel
theorem dX4_holdNearest_1 : decode cX4_holdNearest 1 = .ok (.invokevirtual 82, 3) := by decide +kernel
theorem dX4_holdNearest_4 : decode cX4_holdNearest 4 = .ok (.istore_n 2, 1) := by decide +kernel
theorem dX4_holdNearest_5 : decode cX4_holdNearest 5 = .ok (.aload_n 1, 1) := by decide +kernel
theorem dX4_holdNearest_6 : decode cX4_holdNearest 6 = .ok (.invokevirtual 99, 3) := by decide +kernel
theorem dX4_holdNearest_9 : decode cX4_holdNearest 9 = .ok (.istore_n 3, 1) := by decide +kernel
theorem dX4_holdNearest_10 : decode cX4_holdNearest 10 = .ok (.iconst 0, 1) := by decide +kernel
theorem dX4_holdNearest_11 : decode cX4_holdNearest 11 = .ok (.istore 4, 2) := by decide +kernel
theorem dX4_holdNearest_13 : decode cX4_holdNearest 13 = .ok (.aload_n 0, 1) := by decide +kernel
theorem dX4_holdNearest_14 : decode cX4_holdNearest 14 = .ok (.iload 4, 2) := by decide +kernel
theorem dX4_holdNearest_16 : decode cX4_holdNearest 16 = .ok (.iload_n 3, 1) := by decide +kernel
theorem dX4_holdNearest_17 : decode cX4_holdNearest 17 = .ok (.invokevirtual 102, 3) := by decide +kernel
theorem dX4_holdNearest_20 : decode cX4_holdNearest 20 = .ok (.iconst 0, 1) := by decide +kernel
theorem dX4_holdNearest_21 : decode cX4_holdNearest 21 = .ok (.istore 5, 2) := by decide +kernel
theorem dX4_holdNearest_23 : decode cX4_holdNearest 23 = .ok (.iload 5, 2) := by decide +kernel
theorem dX4_holdNearest_25 : decode cX4_holdNearest 25 = .ok (.aload_n 0, 1) := by decide +kernel
theorem dX4_holdNearest_26 : decode cX4_holdNearest 26 = .ok (.getfield 32, 3) := by decide +kernel
theorem dX4_holdNearest_29 : decode cX4_holdNearest 29 = .ok (.getfield 66, 3) := by decide +kernel
theorem dX4_holdNearest_32 : decode cX4_holdNearest 32 = .ok (.if_icmp .ge 54, 3) := by decide +kernel
theorem dX4_holdNearest_35 : decode cX4_holdNearest 35 = .ok (.iload 4, 2) := by decide +kernel
theorem dX4_holdNearest_37 : decode cX4_holdNearest 37 = .ok (.aload_n 0, 1) := by decide +kernel
theorem dX4_holdNearest_38 : decode cX4_holdNearest 38 = .ok (.getfield 32, 3) := by decide +kernel
theorem dX4_holdNearest_41 : decode cX4_holdNearest 41 = .ok (.getfield 106, 3) := by decide +kernel
theorem dX4_holdNearest_44 : decode cX4_holdNearest 44 = .ok (.aload_n 0, 1) := by decide +kernel
theorem dX4_holdNearest_45 : decode cX4_holdNearest 45 = .ok (.getfield 25, 3) := by decide +kernel
theorem dX4_holdNearest_48 : decode cX4_holdNearest 48 = .ok (.iload 5, 2) := by decide +kernel
theorem dX4_holdNearest_50 : decode cX4_holdNearest 50 = .ok (.iaload, 1) := by decide +kernel
theorem dX4_holdNearest_51 : decode cX4_holdNearest 51 = .ok (.iaload, 1) := by decide +kernel
theorem dX4_holdNearest_52 : decode cX4_holdNearest 52 = .ok (.ior, 1) := by decide +kernel
theorem dX4_holdNearest_53 : decode cX4_holdNearest 53 = .ok (.istore 4, 2) := by decide +kernel
theorem dX4_holdNearest_55 : decode cX4_holdNearest 55 = .ok (.aload_n 0, 1) := by decide +kernel
theorem dX4_holdNearest_56 : decode cX4_holdNearest 56 = .ok (.iload 4, 2) := by decide +kernel
theorem dX4_holdNearest_58 : decode cX4_holdNearest 58 = .ok (.aload_n 1, 1) := by decide +kernel
theorem dX4_holdNearest_59 : decode cX4_holdNearest 59 = .ok (.getfield 79, 3) := by decide +kernel
theorem dX4_holdNearest_62 : decode cX4_holdNearest 62 = .ok (.iload_n 2, 1) := by decide +kernel
theorem dX4_holdNearest_63 : decode cX4_holdNearest 63 = .ok (.aload_n 0, 1) := by decide +kernel
theorem dX4_holdNearest_64 : decode cX4_holdNearest 64 = .ok (.getfield 25, 3) := by decide +kernel
theorem dX4_holdNearest_67 : decode cX4_holdNearest 67 = .ok (.iload 5, 2) := by decide +kernel
theorem dX4_holdNearest_69 : decode cX4_holdNearest 69 = .ok (.iaload, 1) := by decide +kernel
theorem dX4_holdNearest_70 : decode cX4_holdNearest 70 = .ok (.iadd, 1) := by decide +kernel
theorem dX4_holdNearest_71 : decode cX4_holdNearest 71 = .ok (.iaload, 1) := by decide +kernel
theorem dX4_holdNearest_72 : decode cX4_holdNearest 72 = .ok (.bipush 14, 2) := by decide +kernel
end
section
theorem dX4_holdNearest_74 : decode cX4_holdNearest 74 = .ok (.ishl, 1) := by decide +kernel
theorem dX4_holdNearest_75 : decode cX4_holdNearest 75 = .ok (.iload_n 3, 1) := by decide +kernel
theorem dX4_holdNearest_76 : decode cX4_holdNearest 76 = .ok (.ior, 1) := by decide +kernel
theorem dX4_holdNearest_77 : decode cX4_holdNearest 77 = .ok (.invokevirtual 102, 3) := by decide +kernel
theorem dX4_holdNearest_80 : decode cX4_holdNearest 80 = .ok (.iinc 5 1, 3) := by decide +kernel
theorem dX4_holdNearest_83 : decode cX4_holdNearest 83 = .ok (.goto (-60), 3) := by decide +kernel
theorem dX4_holdNearest_86 : decode cX4_holdNearest 86 = .ok (.return_, 1) := by decide +kernel
theorem dX4_hold_0 : decode cX4_hold 0 = .ok (.iload_n 2, 1) := by decide +kernel
theorem dX4_hold_1 : decode cX4_hold 1 = .ok (.aload_n 0, 1) := by decide +kernel
theorem dX4_hold_2 : decode cX4_hold 2 = .ok (.getfield 19, 3) := by decide +kernel
theorem dX4_hold_5 : decode cX4_hold 5 = .ok (.iload_n 1, 1) := by decide +kernel
theorem dX4_hold_6 : decode cX4_hold 6 = .ok (.iaload, 1) := by decide +kernel
theorem dX4_hold_7 : decode cX4_hold 7 = .ok (.if_icmp .ge 10, 3) := by decide +kernel
theorem dX4_hold_10 : decode cX4_hold 10 = .ok (.aload_n 0, 1) := by decide +kernel
theorem dX4_hold_11 : decode cX4_hold 11 = .ok (.getfield 19, 3) := by decide +kernel
theorem dX4_hold_14 : decode cX4_hold 14 = .ok (.iload_n 1, 1) := by decide +kernel
theorem dX4_hold_15 : decode cX4_hold 15 = .ok (.iload_n 2, 1) := by decide +kernel
theorem dX4_hold_16 : decode cX4_hold 16 = .ok (.iastore, 1) := by decide +kernel
theorem dX4_hold_17 : decode cX4_hold 17 = .ok (.return_, 1) := by decide +kernel
theorem dX4_holdSmallerSets_0 : decode cX4_holdSmallerSets 0 = .ok (.iconst 0, 1) := by decide +kernel
theorem dX4_holdSmallerSets_1 : decode cX4_holdSmallerSets 1 = .ok (.istore_n 1, 1) := by decide +kernel
theorem dX4_holdSmallerSets_2 : decode cX4_holdSmallerSets 2 = .ok (.iload_n 1, 1) := by decide +kernel
theorem dX4_holdSmallerSets_3 : decode cX4_holdSmallerSets 3 = .ok (.bipush 8, 2) := by decide +kernel
theorem dX4_holdSmallerSets_5 : decode cX4_holdSmallerSets 5 = .ok (.if_icmp .ge 47, 3) := by decide +kernel
theorem dX4_holdSmallerSets_8 : decode cX4_holdSmallerSets 8 = .ok (.iconst 1, 1) := by decide +kernel
theorem dX4_holdSmallerSets_9 : decode cX4_holdSmallerSets 9 = .ok (.iload_n 1, 1) := by decide +kernel
theorem dX4_holdSmallerSets_10 : decode cX4_holdSmallerSets 10 = .ok (.ishl, 1) := by decide +kernel
theorem dX4_holdSmallerSets_11 : decode cX4_holdSmallerSets 11 = .ok (.istore_n 2, 1) := by decide +kernel
theorem dX4_holdSmallerSets_12 : decode cX4_holdSmallerSets 12 = .ok (.iconst 0, 1) := by decide +kernel
theorem dX4_holdSmallerSets_13 : decode cX4_holdSmallerSets 13 = .ok (.istore_n 3, 1) := by decide +kernel
theorem dX4_holdSmallerSets_14 : decode cX4_holdSmallerSets 14 = .ok (.iload_n 3, 1) := by decide +kernel
theorem dX4_holdSmallerSets_15 : decode cX4_holdSmallerSets 15 = .ok (.sipush 256, 3) := by decide +kernel
theorem dX4_holdSmallerSets_18 : decode cX4_holdSmallerSets 18 = .ok (.if_icmp .ge 28, 3) := by decide +kernel
theorem dX4_holdSmallerSets_21 : decode cX4_holdSmallerSets 21 = .ok (.iload_n 3, 1) := by decide +kernel
theorem dX4_holdSmallerSets_22 : decode cX4_holdSmallerSets 22 = .ok (.iload_n 2, 1) := by decide +kernel
theorem dX4_holdSmallerSets_23 : decode cX4_holdSmallerSets 23 = .ok (.iand, 1) := by decide +kernel
theorem dX4_holdSmallerSets_24 : decode cX4_holdSmallerSets 24 = .ok (.ifCond .ne 16, 3) := by decide +kernel
theorem dX4_holdSmallerSets_27 : decode cX4_holdSmallerSets 27 = .ok (.aload_n 0, 1) := by decide +kernel
theorem dX4_holdSmallerSets_28 : decode cX4_holdSmallerSets 28 = .ok (.iload_n 3, 1) := by decide +kernel
theorem dX4_holdSmallerSets_29 : decode cX4_holdSmallerSets 29 = .ok (.aload_n 0, 1) := by decide +kernel
theorem dX4_holdSmallerSets_30 : decode cX4_holdSmallerSets 30 = .ok (.getfield 19, 3) := by decide +kernel
theorem dX4_holdSmallerSets_33 : decode cX4_holdSmallerSets 33 = .ok (.iload_n 3, 1) := by decide +kernel
theorem dX4_holdSmallerSets_34 : decode cX4_holdSmallerSets 34 = .ok (.iload_n 2, 1) := by decide +kernel
theorem dX4_holdSmallerSets_35 : decode cX4_holdSmallerSets 35 = .ok (.ior, 1) := by decide +kernel
theorem dX4_holdSmallerSets_36 : decode cX4_holdSmallerSets 36 = .ok (.iaload, 1) := by decide +kernel
theorem dX4_holdSmallerSets_37 : decode cX4_holdSmallerSets 37 = .ok (.invokevirtual 102, 3) := by decide +kernel
theorem dX4_holdSmallerSets_40 : decode cX4_holdSmallerSets 40 = .ok (.iinc 3 1, 3) := by decide +kernel
theorem dX4_holdSmallerSets_43 : decode cX4_holdSmallerSets 43 = .ok (.goto (-29), 3) := by decide +kernel
theorem dX4_holdSmallerSets_46 : decode cX4_holdSmallerSets 46 = .ok (.iinc 1 1, 3) := by decide +kernel
theorem dX4_holdSmallerSets_49 : decode cX4_holdSmallerSets 49 = .ok (.goto (-47), 3) := by decide +kernel
theorem dX4_holdSmallerSets_52 : decode cX4_holdSmallerSets 52 = .ok (.return_, 1) := by decide +kernel
theorem dX4_coverAll_0 : decode cX4_coverAll 0 = .ok (.iconst 0, 1) := by decide +kernel
theorem dX4_coverAll_1 : decode cX4_coverAll 1 = .ok (.istore_n 1, 1) := by decide +kernel
theorem dX4_coverAll_2 : decode cX4_coverAll 2 = .ok (.iload_n 1, 1) := by decide +kernel
theorem dX4_coverAll_3 : decode cX4_coverAll 3 = .ok (.sipush 256, 3) := by decide +kernel
theorem dX4_coverAll_6 : decode cX4_coverAll 6 = .ok (.if_icmp .ge 25, 3) := by decide +kernel
theorem dX4_coverAll_9 : decode cX4_coverAll 9 = .ok (.aload_n 0, 1) := by decide +kernel
theorem dX4_coverAll_10 : decode cX4_coverAll 10 = .ok (.getfield 22, 3) := by decide +kernel
theorem dX4_coverAll_13 : decode cX4_coverAll 13 = .ok (.iload_n 1, 1) := by decide +kernel
theorem dX4_coverAll_14 : decode cX4_coverAll 14 = .ok (.aload_n 0, 1) := by decide +kernel
theorem dX4_coverAll_15 : decode cX4_coverAll 15 = .ok (.aload_n 0, 1) := by decide +kernel
theorem dX4_coverAll_16 : decode cX4_coverAll 16 = .ok (.getfield 19, 3) := by decide +kernel
theorem dX4_coverAll_19 : decode cX4_coverAll 19 = .ok (.iload_n 1, 1) := by decide +kernel
theorem dX4_coverAll_20 : decode cX4_coverAll 20 = .ok (.iaload, 1) := by decide +kernel
theorem dX4_coverAll_21 : decode cX4_coverAll 21 = .ok (.invokevirtual 109, 3) := by decide +kernel
theorem dX4_coverAll_24 : decode cX4_coverAll 24 = .ok (.iastore, 1) := by decide +kernel
theorem dX4_coverAll_25 : decode cX4_coverAll 25 = .ok (.iinc 1 1, 3) := by decide +kernel
theorem dX4_coverAll_28 : decode cX4_coverAll 28 = .ok (.goto (-26), 3) := by decide +kernel
theorem dX4_coverAll_31 : decode cX4_coverAll 31 = .ok (.aload_n 0, 1) := by decide +kernel
theorem dX4_coverAll_32 : decode cX4_coverAll 32 = .ok (.getfield 15, 3) := by decide +kernel
theorem dX4_coverAll_35 : decode cX4_coverAll 35 = .ok (.iconst 1, 1) := by decide +kernel
theorem dX4_coverAll_36 : decode cX4_coverAll 36 = .ok (.aload_n 0, 1) := by decide +kernel
theorem dX4_coverAll_37 : decode cX4_coverAll 37 = .ok (.getfield 22, 3) := by decide +kernel
theorem dX4_coverAll_40 : decode cX4_coverAll 40 = .ok (.aload_n 0, 1) := by decide +kernel
theorem dX4_coverAll_41 : decode cX4_coverAll 41 = .ok (.getfield 28, 3) := by decide +kernel
theorem dX4_coverAll_44 : decode cX4_coverAll 44 = .ok (.iaload, 1) := by decide +kernel
theorem dX4_coverAll_45 : decode cX4_coverAll 45 = .ok (.iastore, 1) := by decide +kernel
theorem dX4_coverAll_46 : decode cX4_coverAll 46 = .ok (.iconst 2, 1) := by decide +kernel
theorem dX4_coverAll_47 : decode cX4_coverAll 47 = .ok (.istore_n 1, 1) := by decide +kernel
theorem dX4_coverAll_48 : decode cX4_coverAll 48 = .ok (.iload_n 1, 1) := by decide +kernel
theorem dX4_coverAll_49 : decode cX4_coverAll 49 = .ok (.bipush 8, 2) := by decide +kernel
theorem dX4_coverAll_51 : decode cX4_coverAll 51 = .ok (.if_icmp .gt 53, 3) := by decide +kernel
theorem dX4_coverAll_54 : decode cX4_coverAll 54 = .ok (.sipush 255, 3) := by decide +kernel
theorem dX4_coverAll_57 : decode cX4_coverAll 57 = .ok (.istore_n 2, 1) := by decide +kernel
theorem dX4_coverAll_58 : decode cX4_coverAll 58 = .ok (.iload_n 2, 1) := by decide +kernel
theorem dX4_coverAll_59 : decode cX4_coverAll 59 = .ok (.ifCond .le 24, 3) := by decide +kernel
theorem dX4_coverAll_62 : decode cX4_coverAll 62 = .ok (.iload_n 2, 1) := by decide +kernel
theorem dX4_coverAll_63 : decode cX4_coverAll 63 = .ok (.aload_n 0, 1) := by decide +kernel
theorem dX4_coverAll_64 : decode cX4_coverAll 64 = .ok (.getfield 28, 3) := by decide +kernel
theorem dX4_coverAll_67 : decode cX4_coverAll 67 = .ok (.iand, 1) := by decide +kernel
theorem dX4_coverAll_68 : decode cX4_coverAll 68 = .ok (.iload_n 2, 1) := by decide +kernel
theorem dX4_coverAll_69 : decode cX4_coverAll 69 = .ok (.if_icmp .ne 8, 3) := by decide +kernel
theorem dX4_coverAll_72 : decode cX4_coverAll 72 = .ok (.aload_n 0, 1) := by decide +kernel
theorem dX4_coverAll_73 : decode cX4_coverAll 73 = .ok (.iload_n 2, 1) := by decide +kernel
theorem dX4_coverAll_74 : decode cX4_coverAll 74 = .ok (.invokevirtual 112, 3) := by decide +kernel
theorem dX4_coverAll_77 : decode cX4_coverAll 77 = .ok (.iinc 2 (-1), 3) := by decide +kernel
theorem dX4_coverAll_80 : decode cX4_coverAll 80 = .ok (.goto (-22), 3) := by decide +kernel
theorem dX4_coverAll_83 : decode cX4_coverAll 83 = .ok (.aload_n 0, 1) := by decide +kernel
theorem dX4_coverAll_84 : decode cX4_coverAll 84 = .ok (.getfield 15, 3) := by decide +kernel
theorem dX4_coverAll_87 : decode cX4_coverAll 87 = .ok (.iload_n 1, 1) := by decide +kernel
theorem dX4_coverAll_88 : decode cX4_coverAll 88 = .ok (.aload_n 0, 1) := by decide +kernel
theorem dX4_coverAll_89 : decode cX4_coverAll 89 = .ok (.getfield 22, 3) := by decide +kernel
theorem dX4_coverAll_92 : decode cX4_coverAll 92 = .ok (.aload_n 0, 1) := by decide +kernel
theorem dX4_coverAll_93 : decode cX4_coverAll 93 = .ok (.getfield 28, 3) := by decide +kernel
theorem dX4_coverAll_96 : decode cX4_coverAll 96 = .ok (.iaload, 1) := by decide +kernel
theorem dX4_coverAll_97 : decode cX4_coverAll 97 = .ok (.iastore, 1) := by decide +kernel
theorem dX4_coverAll_98 : decode cX4_coverAll 98 = .ok (.iinc 1 1, 3) := by decide +kernel
theorem dX4_coverAll_101 : decode cX4_coverAll 101 = .ok (.goto (-53), 3) := by decide +kernel
theorem dX4_coverAll_104 : decode cX4_coverAll 104 = .ok (.return_, 1) := by decide +kernel
theorem dX4_partOnce_0 : decode cX4_partOnce 0 = .ok (.iload_n 1, 1) := by decide +kernel
theorem dX4_partOnce_1 : decode cX4_partOnce 1 = .ok (.iload_n 1, 1) := by decide +kernel
theorem dX4_partOnce_2 : decode cX4_partOnce 2 = .ok (.ineg, 1) := by decide +kernel
theorem dX4_partOnce_3 : decode cX4_partOnce 3 = .ok (.iand, 1) := by decide +kernel
theorem dX4_partOnce_4 : decode cX4_partOnce 4 = .ok (.istore_n 2, 1) := by decide +kernel
theorem dX4_partOnce_5 : decode cX4_partOnce 5 = .ok (.iload_n 1, 1) := by decide +kernel
theorem dX4_partOnce_6 : decode cX4_partOnce 6 = .ok (.istore_n 3, 1) := by decide +kernel
theorem dX4_partOnce_7 : decode cX4_partOnce 7 = .ok (.iload_n 3, 1) := by decide +kernel
theorem dX4_partOnce_8 : decode cX4_partOnce 8 = .ok (.ifCond .le 60, 3) := by decide +kernel
theorem dX4_partOnce_11 : decode cX4_partOnce 11 = .ok (.iload_n 3, 1) := by decide +kernel
theorem dX4_partOnce_12 : decode cX4_partOnce 12 = .ok (.iload_n 2, 1) := by decide +kernel
theorem dX4_partOnce_13 : decode cX4_partOnce 13 = .ok (.iand, 1) := by decide +kernel
theorem dX4_partOnce_14 : decode cX4_partOnce 14 = .ok (.ifCond .eq 45, 3) := by decide +kernel
theorem dX4_partOnce_17 : decode cX4_partOnce 17 = .ok (.aload_n 0, 1) := by decide +kernel
theorem dX4_partOnce_18 : decode cX4_partOnce 18 = .ok (.aload_n 0, 1) := by decide +kernel
theorem dX4_partOnce_19 : decode cX4_partOnce 19 = .ok (.getfield 19, 3) := by decide +kernel
theorem dX4_partOnce_22 : decode cX4_partOnce 22 = .ok (.iload_n 3, 1) := by decide +kernel
theorem dX4_partOnce_23 : decode cX4_partOnce 23 = .ok (.iaload, 1) := by decide +kernel
theorem dX4_partOnce_24 : decode cX4_partOnce 24 = .ok (.invokevirtual 109, 3) := by decide +kernel
theorem dX4_partOnce_27 : decode cX4_partOnce 27 = .ok (.aload_n 0, 1) := by decide +kernel
theorem dX4_partOnce_28 : decode cX4_partOnce 28 = .ok (.getfield 22, 3) := by decide +kernel
theorem dX4_partOnce_31 : decode cX4_partOnce 31 = .ok (.iload_n 1, 1) := by decide +kernel
theorem dX4_partOnce_32 : decode cX4_partOnce 32 = .ok (.iload_n 3, 1) := by decide +kernel
theorem dX4_partOnce_33 : decode cX4_partOnce 33 = .ok (.ixor, 1) := by decide +kernel
theorem dX4_partOnce_34 : decode cX4_partOnce 34 = .ok (.iaload, 1) := by decide +kernel
theorem dX4_partOnce_35 : decode cX4_partOnce 35 = .ok (.invokestatic 115, 3) := by decide +kernel
theorem dX4_partOnce_38 : decode cX4_partOnce 38 = .ok (.istore 4, 2) := by decide +kernel
theorem dX4_partOnce_40 : decode cX4_partOnce 40 = .ok (.iload 4, 2) := by decide +kernel
theorem dX4_partOnce_42 : decode cX4_partOnce 42 = .ok (.aload_n 0, 1) := by decide +kernel
theorem dX4_partOnce_43 : decode cX4_partOnce 43 = .ok (.getfield 22, 3) := by decide +kernel
theorem dX4_partOnce_46 : decode cX4_partOnce 46 = .ok (.iload_n 1, 1) := by decide +kernel
theorem dX4_partOnce_47 : decode cX4_partOnce 47 = .ok (.iaload, 1) := by decide +kernel
theorem dX4_partOnce_48 : decode cX4_partOnce 48 = .ok (.if_icmp .ge 11, 3) := by decide +kernel
theorem dX4_partOnce_51 : decode cX4_partOnce 51 = .ok (.aload_n 0, 1) := by decide +kernel
theorem dX4_partOnce_52 : decode cX4_partOnce 52 = .ok (.getfield 22, 3) := by decide +kernel
theorem dX4_partOnce_55 : decode cX4_partOnce 55 = .ok (.iload_n 1, 1) := by decide +kernel
theorem dX4_partOnce_56 : decode cX4_partOnce 56 = .ok (.iload 4, 2) := by decide +kernel
theorem dX4_partOnce_58 : decode cX4_partOnce 58 = .ok (.iastore, 1) := by decide +kernel
theorem dX4_partOnce_59 : decode cX4_partOnce 59 = .ok (.iload_n 3, 1) := by decide +kernel
theorem dX4_partOnce_60 : decode cX4_partOnce 60 = .ok (.iconst 1, 1) := by decide +kernel
theorem dX4_partOnce_61 : decode cX4_partOnce 61 = .ok (.isub, 1) := by decide +kernel
theorem dX4_partOnce_62 : decode cX4_partOnce 62 = .ok (.iload_n 1, 1) := by decide +kernel
theorem dX4_partOnce_63 : decode cX4_partOnce 63 = .ok (.iand, 1) := by decide +kernel
theorem dX4_partOnce_64 : decode cX4_partOnce 64 = .ok (.istore_n 3, 1) := by decide +kernel
theorem dX4_partOnce_65 : decode cX4_partOnce 65 = .ok (.goto (-58), 3) := by decide +kernel
theorem dX4_partOnce_68 : decode cX4_partOnce 68 = .ok (.return_, 1) := by decide +kernel
theorem dX4_leastWithout_0 : decode cX4_leastWithout 0 = .ok (.iconst 0, 1) := by decide +kernel
theorem dX4_leastWithout_1 : decode cX4_leastWithout 1 = .ok (.aload_n 0, 1) := by decide +kernel
theorem dX4_leastWithout_2 : decode cX4_leastWithout 2 = .ok (.getfield 28, 3) := by decide +kernel
theorem dX4_leastWithout_5 : decode cX4_leastWithout 5 = .ok (.invokestatic 121, 3) := by decide +kernel
theorem dX4_leastWithout_8 : decode cX4_leastWithout 8 = .ok (.iload_n 1, 1) := by decide +kernel
theorem dX4_leastWithout_9 : decode cX4_leastWithout 9 = .ok (.isub, 1) := by decide +kernel
theorem dX4_leastWithout_10 : decode cX4_leastWithout 10 = .ok (.invokestatic 115, 3) := by decide +kernel
theorem dX4_leastWithout_13 : decode cX4_leastWithout 13 = .ok (.istore_n 2, 1) := by decide +kernel
theorem dX4_leastWithout_14 : decode cX4_leastWithout 14 = .ok (.ldc 48, 2) := by decide +kernel
theorem dX4_leastWithout_16 : decode cX4_leastWithout 16 = .ok (.istore_n 3, 1) := by decide +kernel
theorem dX4_leastWithout_17 : decode cX4_leastWithout 17 = .ok (.iconst 0, 1) := by decide +kernel
theorem dX4_leastWithout_18 : decode cX4_leastWithout 18 = .ok (.istore 4, 2) := by decide +kernel
theorem dX4_leastWithout_20 : decode cX4_leastWithout 20 = .ok (.iload 4, 2) := by decide +kernel
theorem dX4_leastWithout_22 : decode cX4_leastWithout 22 = .ok (.sipush 256, 3) := by decide +kernel
theorem dX4_leastWithout_25 : decode cX4_leastWithout 25 = .ok (.if_icmp .ge 49, 3) := by decide +kernel
theorem dX4_leastWithout_28 : decode cX4_leastWithout 28 = .ok (.iload 4, 2) := by decide +kernel
theorem dX4_leastWithout_30 : decode cX4_leastWithout 30 = .ok (.aload_n 0, 1) := by decide +kernel
theorem dX4_leastWithout_31 : decode cX4_leastWithout 31 = .ok (.getfield 28, 3) := by decide +kernel
theorem dX4_leastWithout_34 : decode cX4_leastWithout 34 = .ok (.iand, 1) := by decide +kernel
theorem dX4_leastWithout_35 : decode cX4_leastWithout 35 = .ok (.iload 4, 2) := by decide +kernel
theorem dX4_leastWithout_37 : decode cX4_leastWithout 37 = .ok (.if_icmp .ne 31, 3) := by decide +kernel
theorem dX4_leastWithout_40 : decode cX4_leastWithout 40 = .ok (.iload 4, 2) := by decide +kernel
theorem dX4_leastWithout_42 : decode cX4_leastWithout 42 = .ok (.invokestatic 121, 3) := by decide +kernel
theorem dX4_leastWithout_45 : decode cX4_leastWithout 45 = .ok (.iload_n 2, 1) := by decide +kernel
theorem dX4_leastWithout_46 : decode cX4_leastWithout 46 = .ok (.if_icmp .ne 22, 3) := by decide +kernel
theorem dX4_leastWithout_49 : decode cX4_leastWithout 49 = .ok (.aload_n 0, 1) := by decide +kernel
theorem dX4_leastWithout_50 : decode cX4_leastWithout 50 = .ok (.getfield 19, 3) := by decide +kernel
theorem dX4_leastWithout_53 : decode cX4_leastWithout 53 = .ok (.iload 4, 2) := by decide +kernel
theorem dX4_leastWithout_55 : decode cX4_leastWithout 55 = .ok (.iaload, 1) := by decide +kernel
theorem dX4_leastWithout_56 : decode cX4_leastWithout 56 = .ok (.iload_n 3, 1) := by decide +kernel
theorem dX4_leastWithout_57 : decode cX4_leastWithout 57 = .ok (.if_icmp .ge 11, 3) := by decide +kernel
theorem dX4_leastWithout_60 : decode cX4_leastWithout 60 = .ok (.aload_n 0, 1) := by decide +kernel
theorem dX4_leastWithout_61 : decode cX4_leastWithout 61 = .ok (.getfield 19, 3) := by decide +kernel
theorem dX4_leastWithout_64 : decode cX4_leastWithout 64 = .ok (.iload 4, 2) := by decide +kernel
theorem dX4_leastWithout_66 : decode cX4_leastWithout 66 = .ok (.iaload, 1) := by decide +kernel
theorem dX4_leastWithout_67 : decode cX4_leastWithout 67 = .ok (.istore_n 3, 1) := by decide +kernel
theorem dX4_leastWithout_68 : decode cX4_leastWithout 68 = .ok (.iinc 4 1, 3) := by decide +kernel
theorem dX4_leastWithout_71 : decode cX4_leastWithout 71 = .ok (.goto (-51), 3) := by decide +kernel
theorem dX4_leastWithout_74 : decode cX4_leastWithout 74 = .ok (.iload_n 3, 1) := by decide +kernel
theorem dX4_leastWithout_75 : decode cX4_leastWithout 75 = .ok (.ireturn, 1) := by decide +kernel
theorem dX4_leastNotHeld_0 : decode cX4_leastNotHeld 0 = .ok (.iconst 0, 1) := by decide +kernel
theorem dX4_leastNotHeld_1 : decode cX4_leastNotHeld 1 = .ok (.istore_n 2, 1) := by decide +kernel
theorem dX4_leastNotHeld_2 : decode cX4_leastNotHeld 2 = .ok (.bipush 9, 2) := by decide +kernel
theorem dX4_leastNotHeld_4 : decode cX4_leastNotHeld 4 = .ok (.istore_n 3, 1) := by decide +kernel
theorem dX4_leastNotHeld_5 : decode cX4_leastNotHeld 5 = .ok (.iconst 1, 1) := by decide +kernel
theorem dX4_leastNotHeld_6 : decode cX4_leastNotHeld 6 = .ok (.istore 4, 2) := by decide +kernel
theorem dX4_leastNotHeld_8 : decode cX4_leastNotHeld 8 = .ok (.iload 4, 2) := by decide +kernel
theorem dX4_leastNotHeld_10 : decode cX4_leastNotHeld 10 = .ok (.sipush 256, 3) := by decide +kernel
theorem dX4_leastNotHeld_13 : decode cX4_leastNotHeld 13 = .ok (.if_icmp .ge 55, 3) := by decide +kernel
theorem dX4_leastNotHeld_16 : decode cX4_leastNotHeld 16 = .ok (.iload 4, 2) := by decide +kernel
theorem dX4_leastNotHeld_18 : decode cX4_leastNotHeld 18 = .ok (.invokestatic 121, 3) := by decide +kernel
theorem dX4_leastNotHeld_21 : decode cX4_leastNotHeld 21 = .ok (.istore 5, 2) := by decide +kernel
theorem dX4_leastNotHeld_23 : decode cX4_leastNotHeld 23 = .ok (.iload 4, 2) := by decide +kernel
theorem dX4_leastNotHeld_25 : decode cX4_leastNotHeld 25 = .ok (.aload_n 0, 1) := by decide +kernel
theorem dX4_leastNotHeld_26 : decode cX4_leastNotHeld 26 = .ok (.getfield 28, 3) := by decide +kernel
theorem dX4_leastNotHeld_29 : decode cX4_leastNotHeld 29 = .ok (.iand, 1) := by decide +kernel
theorem dX4_leastNotHeld_30 : decode cX4_leastNotHeld 30 = .ok (.iload 4, 2) := by decide +kernel
theorem dX4_leastNotHeld_32 : decode cX4_leastNotHeld 32 = .ok (.if_icmp .ne 30, 3) := by decide +kernel
theorem dX4_leastNotHeld_35 : decode cX4_leastNotHeld 35 = .ok (.iload 5, 2) := by decide +kernel
theorem dX4_leastNotHeld_37 : decode cX4_leastNotHeld 37 = .ok (.iload_n 3, 1) := by decide +kernel
theorem dX4_leastNotHeld_38 : decode cX4_leastNotHeld 38 = .ok (.if_icmp .ge 24, 3) := by decide +kernel
theorem dX4_leastNotHeld_41 : decode cX4_leastNotHeld 41 = .ok (.aload_n 0, 1) := by decide +kernel
theorem dX4_leastNotHeld_42 : decode cX4_leastNotHeld 42 = .ok (.aload_n 0, 1) := by decide +kernel
theorem dX4_leastNotHeld_43 : decode cX4_leastNotHeld 43 = .ok (.getfield 19, 3) := by decide +kernel
theorem dX4_leastNotHeld_46 : decode cX4_leastNotHeld 46 = .ok (.iload 4, 2) := by decide +kernel
theorem dX4_leastNotHeld_48 : decode cX4_leastNotHeld 48 = .ok (.iaload, 1) := by decide +kernel
theorem dX4_leastNotHeld_49 : decode cX4_leastNotHeld 49 = .ok (.invokevirtual 109, 3) := by decide +kernel
theorem dX4_leastNotHeld_52 : decode cX4_leastNotHeld 52 = .ok (.iload_n 1, 1) := by decide +kernel
theorem dX4_leastNotHeld_53 : decode cX4_leastNotHeld 53 = .ok (.if_icmp .le 9, 3) := by decide +kernel
theorem dX4_leastNotHeld_56 : decode cX4_leastNotHeld 56 = .ok (.iload 4, 2) := by decide +kernel
theorem dX4_leastNotHeld_58 : decode cX4_leastNotHeld 58 = .ok (.istore_n 2, 1) := by decide +kernel
theorem dX4_leastNotHeld_59 : decode cX4_leastNotHeld 59 = .ok (.iload 5, 2) := by decide +kernel
theorem dX4_leastNotHeld_61 : decode cX4_leastNotHeld 61 = .ok (.istore_n 3, 1) := by decide +kernel
theorem dX4_leastNotHeld_62 : decode cX4_leastNotHeld 62 = .ok (.iinc 4 1, 3) := by decide +kernel
theorem dX4_leastNotHeld_65 : decode cX4_leastNotHeld 65 = .ok (.goto (-57), 3) := by decide +kernel
theorem dX4_leastNotHeld_68 : decode cX4_leastNotHeld 68 = .ok (.iload_n 2, 1) := by decide +kernel
theorem dX4_leastNotHeld_69 : decode cX4_leastNotHeld 69 = .ok (.ireturn, 1) := by decide +kernel
theorem dX4_fewestSets_0 : decode cX4_fewestSets 0 = .ok (.iconst 1, 1) := by decide +kernel
theorem dX4_fewestSets_1 : decode cX4_fewestSets 1 = .ok (.istore_n 2, 1) := by decide +kernel
theorem dX4_fewestSets_2 : decode cX4_fewestSets 2 = .ok (.iload_n 2, 1) := by decide +kernel
theorem dX4_fewestSets_3 : decode cX4_fewestSets 3 = .ok (.bipush 8, 2) := by decide +kernel
theorem dX4_fewestSets_5 : decode cX4_fewestSets 5 = .ok (.if_icmp .gt 21, 3) := by decide +kernel
theorem dX4_fewestSets_8 : decode cX4_fewestSets 8 = .ok (.aload_n 0, 1) := by decide +kernel
theorem dX4_fewestSets_9 : decode cX4_fewestSets 9 = .ok (.getfield 15, 3) := by decide +kernel
theorem dX4_fewestSets_12 : decode cX4_fewestSets 12 = .ok (.iload_n 2, 1) := by decide +kernel
theorem dX4_fewestSets_13 : decode cX4_fewestSets 13 = .ok (.iaload, 1) := by decide +kernel
theorem dX4_fewestSets_14 : decode cX4_fewestSets 14 = .ok (.iload_n 1, 1) := by decide +kernel
theorem dX4_fewestSets_15 : decode cX4_fewestSets 15 = .ok (.if_icmp .gt 5, 3) := by decide +kernel
theorem dX4_fewestSets_18 : decode cX4_fewestSets 18 = .ok (.iload_n 2, 1) := by decide +kernel
theorem dX4_fewestSets_19 : decode cX4_fewestSets 19 = .ok (.ireturn, 1) := by decide +kernel
theorem dX4_fewestSets_20 : decode cX4_fewestSets 20 = .ok (.iinc 2 1, 3) := by decide +kernel
theorem dX4_fewestSets_23 : decode cX4_fewestSets 23 = .ok (.goto (-21), 3) := by decide +kernel
theorem dX4_fewestSets_26 : decode cX4_fewestSets 26 = .ok (.bipush (-2), 2) := by decide +kernel
theorem dX4_fewestSets_28 : decode cX4_fewestSets 28 = .ok (.ireturn, 1) := by decide +kernel
theorem dX5_init_0 : decode cX5_init 0 = .ok (.aload_n 0, 1) := by decide +kernel
theorem dX5_init_1 : decode cX5_init 1 = .ok (.invokespecial 3, 3) := by decide +kernel
theorem dX5_init_4 : decode cX5_init 4 = .ok (.aload_n 0, 1) := by decide +kernel
theorem dX5_init_5 : decode cX5_init 5 = .ok (.iconst 0, 1) := by decide +kernel
theorem dX5_init_6 : decode cX5_init 6 = .ok (.putfield 9, 3) := by decide +kernel
theorem dX5_init_9 : decode cX5_init 9 = .ok (.aload_n 0, 1) := by decide +kernel
theorem dX5_init_10 : decode cX5_init 10 = .ok (.iconst (-1), 1) := by decide +kernel
theorem dX5_init_11 : decode cX5_init 11 = .ok (.putfield 15, 3) := by decide +kernel
theorem dX5_init_14 : decode cX5_init 14 = .ok (.aload_n 0, 1) := by decide +kernel
theorem dX5_init_15 : decode cX5_init 15 = .ok (.iconst 0, 1) := by decide +kernel
theorem dX5_init_16 : decode cX5_init 16 = .ok (.putfield 19, 3) := by decide +kernel
theorem dX5_init_19 : decode cX5_init 19 = .ok (.aload_n 0, 1) := by decide +kernel
theorem dX5_init_20 : decode cX5_init 20 = .ok (.iconst (-1), 1) := by decide +kernel
theorem dX5_init_21 : decode cX5_init 21 = .ok (.putfield 22, 3) := by decide +kernel
theorem dX5_init_24 : decode cX5_init 24 = .ok (.aload_n 0, 1) := by decide +kernel
theorem dX5_init_25 : decode cX5_init 25 = .ok (.iconst 0, 1) := by decide +kernel
theorem dX5_init_26 : decode cX5_init 26 = .ok (.putfield 25, 3) := by decide +kernel
theorem dX5_init_29 : decode cX5_init 29 = .ok (.aload_n 0, 1) := by decide +kernel
theorem dX5_init_30 : decode cX5_init 30 = .ok (.iconst 0, 1) := by decide +kernel
theorem dX5_init_31 : decode cX5_init 31 = .ok (.putfield 28, 3) := by decide +kernel
theorem dX5_init_34 : decode cX5_init 34 = .ok (.aload_n 0, 1) := by decide +kernel
theorem dX5_init_35 : decode cX5_init 35 = .ok (.bipush 64, 2) := by decide +kernel
theorem dX5_init_37 : decode cX5_init 37 = .ok (.newarray .int, 2) := by decide +kernel
theorem dX5_init_39 : decode cX5_init 39 = .ok (.putfield 31, 3) := by decide +kernel
theorem dX5_init_42 : decode cX5_init 42 = .ok (.aload_n 0, 1) := by decide +kernel
theorem dX5_init_43 : decode cX5_init 43 = .ok (.bipush 64, 2) := by decide +kernel
theorem dX5_init_45 : decode cX5_init 45 = .ok (.newarray .int, 2) := by decide +kernel
theorem dX5_init_47 : decode cX5_init 47 = .ok (.putfield 35, 3) := by decide +kernel
theorem dX5_init_50 : decode cX5_init 50 = .ok (.aload_n 0, 1) := by decide +kernel
theorem dX5_init_51 : decode cX5_init 51 = .ok (.aload_n 1, 1) := by decide +kernel
theorem dX5_init_52 : decode cX5_init 52 = .ok (.putfield 38, 3) := by decide +kernel
theorem dX5_init_55 : decode cX5_init 55 = .ok (.return_, 1) := by decide +kernel
theorem dX5_refresh_0 : decode cX5_refresh 0 = .ok (.aload_n 0, 1) := by decide +kernel
theorem dX5_refresh_1 : decode cX5_refresh 1 = .ok (.getfield 9, 3) := by decide +kernel
theorem dX5_refresh_4 : decode cX5_refresh 4 = .ok (.ifCond .eq 4, 3) := by decide +kernel
theorem dX5_refresh_7 : decode cX5_refresh 7 = .ok (.return_, 1) := by decide +kernel
theorem dX5_refresh_8 : decode cX5_refresh 8 = .ok (.aload_n 0, 1) := by decide +kernel
theorem dX5_refresh_9 : decode cX5_refresh 9 = .ok (.iconst 1, 1) := by decide +kernel
theorem dX5_refresh_10 : decode cX5_refresh 10 = .ok (.putfield 9, 3) := by decide +kernel
theorem dX5_refresh_13 : decode cX5_refresh 13 = .ok (.aload_n 0, 1) := by decide +kernel
theorem dX5_refresh_14 : decode cX5_refresh 14 = .ok (.invokevirtual 42, 3) := by decide +kernel
theorem dX5_refresh_17 : decode cX5_refresh 17 = .ok (.aload_n 0, 1) := by decide +kernel
theorem dX5_refresh_18 : decode cX5_refresh 18 = .ok (.getfield 38, 3) := by decide +kernel
theorem dX5_refresh_21 : decode cX5_refresh 21 = .ok (.getfield 45, 3) := by decide +kernel
theorem dX5_refresh_24 : decode cX5_refresh 24 = .ok (.invokevirtual 51, 3) := by decide +kernel
theorem dX5_refresh_27 : decode cX5_refresh 27 = .ok (.ifCond .eq 11, 3) := by decide +kernel
theorem dX5_refresh_30 : decode cX5_refresh 30 = .ok (.aload_n 0, 1) := by decide +kernel
theorem dX5_refresh_31 : decode cX5_refresh 31 = .ok (.invokevirtual 57, 3) := by decide +kernel
theorem dX5_refresh_34 : decode cX5_refresh 34 = .ok (.aload_n 0, 1) := by decide +kernel
theorem dX5_refresh_35 : decode cX5_refresh 35 = .ok (.invokevirtual 60, 3) := by decide +kernel
theorem dX5_refresh_38 : decode cX5_refresh 38 = .ok (.return_, 1) := by decide +kernel
theorem dX5_clear_0 : decode cX5_clear 0 = .ok (.aload_n 0, 1) := by decide +kernel
theorem dX5_clear_1 : decode cX5_clear 1 = .ok (.iconst (-1), 1) := by decide +kernel
theorem dX5_clear_2 : decode cX5_clear 2 = .ok (.putfield 15, 3) := by decide +kernel
theorem dX5_clear_5 : decode cX5_clear 5 = .ok (.aload_n 0, 1) := by decide +kernel
theorem dX5_clear_6 : decode cX5_clear 6 = .ok (.iconst (-1), 1) := by decide +kernel
theorem dX5_clear_7 : decode cX5_clear 7 = .ok (.putfield 22, 3) := by decide +kernel
theorem dX5_clear_10 : decode cX5_clear 10 = .ok (.aload_n 0, 1) := by decide +kernel
theorem dX5_clear_11 : decode cX5_clear 11 = .ok (.iconst 0, 1) := by decide +kernel
theorem dX5_clear_12 : decode cX5_clear 12 = .ok (.putfield 28, 3) := by decide +kernel
theorem dX5_clear_15 : decode cX5_clear 15 = .ok (.iconst 0, 1) := by decide +kernel
theorem dX5_clear_16 : decode cX5_clear 16 = .ok (.istore_n 1, 1) := by decide +kernel
theorem dX5_clear_17 : decode cX5_clear 17 = .ok (.iload_n 1, 1) := by decide +kernel
theorem dX5_clear_18 : decode cX5_clear 18 = .ok (.bipush 63, 2) := by decide +kernel
theorem dX5_clear_20 : decode cX5_clear 20 = .ok (.if_icmp .gt 23, 3) := by decide +kernel
theorem dX5_clear_23 : decode cX5_clear 23 = .ok (.aload_n 0, 1) := by decide +kernel
theorem dX5_clear_24 : decode cX5_clear 24 = .ok (.getfield 31, 3) := by decide +kernel
theorem dX5_clear_27 : decode cX5_clear 27 = .ok (.iload_n 1, 1) := by decide +kernel
theorem dX5_clear_28 : decode cX5_clear 28 = .ok (.iconst 0, 1) := by decide +kernel
theorem dX5_clear_29 : decode cX5_clear 29 = .ok (.iastore, 1) := by decide +kernel
theorem dX5_clear_30 : decode cX5_clear 30 = .ok (.aload_n 0, 1) := by decide +kernel
theorem dX5_clear_31 : decode cX5_clear 31 = .ok (.getfield 35, 3) := by decide +kernel
theorem dX5_clear_34 : decode cX5_clear 34 = .ok (.iload_n 1, 1) := by decide +kernel
theorem dX5_clear_35 : decode cX5_clear 35 = .ok (.iconst 0, 1) := by decide +kernel
theorem dX5_clear_36 : decode cX5_clear 36 = .ok (.iastore, 1) := by decide +kernel
theorem dX5_clear_37 : decode cX5_clear 37 = .ok (.iinc 1 1, 3) := by decide +kernel
theorem dX5_clear_40 : decode cX5_clear 40 = .ok (.goto (-23), 3) := by decide +kernel
theorem dX5_clear_43 : decode cX5_clear 43 = .ok (.return_, 1) := by decide +kernel
theorem dX5_lookAtAll_0 : decode cX5_lookAtAll 0 = .ok (.aload_n 0, 1) := by decide +kernel
theorem dX5_lookAtAll_1 : decode cX5_lookAtAll 1 = .ok (.getfield 38, 3) := by decide +kernel
theorem dX5_lookAtAll_4 : decode cX5_lookAtAll 4 = .ok (.getfield 63, 3) := by decide +kernel
theorem dX5_lookAtAll_7 : decode cX5_lookAtAll 7 = .ok (.astore_n 1, 1) := by decide +kernel
theorem dX5_lookAtAll_8 : decode cX5_lookAtAll 8 = .ok (.iconst 0, 1) := by decide +kernel
theorem dX5_lookAtAll_9 : decode cX5_lookAtAll 9 = .ok (.istore_n 2, 1) := by decide +kernel
theorem dX5_lookAtAll_10 : decode cX5_lookAtAll 10 = .ok (.aload_n 0, 1) := by decide +kernel
theorem dX5_lookAtAll_11 : decode cX5_lookAtAll 11 = .ok (.getfield 38, 3) := by decide +kernel
theorem dX5_lookAtAll_14 : decode cX5_lookAtAll 14 = .ok (.invokevirtual 67, 3) := by decide +kernel
theorem dX5_lookAtAll_17 : decode cX5_lookAtAll 17 = .ok (.istore_n 3, 1) := by decide +kernel
theorem dX5_lookAtAll_18 : decode cX5_lookAtAll 18 = .ok (.iload_n 3, 1) := by decide +kernel
theorem dX5_lookAtAll_19 : decode cX5_lookAtAll 19 = .ok (.ifCond .le 44, 3) := by decide +kernel
theorem dX5_lookAtAll_22 : decode cX5_lookAtAll 22 = .ok (.iload_n 2, 1) := by decide +kernel
theorem dX5_lookAtAll_23 : decode cX5_lookAtAll 23 = .ok (.ifCond .lt 40, 3) := by decide +kernel
theorem dX5_lookAtAll_26 : decode cX5_lookAtAll 26 = .ok (.aload_n 1, 1) := by decide +kernel
theorem dX5_lookAtAll_27 : decode cX5_lookAtAll 27 = .ok (.iload_n 2, 1) := by decide +kernel
theorem dX5_lookAtAll_28 : decode cX5_lookAtAll 28 = .ok (.invokevirtual 71, 3) := by decide +kernel
theorem dX5_lookAtAll_31 : decode cX5_lookAtAll 31 = .ok (.aload_n 0, 1) := by decide +kernel
theorem dX5_lookAtAll_32 : decode cX5_lookAtAll 32 = .ok (.getfield 38, 3) := by decide +kernel
theorem dX5_lookAtAll_35 : decode cX5_lookAtAll 35 = .ok (.invokevirtual 77, 3) := by decide +kernel
theorem dX5_lookAtAll_38 : decode cX5_lookAtAll 38 = .ok (.ifCond .eq 8, 3) := by decide +kernel
theorem dX5_lookAtAll_41 : decode cX5_lookAtAll 41 = .ok (.aload_n 0, 1) := by decide +kernel
theorem dX5_lookAtAll_42 : decode cX5_lookAtAll 42 = .ok (.aload_n 1, 1) := by decide +kernel
theorem dX5_lookAtAll_43 : decode cX5_lookAtAll 43 = .ok (.invokevirtual 80, 3) := by decide +kernel
theorem dX5_lookAtAll_46 : decode cX5_lookAtAll 46 = .ok (.aload_n 1, 1) := by decide +kernel
theorem dX5_lookAtAll_47 : decode cX5_lookAtAll 47 = .ok (.aload_n 1, 1) := by decide +kernel
theorem dX5_lookAtAll_48 : decode cX5_lookAtAll 48 = .ok (.getfield 84, 3) := by decide +kernel
theorem dX5_lookAtAll_51 : decode cX5_lookAtAll 51 = .ok (.iconst 1, 1) := by decide +kernel
theorem dX5_lookAtAll_52 : decode cX5_lookAtAll 52 = .ok (.isub, 1) := by decide +kernel
theorem dX5_lookAtAll_53 : decode cX5_lookAtAll 53 = .ok (.invokevirtual 87, 3) := by decide +kernel
theorem dX5_lookAtAll_56 : decode cX5_lookAtAll 56 = .ok (.istore_n 2, 1) := by decide +kernel
theorem dX5_lookAtAll_57 : decode cX5_lookAtAll 57 = .ok (.iinc 3 (-1), 3) := by decide +kernel
theorem dX5_lookAtAll_60 : decode cX5_lookAtAll 60 = .ok (.goto (-42), 3) := by decide +kernel
theorem dX5_lookAtAll_63 : decode cX5_lookAtAll 63 = .ok (.return_, 1) := by decide +kernel
theorem dX5_lookAtOne_0 : decode cX5_lookAtOne 0 = .ok (.aload_n 1, 1) := by decide +kernel
theorem dX5_lookAtOne_1 : decode cX5_lookAtOne 1 = .ok (.invokevirtual 91, 3) := by decide +kernel
theorem dX5_lookAtOne_4 : decode cX5_lookAtOne 4 = .ok (.istore_n 2, 1) := by decide +kernel
theorem dX5_lookAtOne_5 : decode cX5_lookAtOne 5 = .ok (.iconst 0, 1) := by decide +kernel
theorem dX5_lookAtOne_6 : decode cX5_lookAtOne 6 = .ok (.istore_n 3, 1) := by decide +kernel
theorem dX5_lookAtOne_7 : decode cX5_lookAtOne 7 = .ok (.iconst 0, 1) := by decide +kernel
theorem dX5_lookAtOne_8 : decode cX5_lookAtOne 8 = .ok (.istore 4, 2) := by decide +kernel
theorem dX5_lookAtOne_10 : decode cX5_lookAtOne 10 = .ok (.iconst 0, 1) := by decide +kernel
theorem dX5_lookAtOne_11 : decode cX5_lookAtOne 11 = .ok (.istore 5, 2) := by decide +kernel
theorem dX5_lookAtOne_13 : decode cX5_lookAtOne 13 = .ok (.iload 5, 2) := by decide +kernel
theorem dX5_lookAtOne_15 : decode cX5_lookAtOne 15 = .ok (.aload_n 0, 1) := by decide +kernel
theorem dX5_lookAtOne_16 : decode cX5_lookAtOne 16 = .ok (.getfield 38, 3) := by decide +kernel
theorem dX5_lookAtOne_19 : decode cX5_lookAtOne 19 = .ok (.getfield 94, 3) := by decide +kernel
theorem dX5_lookAtOne_22 : decode cX5_lookAtOne 22 = .ok (.if_icmp .ge 36, 3) := by decide +kernel
theorem dX5_lookAtOne_25 : decode cX5_lookAtOne 25 = .ok (.aload_n 1, 1) := by decide +kernel
theorem dX5_lookAtOne_26 : decode cX5_lookAtOne 26 = .ok (.getfield 97, 3) := by decide +kernel
theorem dX5_lookAtOne_29 : decode cX5_lookAtOne 29 = .ok (.iload_n 2, 1) := by decide +kernel
theorem dX5_lookAtOne_30 : decode cX5_lookAtOne 30 = .ok (.iload 5, 2) := by decide +kernel
theorem dX5_lookAtOne_32 : decode cX5_lookAtOne 32 = .ok (.iadd, 1) := by decide +kernel
theorem dX5_lookAtOne_33 : decode cX5_lookAtOne 33 = .ok (.iaload, 1) := by decide +kernel
theorem dX5_lookAtOne_34 : decode cX5_lookAtOne 34 = .ok (.istore 6, 2) := by decide +kernel
theorem dX5_lookAtOne_36 : decode cX5_lookAtOne 36 = .ok (.iload 4, 2) := by decide +kernel
theorem dX5_lookAtOne_38 : decode cX5_lookAtOne 38 = .ok (.iload 6, 2) := by decide +kernel
theorem dX5_lookAtOne_40 : decode cX5_lookAtOne 40 = .ok (.iadd, 1) := by decide +kernel
theorem dX5_lookAtOne_41 : decode cX5_lookAtOne 41 = .ok (.istore 4, 2) := by decide +kernel
theorem dX5_lookAtOne_43 : decode cX5_lookAtOne 43 = .ok (.iload 6, 2) := by decide +kernel
theorem dX5_lookAtOne_45 : decode cX5_lookAtOne 45 = .ok (.iload_n 3, 1) := by decide +kernel
theorem dX5_lookAtOne_46 : decode cX5_lookAtOne 46 = .ok (.if_icmp .le 6, 3) := by decide +kernel
theorem dX5_lookAtOne_49 : decode cX5_lookAtOne 49 = .ok (.iload 6, 2) := by decide +kernel
theorem dX5_lookAtOne_51 : decode cX5_lookAtOne 51 = .ok (.istore_n 3, 1) := by decide +kernel
theorem dX5_lookAtOne_52 : decode cX5_lookAtOne 52 = .ok (.iinc 5 1, 3) := by decide +kernel
theorem dX5_lookAtOne_55 : decode cX5_lookAtOne 55 = .ok (.goto (-42), 3) := by decide +kernel
theorem dX5_lookAtOne_58 : decode cX5_lookAtOne 58 = .ok (.iload_n 3, 1) := by decide +kernel
theorem dX5_lookAtOne_59 : decode cX5_lookAtOne 59 = .ok (.bipush 63, 2) := by decide +kernel
theorem dX5_lookAtOne_61 : decode cX5_lookAtOne 61 = .ok (.if_icmp .le 4, 3) := by decide +kernel
theorem dX5_lookAtOne_64 : decode cX5_lookAtOne 64 = .ok (.return_, 1) := by decide +kernel
theorem dX5_lookAtOne_65 : decode cX5_lookAtOne 65 = .ok (.aload_n 0, 1) := by decide +kernel
theorem dX5_lookAtOne_66 : decode cX5_lookAtOne 66 = .ok (.getfield 31, 3) := by decide +kernel
theorem dX5_lookAtOne_69 : decode cX5_lookAtOne 69 = .ok (.iload_n 3, 1) := by decide +kernel
theorem dX5_lookAtOne_70 : decode cX5_lookAtOne 70 = .ok (.dup2, 1) := by decide +kernel
theorem dX5_lookAtOne_71 : decode cX5_lookAtOne 71 = .ok (.iaload, 1) := by decide +kernel
theorem dX5_lookAtOne_72 : decode cX5_lookAtOne 72 = .ok (.iconst 1, 1) := by decide +kernel
theorem dX5_lookAtOne_73 : decode cX5_lookAtOne 73 = .ok (.iadd, 1) := by decide +kernel
theorem dX5_lookAtOne_74 : decode cX5_lookAtOne 74 = .ok (.iastore, 1) := by decide +kernel
theorem dX5_lookAtOne_75 : decode cX5_lookAtOne 75 = .ok (.aload_n 0, 1) := by decide +kernel
theorem dX5_lookAtOne_76 : decode cX5_lookAtOne 76 = .ok (.getfield 35, 3) := by decide +kernel
theorem dX5_lookAtOne_79 : decode cX5_lookAtOne 79 = .ok (.iload_n 3, 1) := by decide +kernel
theorem dX5_lookAtOne_80 : decode cX5_lookAtOne 80 = .ok (.dup2, 1) := by decide +kernel
theorem dX5_lookAtOne_81 : decode cX5_lookAtOne 81 = .ok (.iaload, 1) := by decide +kernel
theorem dX5_lookAtOne_82 : decode cX5_lookAtOne 82 = .ok (.aload_n 1, 1) := by decide +kernel
theorem dX5_lookAtOne_83 : decode cX5_lookAtOne 83 = .ok (.invokevirtual 100, 3) := by decide +kernel
theorem dX5_lookAtOne_86 : decode cX5_lookAtOne 86 = .ok (.ior, 1) := by decide +kernel
theorem dX5_lookAtOne_87 : decode cX5_lookAtOne 87 = .ok (.iastore, 1) := by decide +kernel
theorem dX5_lookAtOne_88 : decode cX5_lookAtOne 88 = .ok (.aload_n 0, 1) := by decide +kernel
theorem dX5_lookAtOne_89 : decode cX5_lookAtOne 89 = .ok (.getfield 15, 3) := by decide +kernel
theorem dX5_lookAtOne_92 : decode cX5_lookAtOne 92 = .ok (.iconst (-1), 1) := by decide +kernel
theorem dX5_lookAtOne_93 : decode cX5_lookAtOne 93 = .ok (.if_icmp .eq 11, 3) := by decide +kernel
theorem dX5_lookAtOne_96 : decode cX5_lookAtOne 96 = .ok (.iload_n 3, 1) := by decide +kernel
theorem dX5_lookAtOne_97 : decode cX5_lookAtOne 97 = .ok (.aload_n 0, 1) := by decide +kernel
theorem dX5_lookAtOne_98 : decode cX5_lookAtOne 98 = .ok (.getfield 15, 3) := by decide +kernel
theorem dX5_lookAtOne_101 : decode cX5_lookAtOne 101 = .ok (.if_icmp .ge 16, 3) := by decide +kernel
theorem dX5_lookAtOne_104 : decode cX5_lookAtOne 104 = .ok (.aload_n 0, 1) := by decide +kernel
theorem dX5_lookAtOne_105 : decode cX5_lookAtOne 105 = .ok (.iload_n 3, 1) := by decide +kernel
theorem dX5_lookAtOne_106 : decode cX5_lookAtOne 106 = .ok (.putfield 15, 3) := by decide +kernel
theorem dX5_lookAtOne_109 : decode cX5_lookAtOne 109 = .ok (.aload_n 0, 1) := by decide +kernel
theorem dX5_lookAtOne_110 : decode cX5_lookAtOne 110 = .ok (.aload_n 1, 1) := by decide +kernel
theorem dX5_lookAtOne_111 : decode cX5_lookAtOne 111 = .ok (.invokevirtual 103, 3) := by decide +kernel
theorem dX5_lookAtOne_114 : decode cX5_lookAtOne 114 = .ok (.putfield 19, 3) := by decide +kernel
theorem dX5_lookAtOne_117 : decode cX5_lookAtOne 117 = .ok (.aload_n 0, 1) := by decide +kernel
theorem dX5_lookAtOne_118 : decode cX5_lookAtOne 118 = .ok (.getfield 22, 3) := by decide +kernel
theorem dX5_lookAtOne_121 : decode cX5_lookAtOne 121 = .ok (.iconst (-1), 1) := by decide +kernel
theorem dX5_lookAtOne_122 : decode cX5_lookAtOne 122 = .ok (.if_icmp .eq 12, 3) := by decide +kernel
theorem dX5_lookAtOne_125 : decode cX5_lookAtOne 125 = .ok (.iload 4, 2) := by decide +kernel
theorem dX5_lookAtOne_127 : decode cX5_lookAtOne 127 = .ok (.aload_n 0, 1) := by decide +kernel
theorem dX5_lookAtOne_128 : decode cX5_lookAtOne 128 = .ok (.getfield 22, 3) := by decide +kernel
theorem dX5_lookAtOne_131 : decode cX5_lookAtOne 131 = .ok (.if_icmp .ge 22, 3) := by decide +kernel
theorem dX5_lookAtOne_134 : decode cX5_lookAtOne 134 = .ok (.aload_n 0, 1) := by decide +kernel
theorem dX5_lookAtOne_135 : decode cX5_lookAtOne 135 = .ok (.iload 4, 2) := by decide +kernel
theorem dX5_lookAtOne_137 : decode cX5_lookAtOne 137 = .ok (.putfield 22, 3) := by decide +kernel
theorem dX5_lookAtOne_140 : decode cX5_lookAtOne 140 = .ok (.aload_n 0, 1) := by decide +kernel
theorem dX5_lookAtOne_141 : decode cX5_lookAtOne 141 = .ok (.aload_n 1, 1) := by decide +kernel
theorem dX5_lookAtOne_142 : decode cX5_lookAtOne 142 = .ok (.invokevirtual 103, 3) := by decide +kernel
theorem dX5_lookAtOne_145 : decode cX5_lookAtOne 145 = .ok (.putfield 25, 3) := by decide +kernel
theorem dX5_lookAtOne_148 : decode cX5_lookAtOne 148 = .ok (.aload_n 0, 1) := by decide +kernel
theorem dX5_lookAtOne_149 : decode cX5_lookAtOne 149 = .ok (.iconst 0, 1) := by decide +kernel
theorem dX5_lookAtOne_150 : decode cX5_lookAtOne 150 = .ok (.putfield 28, 3) := by decide +kernel
theorem dX5_lookAtOne_153 : decode cX5_lookAtOne 153 = .ok (.iload 4, 2) := by decide +kernel
theorem dX5_lookAtOne_155 : decode cX5_lookAtOne 155 = .ok (.aload_n 0, 1) := by decide +kernel
theorem dX5_lookAtOne_156 : decode cX5_lookAtOne 156 = .ok (.getfield 22, 3) := by decide +kernel
theorem dX5_lookAtOne_159 : decode cX5_lookAtOne 159 = .ok (.if_icmp .ne 13, 3) := by decide +kernel
theorem dX5_lookAtOne_162 : decode cX5_lookAtOne 162 = .ok (.aload_n 0, 1) := by decide +kernel
theorem dX5_lookAtOne_163 : decode cX5_lookAtOne 163 = .ok (.dup, 1) := by decide +kernel
theorem dX5_lookAtOne_164 : decode cX5_lookAtOne 164 = .ok (.getfield 28, 3) := by decide +kernel
theorem dX5_lookAtOne_167 : decode cX5_lookAtOne 167 = .ok (.iconst 1, 1) := by decide +kernel
theorem dX5_lookAtOne_168 : decode cX5_lookAtOne 168 = .ok (.iadd, 1) := by decide +kernel
theorem dX5_lookAtOne_169 : decode cX5_lookAtOne 169 = .ok (.putfield 28, 3) := by decide +kernel
theorem dX5_lookAtOne_172 : decode cX5_lookAtOne 172 = .ok (.return_, 1) := by decide +kernel
theorem dX5_addUp_0 : decode cX5_addUp 0 = .ok (.iconst 1, 1) := by decide +kernel
theorem dX5_addUp_1 : decode cX5_addUp 1 = .ok (.istore_n 1, 1) := by decide +kernel
theorem dX5_addUp_2 : decode cX5_addUp 2 = .ok (.iload_n 1, 1) := by decide +kernel
theorem dX5_addUp_3 : decode cX5_addUp 3 = .ok (.bipush 63, 2) := by decide +kernel
theorem dX5_addUp_5 : decode cX5_addUp 5 = .ok (.if_icmp .gt 43, 3) := by decide +kernel
theorem dX5_addUp_8 : decode cX5_addUp 8 = .ok (.aload_n 0, 1) := by decide +kernel
theorem dX5_addUp_9 : decode cX5_addUp 9 = .ok (.getfield 31, 3) := by decide +kernel
theorem dX5_addUp_12 : decode cX5_addUp 12 = .ok (.iload_n 1, 1) := by decide +kernel
theorem dX5_addUp_13 : decode cX5_addUp 13 = .ok (.dup2, 1) := by decide +kernel
theorem dX5_addUp_14 : decode cX5_addUp 14 = .ok (.iaload, 1) := by decide +kernel
theorem dX5_addUp_15 : decode cX5_addUp 15 = .ok (.aload_n 0, 1) := by decide +kernel
theorem dX5_addUp_16 : decode cX5_addUp 16 = .ok (.getfield 31, 3) := by decide +kernel
theorem dX5_addUp_19 : decode cX5_addUp 19 = .ok (.iload_n 1, 1) := by decide +kernel
theorem dX5_addUp_20 : decode cX5_addUp 20 = .ok (.iconst 1, 1) := by decide +kernel
theorem dX5_addUp_21 : decode cX5_addUp 21 = .ok (.isub, 1) := by decide +kernel
theorem dX5_addUp_22 : decode cX5_addUp 22 = .ok (.iaload, 1) := by decide +kernel
theorem dX5_addUp_23 : decode cX5_addUp 23 = .ok (.iadd, 1) := by decide +kernel
theorem dX5_addUp_24 : decode cX5_addUp 24 = .ok (.iastore, 1) := by decide +kernel
theorem dX5_addUp_25 : decode cX5_addUp 25 = .ok (.aload_n 0, 1) := by decide +kernel
theorem dX5_addUp_26 : decode cX5_addUp 26 = .ok (.getfield 35, 3) := by decide +kernel
theorem dX5_addUp_29 : decode cX5_addUp 29 = .ok (.iload_n 1, 1) := by decide +kernel
theorem dX5_addUp_30 : decode cX5_addUp 30 = .ok (.dup2, 1) := by decide +kernel
theorem dX5_addUp_31 : decode cX5_addUp 31 = .ok (.iaload, 1) := by decide +kernel
theorem dX5_addUp_32 : decode cX5_addUp 32 = .ok (.aload_n 0, 1) := by decide +kernel
theorem dX5_addUp_33 : decode cX5_addUp 33 = .ok (.getfield 35, 3) := by decide +kernel
theorem dX5_addUp_36 : decode cX5_addUp 36 = .ok (.iload_n 1, 1) := by decide +kernel
theorem dX5_addUp_37 : decode cX5_addUp 37 = .ok (.iconst 1, 1) := by decide +kernel
theorem dX5_addUp_38 : decode cX5_addUp 38 = .ok (.isub, 1) := by decide +kernel
theorem dX5_addUp_39 : decode cX5_addUp 39 = .ok (.iaload, 1) := by decide +kernel
theorem dX5_addUp_40 : decode cX5_addUp 40 = .ok (.ior, 1) := by decide +kernel
theorem dX5_addUp_41 : decode cX5_addUp 41 = .ok (.iastore, 1) := by decide +kernel
theorem dX5_addUp_42 : decode cX5_addUp 42 = .ok (.iinc 1 1, 3) := by decide +kernel
theorem dX5_addUp_45 : decode cX5_addUp 45 = .ok (.goto (-43), 3) := by decide +kernel
theorem dX5_addUp_48 : decode cX5_addUp 48 = .ok (.return_, 1) := by decide +kernel
theorem dX6_init_0 : decode cX6_init 0 = .ok (.aload_n 0, 1) := by decide +kernel
theorem dX6_init_1 : decode cX6_init 1 = .ok (.invokespecial 3, 3) := by decide +kernel
theorem dX6_init_4 : decode cX6_init 4 = .ok (.aload_n 0, 1) := by decide +kernel
theorem dX6_init_5 : decode cX6_init 5 = .ok (.iconst 0, 1) := by decide +kernel
theorem dX6_init_6 : decode cX6_init 6 = .ok (.putfield 9, 3) := by decide +kernel
theorem dX6_init_9 : decode cX6_init 9 = .ok (.aload_n 0, 1) := by decide +kernel
theorem dX6_init_10 : decode cX6_init 10 = .ok (.bipush 40, 2) := by decide +kernel
theorem dX6_init_12 : decode cX6_init 12 = .ok (.newarray .int, 2) := by decide +kernel
theorem dX6_init_14 : decode cX6_init 14 = .ok (.putfield 15, 3) := by decide +kernel
theorem dX6_init_17 : decode cX6_init 17 = .ok (.aload_n 0, 1) := by decide +kernel
theorem dX6_init_18 : decode cX6_init 18 = .ok (.bipush 40, 2) := by decide +kernel
theorem dX6_init_20 : decode cX6_init 20 = .ok (.newarray .byte, 2) := by decide +kernel
theorem dX6_init_22 : decode cX6_init 22 = .ok (.putfield 19, 3) := by decide +kernel
theorem dX6_init_25 : decode cX6_init 25 = .ok (.return_, 1) := by decide +kernel
theorem dX6_add_0 : decode cX6_add 0 = .ok (.bipush 24, 2) := by decide +kernel
theorem dX6_add_2 : decode cX6_add 2 = .ok (.istore_n 2, 1) := by decide +kernel
theorem dX6_add_3 : decode cX6_add 3 = .ok (.iload_n 2, 1) := by decide +kernel
theorem dX6_add_4 : decode cX6_add 4 = .ok (.ifCond .lt 41, 3) := by decide +kernel
theorem dX6_add_7 : decode cX6_add 7 = .ok (.aload_n 0, 1) := by decide +kernel
theorem dX6_add_8 : decode cX6_add 8 = .ok (.getfield 9, 3) := by decide +kernel
theorem dX6_add_11 : decode cX6_add 11 = .ok (.bipush 40, 2) := by decide +kernel
theorem dX6_add_13 : decode cX6_add 13 = .ok (.if_icmp .ge 32, 3) := by decide +kernel
theorem dX6_add_16 : decode cX6_add 16 = .ok (.aload_n 0, 1) := by decide +kernel
theorem dX6_add_17 : decode cX6_add 17 = .ok (.getfield 19, 3) := by decide +kernel
theorem dX6_add_20 : decode cX6_add 20 = .ok (.aload_n 0, 1) := by decide +kernel
theorem dX6_add_21 : decode cX6_add 21 = .ok (.getfield 9, 3) := by decide +kernel
theorem dX6_add_24 : decode cX6_add 24 = .ok (.iload_n 1, 1) := by decide +kernel
theorem dX6_add_25 : decode cX6_add 25 = .ok (.iload_n 2, 1) := by decide +kernel
theorem dX6_add_26 : decode cX6_add 26 = .ok (.ishr, 1) := by decide +kernel
theorem dX6_add_27 : decode cX6_add 27 = .ok (.i2b, 1) := by decide +kernel
theorem dX6_add_28 : decode cX6_add 28 = .ok (.bastore, 1) := by decide +kernel
theorem dX6_add_29 : decode cX6_add 29 = .ok (.aload_n 0, 1) := by decide +kernel
theorem dX6_add_30 : decode cX6_add 30 = .ok (.dup, 1) := by decide +kernel
theorem dX6_add_31 : decode cX6_add 31 = .ok (.getfield 9, 3) := by decide +kernel
theorem dX6_add_34 : decode cX6_add 34 = .ok (.iconst 1, 1) := by decide +kernel
theorem dX6_add_35 : decode cX6_add 35 = .ok (.iadd, 1) := by decide +kernel
theorem dX6_add_36 : decode cX6_add 36 = .ok (.putfield 9, 3) := by decide +kernel
theorem dX6_add_39 : decode cX6_add 39 = .ok (.iinc 2 (-8), 3) := by decide +kernel
theorem dX6_add_42 : decode cX6_add 42 = .ok (.goto (-39), 3) := by decide +kernel
theorem dX6_add_45 : decode cX6_add 45 = .ok (.return_, 1) := by decide +kernel
theorem dX6_take_0 : decode cX6_take 0 = .ok (.aload_n 0, 1) := by decide +kernel
theorem dX6_take_1 : decode cX6_take 1 = .ok (.getfield 9, 3) := by decide +kernel
theorem dX6_take_4 : decode cX6_take 4 = .ok (.istore_n 2, 1) := by decide +kernel
theorem dX6_take_5 : decode cX6_take 5 = .ok (.aload_n 0, 1) := by decide +kernel
theorem dX6_take_6 : decode cX6_take 6 = .ok (.iconst 0, 1) := by decide +kernel
theorem dX6_take_7 : decode cX6_take 7 = .ok (.putfield 9, 3) := by decide +kernel
theorem dX6_take_10 : decode cX6_take 10 = .ok (.iconst 0, 1) := by decide +kernel
theorem dX6_take_11 : decode cX6_take 11 = .ok (.istore_n 3, 1) := by decide +kernel
theorem dX6_take_12 : decode cX6_take 12 = .ok (.iload_n 3, 1) := by decide +kernel
theorem dX6_take_13 : decode cX6_take 13 = .ok (.iload_n 2, 1) := by decide +kernel
theorem dX6_take_14 : decode cX6_take 14 = .ok (.if_icmp .ge 41, 3) := by decide +kernel
theorem dX6_take_17 : decode cX6_take 17 = .ok (.aload_n 0, 1) := by decide +kernel
theorem dX6_take_18 : decode cX6_take 18 = .ok (.getfield 19, 3) := by decide +kernel
theorem dX6_take_21 : decode cX6_take 21 = .ok (.iload_n 3, 1) := by decide +kernel
theorem dX6_take_22 : decode cX6_take 22 = .ok (.baload, 1) := by decide +kernel
theorem dX6_take_23 : decode cX6_take 23 = .ok (.bipush 97, 2) := by decide +kernel
theorem dX6_take_25 : decode cX6_take 25 = .ok (.isub, 1) := by decide +kernel
theorem dX6_take_26 : decode cX6_take 26 = .ok (.istore 4, 2) := by decide +kernel
theorem dX6_take_28 : decode cX6_take 28 = .ok (.iload 4, 2) := by decide +kernel
theorem dX6_take_30 : decode cX6_take 30 = .ok (.ifCond .lt 9, 3) := by decide +kernel
theorem dX6_take_33 : decode cX6_take 33 = .ok (.iload 4, 2) := by decide +kernel
theorem dX6_take_35 : decode cX6_take 35 = .ok (.iload_n 1, 1) := by decide +kernel
theorem dX6_take_36 : decode cX6_take 36 = .ok (.if_icmp .lt 5, 3) := by decide +kernel
theorem dX6_take_39 : decode cX6_take 39 = .ok (.iconst (-1), 1) := by decide +kernel
theorem dX6_take_40 : decode cX6_take 40 = .ok (.ireturn, 1) := by decide +kernel
theorem dX6_take_41 : decode cX6_take 41 = .ok (.aload_n 0, 1) := by decide +kernel
theorem dX6_take_42 : decode cX6_take 42 = .ok (.getfield 15, 3) := by decide +kernel
theorem dX6_take_45 : decode cX6_take 45 = .ok (.iload_n 3, 1) := by decide +kernel
theorem dX6_take_46 : decode cX6_take 46 = .ok (.iload 4, 2) := by decide +kernel
theorem dX6_take_48 : decode cX6_take 48 = .ok (.iastore, 1) := by decide +kernel
theorem dX6_take_49 : decode cX6_take 49 = .ok (.iinc 3 1, 3) := by decide +kernel
theorem dX6_take_52 : decode cX6_take 52 = .ok (.goto (-40), 3) := by decide +kernel
theorem dX6_take_55 : decode cX6_take 55 = .ok (.iload_n 2, 1) := by decide +kernel
theorem dX6_take_56 : decode cX6_take 56 = .ok (.ireturn, 1) := by decide +kernel
theorem dX7_init_0 : decode cX7_init 0 = .ok (.aload_n 0, 1) := by decide +kernel
theorem dX7_init_1 : decode cX7_init 1 = .ok (.invokespecial 3, 3) := by decide +kernel
theorem dX7_init_4 : decode cX7_init 4 = .ok (.aload_n 0, 1) := by decide +kernel
theorem dX7_init_5 : decode cX7_init 5 = .ok (.iconst 0, 1) := by decide +kernel
theorem dX7_init_6 : decode cX7_init 6 = .ok (.putfield 9, 3) := by decide +kernel
theorem dX7_init_9 : decode cX7_init 9 = .ok (.aload_n 0, 1) := by decide +kernel
theorem dX7_init_10 : decode cX7_init 10 = .ok (.bipush 120, 2) := by decide +kernel
theorem dX7_init_12 : decode cX7_init 12 = .ok (.newarray .int, 2) := by decide +kernel
theorem dX7_init_14 : decode cX7_init 14 = .ok (.putfield 15, 3) := by decide +kernel
theorem dX7_init_17 : decode cX7_init 17 = .ok (.aload_n 0, 1) := by decide +kernel
theorem dX7_init_18 : decode cX7_init 18 = .ok (.iconst 5, 1) := by decide +kernel
theorem dX7_init_19 : decode cX7_init 19 = .ok (.newarray .int, 2) := by decide +kernel
theorem dX7_init_21 : decode cX7_init 21 = .ok (.putfield 19, 3) := by decide +kernel
theorem dX7_init_24 : decode cX7_init 24 = .ok (.return_, 1) := by decide +kernel
theorem dX7_has_0 : decode cX7_has 0 = .ok (.iload_n 1, 1) := by decide +kernel
theorem dX7_has_1 : decode cX7_has 1 = .ok (.ifCond .lt 15, 3) := by decide +kernel
theorem dX7_has_4 : decode cX7_has 4 = .ok (.iload_n 1, 1) := by decide +kernel
theorem dX7_has_5 : decode cX7_has 5 = .ok (.aload_n 0, 1) := by decide +kernel
theorem dX7_has_6 : decode cX7_has 6 = .ok (.getfield 9, 3) := by decide +kernel
theorem dX7_has_9 : decode cX7_has 9 = .ok (.if_icmp .ge 7, 3) := by decide +kernel
theorem dX7_has_12 : decode cX7_has 12 = .ok (.iconst 1, 1) := by decide +kernel
theorem dX7_has_13 : decode cX7_has 13 = .ok (.goto 4, 3) := by decide +kernel
theorem dX7_has_16 : decode cX7_has 16 = .ok (.iconst 0, 1) := by decide +kernel
theorem dX7_has_17 : decode cX7_has 17 = .ok (.ireturn, 1) := by decide +kernel
theorem dX7_start_0 : decode cX7_start 0 = .ok (.iload_n 1, 1) := by decide +kernel
theorem dX7_start_1 : decode cX7_start 1 = .ok (.bipush 24, 2) := by decide +kernel
theorem dX7_start_3 : decode cX7_start 3 = .ok (.imul, 1) := by decide +kernel
theorem dX7_start_4 : decode cX7_start 4 = .ok (.ireturn, 1) := by decide +kernel
theorem dX7_add_0 : decode cX7_add 0 = .ok (.aload_n 1, 1) := by decide +kernel
theorem dX7_add_1 : decode cX7_add 1 = .ok (.iconst 0, 1) := by decide +kernel
theorem dX7_add_2 : decode cX7_add 2 = .ok (.aload_n 0, 1) := by decide +kernel
theorem dX7_add_3 : decode cX7_add 3 = .ok (.getfield 15, 3) := by decide +kernel
theorem dX7_add_6 : decode cX7_add 6 = .ok (.aload_n 0, 1) := by decide +kernel
theorem dX7_add_7 : decode cX7_add 7 = .ok (.aload_n 0, 1) := by decide +kernel
theorem dX7_add_8 : decode cX7_add 8 = .ok (.getfield 9, 3) := by decide +kernel
theorem dX7_add_11 : decode cX7_add 11 = .ok (.invokevirtual 22, 3) := by decide +kernel
theorem dX7_add_14 : decode cX7_add 14 = .ok (.iload_n 2, 1) := by decide +kernel
theorem dX7_add_15 : decode cX7_add 15 = .ok (.invokestatic 26, 3) := by decide +kernel
theorem dX7_add_18 : decode cX7_add 18 = .ok (.aload_n 0, 1) := by decide +kernel
theorem dX7_add_19 : decode cX7_add 19 = .ok (.getfield 19, 3) := by decide +kernel
theorem dX7_add_22 : decode cX7_add 22 = .ok (.aload_n 0, 1) := by decide +kernel
theorem dX7_add_23 : decode cX7_add 23 = .ok (.getfield 9, 3) := by decide +kernel
theorem dX7_add_26 : decode cX7_add 26 = .ok (.iload_n 2, 1) := by decide +kernel
theorem dX7_add_27 : decode cX7_add 27 = .ok (.iastore, 1) := by decide +kernel
theorem dX7_add_28 : decode cX7_add 28 = .ok (.aload_n 0, 1) := by decide +kernel
theorem dX7_add_29 : decode cX7_add 29 = .ok (.dup, 1) := by decide +kernel
theorem dX7_add_30 : decode cX7_add 30 = .ok (.getfield 9, 3) := by decide +kernel
theorem dX7_add_33 : decode cX7_add 33 = .ok (.iconst 1, 1) := by decide +kernel
theorem dX7_add_34 : decode cX7_add 34 = .ok (.iadd, 1) := by decide +kernel
theorem dX7_add_35 : decode cX7_add 35 = .ok (.putfield 9, 3) := by decide +kernel
theorem dX7_add_38 : decode cX7_add 38 = .ok (.return_, 1) := by decide +kernel
theorem dX7_allHave_0 : decode cX7_allHave 0 = .ok (.iload_n 1, 1) := by decide +kernel
theorem dX7_allHave_1 : decode cX7_allHave 1 = .ok (.iconst 1, 1) := by decide +kernel
theorem dX7_allHave_2 : decode cX7_allHave 2 = .ok (.if_icmp .lt 9, 3) := by decide +kernel
theorem dX7_allHave_5 : decode cX7_allHave 5 = .ok (.iload_n 1, 1) := by decide +kernel
theorem dX7_allHave_6 : decode cX7_allHave 6 = .ok (.bipush 6, 2) := by decide +kernel
theorem dX7_allHave_8 : decode cX7_allHave 8 = .ok (.if_icmp .le 5, 3) := by decide +kernel
theorem dX7_allHave_11 : decode cX7_allHave 11 = .ok (.iconst 0, 1) := by decide +kernel
theorem dX7_allHave_12 : decode cX7_allHave 12 = .ok (.ireturn, 1) := by decide +kernel
theorem dX7_allHave_13 : decode cX7_allHave 13 = .ok (.iconst 0, 1) := by decide +kernel
theorem dX7_allHave_14 : decode cX7_allHave 14 = .ok (.istore_n 2, 1) := by decide +kernel
theorem dX7_allHave_15 : decode cX7_allHave 15 = .ok (.iload_n 2, 1) := by decide +kernel
theorem dX7_allHave_16 : decode cX7_allHave 16 = .ok (.aload_n 0, 1) := by decide +kernel
theorem dX7_allHave_17 : decode cX7_allHave 17 = .ok (.getfield 9, 3) := by decide +kernel
theorem dX7_allHave_20 : decode cX7_allHave 20 = .ok (.if_icmp .ge 21, 3) := by decide +kernel
theorem dX7_allHave_23 : decode cX7_allHave 23 = .ok (.aload_n 0, 1) := by decide +kernel
theorem dX7_allHave_24 : decode cX7_allHave 24 = .ok (.getfield 19, 3) := by decide +kernel
theorem dX7_allHave_27 : decode cX7_allHave 27 = .ok (.iload_n 2, 1) := by decide +kernel
theorem dX7_allHave_28 : decode cX7_allHave 28 = .ok (.iaload, 1) := by decide +kernel
theorem dX7_allHave_29 : decode cX7_allHave 29 = .ok (.iload_n 1, 1) := by decide +kernel
theorem dX7_allHave_30 : decode cX7_allHave 30 = .ok (.if_icmp .ge 5, 3) := by decide +kernel
theorem dX7_allHave_33 : decode cX7_allHave 33 = .ok (.iconst 0, 1) := by decide +kernel
theorem dX7_allHave_34 : decode cX7_allHave 34 = .ok (.ireturn, 1) := by decide +kernel
theorem dX7_allHave_35 : decode cX7_allHave 35 = .ok (.iinc 2 1, 3) := by decide +kernel
theorem dX7_allHave_38 : decode cX7_allHave 38 = .ok (.goto (-23), 3) := by decide +kernel
theorem dX7_allHave_41 : decode cX7_allHave 41 = .ok (.aload_n 0, 1) := by decide +kernel
theorem dX7_allHave_42 : decode cX7_allHave 42 = .ok (.getfield 9, 3) := by decide +kernel
theorem dX7_allHave_45 : decode cX7_allHave 45 = .ok (.ifCond .le 7, 3) := by decide +kernel
theorem dX7_allHave_48 : decode cX7_allHave 48 = .ok (.iconst 1, 1) := by decide +kernel
theorem dX7_allHave_49 : decode cX7_allHave 49 = .ok (.goto 4, 3) := by decide +kernel
theorem dX7_allHave_52 : decode cX7_allHave 52 = .ok (.iconst 0, 1) := by decide +kernel
theorem dX7_allHave_53 : decode cX7_allHave 53 = .ok (.ireturn, 1) := by decide +kernel
theorem dX7_piecesOf_0 : decode cX7_piecesOf 0 = .ok (.aload_n 0, 1) := by decide +kernel
theorem dX7_piecesOf_1 : decode cX7_piecesOf 1 = .ok (.getfield 19, 3) := by decide +kernel
theorem dX7_piecesOf_4 : decode cX7_piecesOf 4 = .ok (.iload_n 1, 1) := by decide +kernel
theorem dX7_piecesOf_5 : decode cX7_piecesOf 5 = .ok (.iaload, 1) := by decide +kernel
theorem dX7_piecesOf_6 : decode cX7_piecesOf 6 = .ok (.iload_n 2, 1) := by decide +kernel
theorem dX7_piecesOf_7 : decode cX7_piecesOf 7 = .ok (.isub, 1) := by decide +kernel
theorem dX7_piecesOf_8 : decode cX7_piecesOf 8 = .ok (.iconst 1, 1) := by decide +kernel
theorem dX7_piecesOf_9 : decode cX7_piecesOf 9 = .ok (.iadd, 1) := by decide +kernel
theorem dX7_piecesOf_10 : decode cX7_piecesOf 10 = .ok (.ireturn, 1) := by decide +kernel
theorem dX8_init_0 : decode cX8_init 0 = .ok (.aload_n 0, 1) := by decide +kernel
theorem dX8_init_1 : decode cX8_init 1 = .ok (.invokespecial 3, 3) := by decide +kernel
theorem dX8_init_4 : decode cX8_init 4 = .ok (.aload_n 0, 1) := by decide +kernel
theorem dX8_init_5 : decode cX8_init 5 = .ok (.iconst 0, 1) := by decide +kernel
theorem dX8_init_6 : decode cX8_init 6 = .ok (.putfield 9, 3) := by decide +kernel
theorem dX8_init_9 : decode cX8_init 9 = .ok (.aload_n 0, 1) := by decide +kernel
theorem dX8_init_10 : decode cX8_init 10 = .ok (.iconst 0, 1) := by decide +kernel
theorem dX8_init_11 : decode cX8_init 11 = .ok (.putfield 15, 3) := by decide +kernel
theorem dX8_init_14 : decode cX8_init 14 = .ok (.aload_n 0, 1) := by decide +kernel
theorem dX8_init_15 : decode cX8_init 15 = .ok (.aload_n 1, 1) := by decide +kernel
theorem dX8_init_16 : decode cX8_init 16 = .ok (.putfield 18, 3) := by decide +kernel
theorem dX8_init_19 : decode cX8_init 19 = .ok (.aload_n 0, 1) := by decide +kernel
theorem dX8_init_20 : decode cX8_init 20 = .ok (.iload_n 3, 1) := by decide +kernel
theorem dX8_init_21 : decode cX8_init 21 = .ok (.putfield 22, 3) := by decide +kernel
theorem dX8_init_24 : decode cX8_init 24 = .ok (.aload_n 0, 1) := by decide +kernel
theorem dX8_init_25 : decode cX8_init 25 = .ok (.iload_n 2, 1) := by decide +kernel
theorem dX8_init_26 : decode cX8_init 26 = .ok (.newarray .int, 2) := by decide +kernel
theorem dX8_init_28 : decode cX8_init 28 = .ok (.putfield 25, 3) := by decide +kernel
theorem dX8_init_31 : decode cX8_init 31 = .ok (.aload_n 0, 1) := by decide +kernel
theorem dX8_init_32 : decode cX8_init 32 = .ok (.iload_n 2, 1) := by decide +kernel
theorem dX8_init_33 : decode cX8_init 33 = .ok (.iconst 1, 1) := by decide +kernel
theorem dX8_init_34 : decode cX8_init 34 = .ok (.iadd, 1) := by decide +kernel
theorem dX8_init_35 : decode cX8_init 35 = .ok (.iload_n 3, 1) := by decide +kernel
theorem dX8_init_36 : decode cX8_init 36 = .ok (.imul, 1) := by decide +kernel
theorem dX8_init_37 : decode cX8_init 37 = .ok (.newarray .int, 2) := by decide +kernel
theorem dX8_init_39 : decode cX8_init 39 = .ok (.putfield 29, 3) := by decide +kernel
theorem dX8_init_42 : decode cX8_init 42 = .ok (.aload_n 0, 1) := by decide +kernel
theorem dX8_init_43 : decode cX8_init 43 = .ok (.iload_n 2, 1) := by decide +kernel
theorem dX8_init_44 : decode cX8_init 44 = .ok (.iload_n 3, 1) := by decide +kernel
theorem dX8_init_45 : decode cX8_init 45 = .ok (.imul, 1) := by decide +kernel
theorem dX8_init_46 : decode cX8_init 46 = .ok (.newarray .int, 2) := by decide +kernel
theorem dX8_init_48 : decode cX8_init 48 = .ok (.putfield 32, 3) := by decide +kernel
theorem dX8_init_51 : decode cX8_init 51 = .ok (.aload_n 0, 1) := by decide +kernel
theorem dX8_init_52 : decode cX8_init 52 = .ok (.iload_n 2, 1) := by decide +kernel
theorem dX8_init_53 : decode cX8_init 53 = .ok (.iconst 1, 1) := by decide +kernel
theorem dX8_init_54 : decode cX8_init 54 = .ok (.iadd, 1) := by decide +kernel
theorem dX8_init_55 : decode cX8_init 55 = .ok (.newarray .int, 2) := by decide +kernel
theorem dX8_init_57 : decode cX8_init 57 = .ok (.putfield 35, 3) := by decide +kernel
theorem dX8_init_60 : decode cX8_init 60 = .ok (.aload_n 0, 1) := by decide +kernel
theorem dX8_init_61 : decode cX8_init 61 = .ok (.iload_n 2, 1) := by decide +kernel
theorem dX8_init_62 : decode cX8_init 62 = .ok (.iconst 1, 1) := by decide +kernel
theorem dX8_init_63 : decode cX8_init 63 = .ok (.iadd, 1) := by decide +kernel
theorem dX8_init_64 : decode cX8_init 64 = .ok (.newarray .int, 2) := by decide +kernel
end
section
theorem dX8_init_66 : decode cX8_init 66 = .ok (.putfield 38, 3) := by decide +kernel
theorem dX8_init_69 : decode cX8_init 69 = .ok (.return_, 1) := by decide +kernel
theorem dX8_letterAt_0 : decode cX8_letterAt 0 = .ok (.iload_n 0, 1) := by decide +kernel
theorem dX8_letterAt_1 : decode cX8_letterAt 1 = .ok (.iconst 2, 1) := by decide +kernel
theorem dX8_letterAt_2 : decode cX8_letterAt 2 = .ok (.iload_n 1, 1) := by decide +kernel
theorem dX8_letterAt_3 : decode cX8_letterAt 3 = .ok (.iconst 1, 1) := by decide +kernel
theorem dX8_letterAt_4 : decode cX8_letterAt 4 = .ok (.isub, 1) := by decide +kernel
theorem dX8_letterAt_5 : decode cX8_letterAt 5 = .ok (.iload_n 2, 1) := by decide +kernel
theorem dX8_letterAt_6 : decode cX8_letterAt 6 = .ok (.isub, 1) := by decide +kernel
theorem dX8_letterAt_7 : decode cX8_letterAt 7 = .ok (.imul, 1) := by decide +kernel
theorem dX8_letterAt_8 : decode cX8_letterAt 8 = .ok (.ishr, 1) := by decide +kernel
theorem dX8_letterAt_9 : decode cX8_letterAt 9 = .ok (.iconst 3, 1) := by decide +kernel
theorem dX8_letterAt_10 : decode cX8_letterAt 10 = .ok (.iand, 1) := by decide +kernel
theorem dX8_letterAt_11 : decode cX8_letterAt 11 = .ok (.ireturn, 1) := by decide +kernel
theorem dX8_spotAt_0 : decode cX8_spotAt 0 = .ok (.iload_n 0, 1) := by decide +kernel
theorem dX8_spotAt_1 : decode cX8_spotAt 1 = .ok (.iconst 4, 1) := by decide +kernel
theorem dX8_spotAt_2 : decode cX8_spotAt 2 = .ok (.iload_n 1, 1) := by decide +kernel
theorem dX8_spotAt_3 : decode cX8_spotAt 3 = .ok (.imul, 1) := by decide +kernel
theorem dX8_spotAt_4 : decode cX8_spotAt 4 = .ok (.ishr, 1) := by decide +kernel
theorem dX8_spotAt_5 : decode cX8_spotAt 5 = .ok (.bipush 15, 2) := by decide +kernel
theorem dX8_spotAt_7 : decode cX8_spotAt 7 = .ok (.iand, 1) := by decide +kernel
theorem dX8_spotAt_8 : decode cX8_spotAt 8 = .ok (.ireturn, 1) := by decide +kernel
theorem dX8_begin_0 : decode cX8_begin 0 = .ok (.aload_n 0, 1) := by decide +kernel
theorem dX8_begin_1 : decode cX8_begin 1 = .ok (.iload_n 1, 1) := by decide +kernel
theorem dX8_begin_2 : decode cX8_begin 2 = .ok (.putfield 9, 3) := by decide +kernel
theorem dX8_begin_5 : decode cX8_begin 5 = .ok (.aload_n 0, 1) := by decide +kernel
theorem dX8_begin_6 : decode cX8_begin 6 = .ok (.iconst 0, 1) := by decide +kernel
theorem dX8_begin_7 : decode cX8_begin 7 = .ok (.putfield 15, 3) := by decide +kernel
theorem dX8_begin_10 : decode cX8_begin 10 = .ok (.iconst 0, 1) := by decide +kernel
theorem dX8_begin_11 : decode cX8_begin 11 = .ok (.istore_n 2, 1) := by decide +kernel
theorem dX8_begin_12 : decode cX8_begin 12 = .ok (.iload_n 2, 1) := by decide +kernel
theorem dX8_begin_13 : decode cX8_begin 13 = .ok (.iload_n 1, 1) := by decide +kernel
theorem dX8_begin_14 : decode cX8_begin 14 = .ok (.if_icmp .ge 16, 3) := by decide +kernel
theorem dX8_begin_17 : decode cX8_begin 17 = .ok (.aload_n 0, 1) := by decide +kernel
theorem dX8_begin_18 : decode cX8_begin 18 = .ok (.getfield 25, 3) := by decide +kernel
theorem dX8_begin_21 : decode cX8_begin 21 = .ok (.iload_n 2, 1) := by decide +kernel
theorem dX8_begin_22 : decode cX8_begin 22 = .ok (.iconst 0, 1) := by decide +kernel
theorem dX8_begin_23 : decode cX8_begin 23 = .ok (.iastore, 1) := by decide +kernel
theorem dX8_begin_24 : decode cX8_begin 24 = .ok (.iinc 2 1, 3) := by decide +kernel
theorem dX8_begin_27 : decode cX8_begin 27 = .ok (.goto (-15), 3) := by decide +kernel
theorem dX8_begin_30 : decode cX8_begin 30 = .ok (.return_, 1) := by decide +kernel
theorem dX8_aimAt_0 : decode cX8_aimAt 0 = .ok (.aload_n 0, 1) := by decide +kernel
theorem dX8_aimAt_1 : decode cX8_aimAt 1 = .ok (.getfield 15, 3) := by decide +kernel
theorem dX8_aimAt_4 : decode cX8_aimAt 4 = .ok (.aload_n 0, 1) := by decide +kernel
theorem dX8_aimAt_5 : decode cX8_aimAt 5 = .ok (.getfield 22, 3) := by decide +kernel
theorem dX8_aimAt_8 : decode cX8_aimAt 8 = .ok (.if_icmp .lt 4, 3) := by decide +kernel
theorem dX8_aimAt_11 : decode cX8_aimAt 11 = .ok (.return_, 1) := by decide +kernel
theorem dX8_aimAt_12 : decode cX8_aimAt 12 = .ok (.iconst 0, 1) := by decide +kernel
theorem dX8_aimAt_13 : decode cX8_aimAt 13 = .ok (.istore_n 3, 1) := by decide +kernel
theorem dX8_aimAt_14 : decode cX8_aimAt 14 = .ok (.iload_n 3, 1) := by decide +kernel
theorem dX8_aimAt_15 : decode cX8_aimAt 15 = .ok (.aload_n 0, 1) := by decide +kernel
theorem dX8_aimAt_16 : decode cX8_aimAt 16 = .ok (.getfield 9, 3) := by decide +kernel
theorem dX8_aimAt_19 : decode cX8_aimAt 19 = .ok (.if_icmp .ge 30, 3) := by decide +kernel
theorem dX8_aimAt_22 : decode cX8_aimAt 22 = .ok (.aload_n 0, 1) := by decide +kernel
theorem dX8_aimAt_23 : decode cX8_aimAt 23 = .ok (.getfield 32, 3) := by decide +kernel
theorem dX8_aimAt_26 : decode cX8_aimAt 26 = .ok (.iload_n 3, 1) := by decide +kernel
theorem dX8_aimAt_27 : decode cX8_aimAt 27 = .ok (.aload_n 0, 1) := by decide +kernel
theorem dX8_aimAt_28 : decode cX8_aimAt 28 = .ok (.getfield 22, 3) := by decide +kernel
theorem dX8_aimAt_31 : decode cX8_aimAt 31 = .ok (.imul, 1) := by decide +kernel
theorem dX8_aimAt_32 : decode cX8_aimAt 32 = .ok (.aload_n 0, 1) := by decide +kernel
theorem dX8_aimAt_33 : decode cX8_aimAt 33 = .ok (.getfield 15, 3) := by decide +kernel
theorem dX8_aimAt_36 : decode cX8_aimAt 36 = .ok (.iadd, 1) := by decide +kernel
theorem dX8_aimAt_37 : decode cX8_aimAt 37 = .ok (.aload_n 1, 1) := by decide +kernel
theorem dX8_aimAt_38 : decode cX8_aimAt 38 = .ok (.iload_n 2, 1) := by decide +kernel
theorem dX8_aimAt_39 : decode cX8_aimAt 39 = .ok (.iload_n 3, 1) := by decide +kernel
theorem dX8_aimAt_40 : decode cX8_aimAt 40 = .ok (.iadd, 1) := by decide +kernel
theorem dX8_aimAt_41 : decode cX8_aimAt 41 = .ok (.iaload, 1) := by decide +kernel
theorem dX8_aimAt_42 : decode cX8_aimAt 42 = .ok (.iastore, 1) := by decide +kernel
theorem dX8_aimAt_43 : decode cX8_aimAt 43 = .ok (.iinc 3 1, 3) := by decide +kernel
theorem dX8_aimAt_46 : decode cX8_aimAt 46 = .ok (.goto (-32), 3) := by decide +kernel
theorem dX8_aimAt_49 : decode cX8_aimAt 49 = .ok (.aload_n 0, 1) := by decide +kernel
theorem dX8_aimAt_50 : decode cX8_aimAt 50 = .ok (.dup, 1) := by decide +kernel
theorem dX8_aimAt_51 : decode cX8_aimAt 51 = .ok (.getfield 15, 3) := by decide +kernel
theorem dX8_aimAt_54 : decode cX8_aimAt 54 = .ok (.iconst 1, 1) := by decide +kernel
theorem dX8_aimAt_55 : decode cX8_aimAt 55 = .ok (.iadd, 1) := by decide +kernel
theorem dX8_aimAt_56 : decode cX8_aimAt 56 = .ok (.putfield 15, 3) := by decide +kernel
theorem dX8_aimAt_59 : decode cX8_aimAt 59 = .ok (.return_, 1) := by decide +kernel
theorem dX8_put_0 : decode cX8_put 0 = .ok (.aload_n 0, 1) := by decide +kernel
theorem dX8_put_1 : decode cX8_put 1 = .ok (.getfield 25, 3) := by decide +kernel
theorem dX8_put_4 : decode cX8_put 4 = .ok (.iload_n 1, 1) := by decide +kernel
theorem dX8_put_5 : decode cX8_put 5 = .ok (.iaload, 1) := by decide +kernel
theorem dX8_put_6 : decode cX8_put 6 = .ok (.istore_n 2, 1) := by decide +kernel
theorem dX8_put_7 : decode cX8_put 7 = .ok (.iload_n 2, 1) := by decide +kernel
theorem dX8_put_8 : decode cX8_put 8 = .ok (.iconst 4, 1) := by decide +kernel
theorem dX8_put_9 : decode cX8_put 9 = .ok (.imul, 1) := by decide +kernel
theorem dX8_put_10 : decode cX8_put 10 = .ok (.istore_n 3, 1) := by decide +kernel
theorem dX8_put_11 : decode cX8_put 11 = .ok (.aload_n 0, 1) := by decide +kernel
theorem dX8_put_12 : decode cX8_put 12 = .ok (.getfield 18, 3) := by decide +kernel
theorem dX8_put_15 : decode cX8_put 15 = .ok (.getfield 41, 3) := by decide +kernel
theorem dX8_put_18 : decode cX8_put 18 = .ok (.astore 4, 2) := by decide +kernel
theorem dX8_put_20 : decode cX8_put 20 = .ok (.iload_n 1, 1) := by decide +kernel
theorem dX8_put_21 : decode cX8_put 21 = .ok (.aload_n 0, 1) := by decide +kernel
theorem dX8_put_22 : decode cX8_put 22 = .ok (.getfield 22, 3) := by decide +kernel
theorem dX8_put_25 : decode cX8_put 25 = .ok (.imul, 1) := by decide +kernel
theorem dX8_put_26 : decode cX8_put 26 = .ok (.istore 5, 2) := by decide +kernel
theorem dX8_put_28 : decode cX8_put 28 = .ok (.iload 5, 2) := by decide +kernel
theorem dX8_put_30 : decode cX8_put 30 = .ok (.aload_n 0, 1) := by decide +kernel
theorem dX8_put_31 : decode cX8_put 31 = .ok (.getfield 15, 3) := by decide +kernel
theorem dX8_put_34 : decode cX8_put 34 = .ok (.iadd, 1) := by decide +kernel
theorem dX8_put_35 : decode cX8_put 35 = .ok (.istore 6, 2) := by decide +kernel
theorem dX8_put_37 : decode cX8_put 37 = .ok (.iload 5, 2) := by decide +kernel
theorem dX8_put_39 : decode cX8_put 39 = .ok (.istore 7, 2) := by decide +kernel
theorem dX8_put_41 : decode cX8_put 41 = .ok (.iload 7, 2) := by decide +kernel
theorem dX8_put_43 : decode cX8_put 43 = .ok (.iload 6, 2) := by decide +kernel
theorem dX8_put_45 : decode cX8_put 45 = .ok (.if_icmp .ge 41, 3) := by decide +kernel
theorem dX8_put_48 : decode cX8_put 48 = .ok (.aload_n 0, 1) := by decide +kernel
theorem dX8_put_49 : decode cX8_put 49 = .ok (.getfield 29, 3) := by decide +kernel
theorem dX8_put_52 : decode cX8_put 52 = .ok (.iload 7, 2) := by decide +kernel
theorem dX8_put_54 : decode cX8_put 54 = .ok (.aload_n 0, 1) := by decide +kernel
theorem dX8_put_55 : decode cX8_put 55 = .ok (.getfield 22, 3) := by decide +kernel
theorem dX8_put_58 : decode cX8_put 58 = .ok (.iadd, 1) := by decide +kernel
theorem dX8_put_59 : decode cX8_put 59 = .ok (.aload_n 0, 1) := by decide +kernel
theorem dX8_put_60 : decode cX8_put 60 = .ok (.getfield 29, 3) := by decide +kernel
theorem dX8_put_63 : decode cX8_put 63 = .ok (.iload 7, 2) := by decide +kernel
theorem dX8_put_65 : decode cX8_put 65 = .ok (.iaload, 1) := by decide +kernel
theorem dX8_put_66 : decode cX8_put 66 = .ok (.aload 4, 2) := by decide +kernel
theorem dX8_put_68 : decode cX8_put 68 = .ok (.iload_n 3, 1) := by decide +kernel
theorem dX8_put_69 : decode cX8_put 69 = .ok (.aload_n 0, 1) := by decide +kernel
theorem dX8_put_70 : decode cX8_put 70 = .ok (.getfield 32, 3) := by decide +kernel
theorem dX8_put_73 : decode cX8_put 73 = .ok (.iload 7, 2) := by decide +kernel
theorem dX8_put_75 : decode cX8_put 75 = .ok (.iaload, 1) := by decide +kernel
theorem dX8_put_76 : decode cX8_put 76 = .ok (.iadd, 1) := by decide +kernel
theorem dX8_put_77 : decode cX8_put 77 = .ok (.iaload, 1) := by decide +kernel
theorem dX8_put_78 : decode cX8_put 78 = .ok (.iadd, 1) := by decide +kernel
theorem dX8_put_79 : decode cX8_put 79 = .ok (.iastore, 1) := by decide +kernel
theorem dX8_put_80 : decode cX8_put 80 = .ok (.iinc 7 1, 3) := by decide +kernel
theorem dX8_put_83 : decode cX8_put 83 = .ok (.goto (-42), 3) := by decide +kernel
theorem dX8_put_86 : decode cX8_put 86 = .ok (.aload_n 0, 1) := by decide +kernel
theorem dX8_put_87 : decode cX8_put 87 = .ok (.getfield 35, 3) := by decide +kernel
theorem dX8_put_90 : decode cX8_put 90 = .ok (.iload_n 1, 1) := by decide +kernel
theorem dX8_put_91 : decode cX8_put 91 = .ok (.iconst 1, 1) := by decide +kernel
theorem dX8_put_92 : decode cX8_put 92 = .ok (.iadd, 1) := by decide +kernel
theorem dX8_put_93 : decode cX8_put 93 = .ok (.aload_n 0, 1) := by decide +kernel
theorem dX8_put_94 : decode cX8_put 94 = .ok (.getfield 35, 3) := by decide +kernel
theorem dX8_put_97 : decode cX8_put 97 = .ok (.iload_n 1, 1) := by decide +kernel
theorem dX8_put_98 : decode cX8_put 98 = .ok (.iaload, 1) := by decide +kernel
theorem dX8_put_99 : decode cX8_put 99 = .ok (.iconst 2, 1) := by decide +kernel
theorem dX8_put_100 : decode cX8_put 100 = .ok (.ishl, 1) := by decide +kernel
theorem dX8_put_101 : decode cX8_put 101 = .ok (.iload_n 2, 1) := by decide +kernel
theorem dX8_put_102 : decode cX8_put 102 = .ok (.ior, 1) := by decide +kernel
theorem dX8_put_103 : decode cX8_put 103 = .ok (.iastore, 1) := by decide +kernel
theorem dX8_put_104 : decode cX8_put 104 = .ok (.aload_n 0, 1) := by decide +kernel
theorem dX8_put_105 : decode cX8_put 105 = .ok (.getfield 38, 3) := by decide +kernel
theorem dX8_put_108 : decode cX8_put 108 = .ok (.iload_n 1, 1) := by decide +kernel
theorem dX8_put_109 : decode cX8_put 109 = .ok (.iconst 1, 1) := by decide +kernel
theorem dX8_put_110 : decode cX8_put 110 = .ok (.iadd, 1) := by decide +kernel
theorem dX8_put_111 : decode cX8_put 111 = .ok (.aload_n 0, 1) := by decide +kernel
theorem dX8_put_112 : decode cX8_put 112 = .ok (.getfield 38, 3) := by decide +kernel
theorem dX8_put_115 : decode cX8_put 115 = .ok (.iload_n 1, 1) := by decide +kernel
theorem dX8_put_116 : decode cX8_put 116 = .ok (.iaload, 1) := by decide +kernel
theorem dX8_put_117 : decode cX8_put 117 = .ok (.iconst 1, 1) := by decide +kernel
theorem dX8_put_118 : decode cX8_put 118 = .ok (.iconst 4, 1) := by decide +kernel
theorem dX8_put_119 : decode cX8_put 119 = .ok (.iload_n 1, 1) := by decide +kernel
theorem dX8_put_120 : decode cX8_put 120 = .ok (.imul, 1) := by decide +kernel
theorem dX8_put_121 : decode cX8_put 121 = .ok (.iload_n 2, 1) := by decide +kernel
theorem dX8_put_122 : decode cX8_put 122 = .ok (.iadd, 1) := by decide +kernel
theorem dX8_put_123 : decode cX8_put 123 = .ok (.ishl, 1) := by decide +kernel
theorem dX8_put_124 : decode cX8_put 124 = .ok (.ior, 1) := by decide +kernel
theorem dX8_put_125 : decode cX8_put 125 = .ok (.iastore, 1) := by decide +kernel
theorem dX8_put_126 : decode cX8_put 126 = .ok (.aload_n 0, 1) := by decide +kernel
theorem dX8_put_127 : decode cX8_put 127 = .ok (.getfield 18, 3) := by decide +kernel
theorem dX8_put_130 : decode cX8_put 130 = .ok (.getfield 46, 3) := by decide +kernel
theorem dX8_put_133 : decode cX8_put 133 = .ok (.ifCond .le 24, 3) := by decide +kernel
theorem dX8_put_136 : decode cX8_put 136 = .ok (.iload_n 1, 1) := by decide +kernel
theorem dX8_put_137 : decode cX8_put 137 = .ok (.ifCond .le 20, 3) := by decide +kernel
theorem dX8_put_140 : decode cX8_put 140 = .ok (.aload_n 0, 1) := by decide +kernel
theorem dX8_put_141 : decode cX8_put 141 = .ok (.getfield 25, 3) := by decide +kernel
theorem dX8_put_144 : decode cX8_put 144 = .ok (.iload_n 1, 1) := by decide +kernel
theorem dX8_put_145 : decode cX8_put 145 = .ok (.iconst 1, 1) := by decide +kernel
theorem dX8_put_146 : decode cX8_put 146 = .ok (.isub, 1) := by decide +kernel
theorem dX8_put_147 : decode cX8_put 147 = .ok (.iaload, 1) := by decide +kernel
theorem dX8_put_148 : decode cX8_put 148 = .ok (.iload_n 2, 1) := by decide +kernel
theorem dX8_put_149 : decode cX8_put 149 = .ok (.if_icmp .eq 8, 3) := by decide +kernel
theorem dX8_put_152 : decode cX8_put 152 = .ok (.aload_n 0, 1) := by decide +kernel
theorem dX8_put_153 : decode cX8_put 153 = .ok (.iload_n 1, 1) := by decide +kernel
theorem dX8_put_154 : decode cX8_put 154 = .ok (.invokevirtual 49, 3) := by decide +kernel
theorem dX8_put_157 : decode cX8_put 157 = .ok (.return_, 1) := by decide +kernel
theorem dX8_putSwapped_0 : decode cX8_putSwapped 0 = .ok (.aload_n 0, 1) := by decide +kernel
theorem dX8_putSwapped_1 : decode cX8_putSwapped 1 = .ok (.getfield 25, 3) := by decide +kernel
theorem dX8_putSwapped_4 : decode cX8_putSwapped 4 = .ok (.iload_n 1, 1) := by decide +kernel
theorem dX8_putSwapped_5 : decode cX8_putSwapped 5 = .ok (.iaload, 1) := by decide +kernel
theorem dX8_putSwapped_6 : decode cX8_putSwapped 6 = .ok (.istore_n 2, 1) := by decide +kernel
theorem dX8_putSwapped_7 : decode cX8_putSwapped 7 = .ok (.aload_n 0, 1) := by decide +kernel
theorem dX8_putSwapped_8 : decode cX8_putSwapped 8 = .ok (.getfield 25, 3) := by decide +kernel
theorem dX8_putSwapped_11 : decode cX8_putSwapped 11 = .ok (.iload_n 1, 1) := by decide +kernel
theorem dX8_putSwapped_12 : decode cX8_putSwapped 12 = .ok (.iconst 1, 1) := by decide +kernel
theorem dX8_putSwapped_13 : decode cX8_putSwapped 13 = .ok (.isub, 1) := by decide +kernel
theorem dX8_putSwapped_14 : decode cX8_putSwapped 14 = .ok (.iaload, 1) := by decide +kernel
theorem dX8_putSwapped_15 : decode cX8_putSwapped 15 = .ok (.istore_n 3, 1) := by decide +kernel
theorem dX8_putSwapped_16 : decode cX8_putSwapped 16 = .ok (.iload_n 1, 1) := by decide +kernel
theorem dX8_putSwapped_17 : decode cX8_putSwapped 17 = .ok (.aload_n 0, 1) := by decide +kernel
theorem dX8_putSwapped_18 : decode cX8_putSwapped 18 = .ok (.getfield 22, 3) := by decide +kernel
theorem dX8_putSwapped_21 : decode cX8_putSwapped 21 = .ok (.imul, 1) := by decide +kernel
theorem dX8_putSwapped_22 : decode cX8_putSwapped 22 = .ok (.istore 4, 2) := by decide +kernel
theorem dX8_putSwapped_24 : decode cX8_putSwapped 24 = .ok (.iload 4, 2) := by decide +kernel
theorem dX8_putSwapped_26 : decode cX8_putSwapped 26 = .ok (.aload_n 0, 1) := by decide +kernel
theorem dX8_putSwapped_27 : decode cX8_putSwapped 27 = .ok (.getfield 22, 3) := by decide +kernel
theorem dX8_putSwapped_30 : decode cX8_putSwapped 30 = .ok (.isub, 1) := by decide +kernel
theorem dX8_putSwapped_31 : decode cX8_putSwapped 31 = .ok (.istore 5, 2) := by decide +kernel
theorem dX8_putSwapped_33 : decode cX8_putSwapped 33 = .ok (.iconst 0, 1) := by decide +kernel
theorem dX8_putSwapped_34 : decode cX8_putSwapped 34 = .ok (.istore 6, 2) := by decide +kernel
theorem dX8_putSwapped_36 : decode cX8_putSwapped 36 = .ok (.iload 6, 2) := by decide +kernel
theorem dX8_putSwapped_38 : decode cX8_putSwapped 38 = .ok (.aload_n 0, 1) := by decide +kernel
theorem dX8_putSwapped_39 : decode cX8_putSwapped 39 = .ok (.getfield 15, 3) := by decide +kernel
theorem dX8_putSwapped_42 : decode cX8_putSwapped 42 = .ok (.if_icmp .ge 94, 3) := by decide +kernel
theorem dX8_putSwapped_45 : decode cX8_putSwapped 45 = .ok (.aload_n 0, 1) := by decide +kernel
theorem dX8_putSwapped_46 : decode cX8_putSwapped 46 = .ok (.getfield 32, 3) := by decide +kernel
theorem dX8_putSwapped_49 : decode cX8_putSwapped 49 = .ok (.iload 4, 2) := by decide +kernel
theorem dX8_putSwapped_51 : decode cX8_putSwapped 51 = .ok (.iload 6, 2) := by decide +kernel
theorem dX8_putSwapped_53 : decode cX8_putSwapped 53 = .ok (.iadd, 1) := by decide +kernel
theorem dX8_putSwapped_54 : decode cX8_putSwapped 54 = .ok (.iaload, 1) := by decide +kernel
theorem dX8_putSwapped_55 : decode cX8_putSwapped 55 = .ok (.iload_n 3, 1) := by decide +kernel
theorem dX8_putSwapped_56 : decode cX8_putSwapped 56 = .ok (.if_icmp .ne 74, 3) := by decide +kernel
theorem dX8_putSwapped_59 : decode cX8_putSwapped 59 = .ok (.aload_n 0, 1) := by decide +kernel
theorem dX8_putSwapped_60 : decode cX8_putSwapped 60 = .ok (.getfield 32, 3) := by decide +kernel
theorem dX8_putSwapped_63 : decode cX8_putSwapped 63 = .ok (.iload 5, 2) := by decide +kernel
theorem dX8_putSwapped_65 : decode cX8_putSwapped 65 = .ok (.iload 6, 2) := by decide +kernel
theorem dX8_putSwapped_67 : decode cX8_putSwapped 67 = .ok (.iadd, 1) := by decide +kernel
theorem dX8_putSwapped_68 : decode cX8_putSwapped 68 = .ok (.iaload, 1) := by decide +kernel
theorem dX8_putSwapped_69 : decode cX8_putSwapped 69 = .ok (.iload_n 2, 1) := by decide +kernel
theorem dX8_putSwapped_70 : decode cX8_putSwapped 70 = .ok (.if_icmp .ne 60, 3) := by decide +kernel
theorem dX8_putSwapped_73 : decode cX8_putSwapped 73 = .ok (.aload_n 0, 1) := by decide +kernel
theorem dX8_putSwapped_74 : decode cX8_putSwapped 74 = .ok (.getfield 29, 3) := by decide +kernel
theorem dX8_putSwapped_77 : decode cX8_putSwapped 77 = .ok (.iload 5, 2) := by decide +kernel
theorem dX8_putSwapped_79 : decode cX8_putSwapped 79 = .ok (.iload 6, 2) := by decide +kernel
theorem dX8_putSwapped_81 : decode cX8_putSwapped 81 = .ok (.iadd, 1) := by decide +kernel
theorem dX8_putSwapped_82 : decode cX8_putSwapped 82 = .ok (.iaload, 1) := by decide +kernel
theorem dX8_putSwapped_83 : decode cX8_putSwapped 83 = .ok (.aload_n 0, 1) := by decide +kernel
theorem dX8_putSwapped_84 : decode cX8_putSwapped 84 = .ok (.getfield 18, 3) := by decide +kernel
theorem dX8_putSwapped_87 : decode cX8_putSwapped 87 = .ok (.getfield 46, 3) := by decide +kernel
theorem dX8_putSwapped_90 : decode cX8_putSwapped 90 = .ok (.iadd, 1) := by decide +kernel
theorem dX8_putSwapped_91 : decode cX8_putSwapped 91 = .ok (.istore 7, 2) := by decide +kernel
theorem dX8_putSwapped_93 : decode cX8_putSwapped 93 = .ok (.iload 7, 2) := by decide +kernel
theorem dX8_putSwapped_95 : decode cX8_putSwapped 95 = .ok (.aload_n 0, 1) := by decide +kernel
theorem dX8_putSwapped_96 : decode cX8_putSwapped 96 = .ok (.getfield 29, 3) := by decide +kernel
theorem dX8_putSwapped_99 : decode cX8_putSwapped 99 = .ok (.iload 4, 2) := by decide +kernel
theorem dX8_putSwapped_101 : decode cX8_putSwapped 101 = .ok (.aload_n 0, 1) := by decide +kernel
theorem dX8_putSwapped_102 : decode cX8_putSwapped 102 = .ok (.getfield 22, 3) := by decide +kernel
theorem dX8_putSwapped_105 : decode cX8_putSwapped 105 = .ok (.iadd, 1) := by decide +kernel
theorem dX8_putSwapped_106 : decode cX8_putSwapped 106 = .ok (.iload 6, 2) := by decide +kernel
theorem dX8_putSwapped_108 : decode cX8_putSwapped 108 = .ok (.iadd, 1) := by decide +kernel
theorem dX8_putSwapped_109 : decode cX8_putSwapped 109 = .ok (.iaload, 1) := by decide +kernel
theorem dX8_putSwapped_110 : decode cX8_putSwapped 110 = .ok (.if_icmp .ge 20, 3) := by decide +kernel
theorem dX8_putSwapped_113 : decode cX8_putSwapped 113 = .ok (.aload_n 0, 1) := by decide +kernel
theorem dX8_putSwapped_114 : decode cX8_putSwapped 114 = .ok (.getfield 29, 3) := by decide +kernel
theorem dX8_putSwapped_117 : decode cX8_putSwapped 117 = .ok (.iload 4, 2) := by decide +kernel
theorem dX8_putSwapped_119 : decode cX8_putSwapped 119 = .ok (.aload_n 0, 1) := by decide +kernel
theorem dX8_putSwapped_120 : decode cX8_putSwapped 120 = .ok (.getfield 22, 3) := by decide +kernel
theorem dX8_putSwapped_123 : decode cX8_putSwapped 123 = .ok (.iadd, 1) := by decide +kernel
theorem dX8_putSwapped_124 : decode cX8_putSwapped 124 = .ok (.iload 6, 2) := by decide +kernel
theorem dX8_putSwapped_126 : decode cX8_putSwapped 126 = .ok (.iadd, 1) := by decide +kernel
theorem dX8_putSwapped_127 : decode cX8_putSwapped 127 = .ok (.iload 7, 2) := by decide +kernel
theorem dX8_putSwapped_129 : decode cX8_putSwapped 129 = .ok (.iastore, 1) := by decide +kernel
theorem dX8_putSwapped_130 : decode cX8_putSwapped 130 = .ok (.iinc 6 1, 3) := by decide +kernel
theorem dX8_putSwapped_133 : decode cX8_putSwapped 133 = .ok (.goto (-97), 3) := by decide +kernel
theorem dX8_putSwapped_136 : decode cX8_putSwapped 136 = .ok (.return_, 1) := by decide +kernel
theorem dX8_putFrom_0 : decode cX8_putFrom 0 = .ok (.iload_n 1, 1) := by decide +kernel
theorem dX8_putFrom_1 : decode cX8_putFrom 1 = .ok (.istore_n 2, 1) := by decide +kernel
theorem dX8_putFrom_2 : decode cX8_putFrom 2 = .ok (.iload_n 2, 1) := by decide +kernel
theorem dX8_putFrom_3 : decode cX8_putFrom 3 = .ok (.aload_n 0, 1) := by decide +kernel
theorem dX8_putFrom_4 : decode cX8_putFrom 4 = .ok (.getfield 9, 3) := by decide +kernel
theorem dX8_putFrom_7 : decode cX8_putFrom 7 = .ok (.if_icmp .ge 14, 3) := by decide +kernel
theorem dX8_putFrom_10 : decode cX8_putFrom 10 = .ok (.aload_n 0, 1) := by decide +kernel
theorem dX8_putFrom_11 : decode cX8_putFrom 11 = .ok (.iload_n 2, 1) := by decide +kernel
theorem dX8_putFrom_12 : decode cX8_putFrom 12 = .ok (.invokevirtual 53, 3) := by decide +kernel
theorem dX8_putFrom_15 : decode cX8_putFrom 15 = .ok (.iinc 2 1, 3) := by decide +kernel
theorem dX8_putFrom_18 : decode cX8_putFrom 18 = .ok (.goto (-16), 3) := by decide +kernel
theorem dX8_putFrom_21 : decode cX8_putFrom 21 = .ok (.return_, 1) := by decide +kernel
theorem dX8_advance_0 : decode cX8_advance 0 = .ok (.aload_n 0, 1) := by decide +kernel
theorem dX8_advance_1 : decode cX8_advance 1 = .ok (.getfield 18, 3) := by decide +kernel
theorem dX8_advance_4 : decode cX8_advance 4 = .ok (.aload_n 0, 1) := by decide +kernel
theorem dX8_advance_5 : decode cX8_advance 5 = .ok (.getfield 25, 3) := by decide +kernel
theorem dX8_advance_8 : decode cX8_advance 8 = .ok (.iload_n 1, 1) := by decide +kernel
theorem dX8_advance_9 : decode cX8_advance 9 = .ok (.aload_n 0, 1) := by decide +kernel
theorem dX8_advance_10 : decode cX8_advance 10 = .ok (.getfield 9, 3) := by decide +kernel
theorem dX8_advance_13 : decode cX8_advance 13 = .ok (.invokevirtual 56, 3) := by decide +kernel
theorem dX8_advance_16 : decode cX8_advance 16 = .ok (.ireturn, 1) := by decide +kernel
theorem dX8_whole_0 : decode cX8_whole 0 = .ok (.aload_n 0, 1) := by decide +kernel
theorem dX8_whole_1 : decode cX8_whole 1 = .ok (.getfield 9, 3) := by decide +kernel
theorem dX8_whole_4 : decode cX8_whole 4 = .ok (.aload_n 0, 1) := by decide +kernel
theorem dX8_whole_5 : decode cX8_whole 5 = .ok (.getfield 22, 3) := by decide +kernel
theorem dX8_whole_8 : decode cX8_whole 8 = .ok (.imul, 1) := by decide +kernel
theorem dX8_whole_9 : decode cX8_whole 9 = .ok (.ireturn, 1) := by decide +kernel
theorem dX8_packedRow_0 : decode cX8_packedRow 0 = .ok (.aload_n 0, 1) := by decide +kernel
theorem dX8_packedRow_1 : decode cX8_packedRow 1 = .ok (.getfield 35, 3) := by decide +kernel
theorem dX8_packedRow_4 : decode cX8_packedRow 4 = .ok (.aload_n 0, 1) := by decide +kernel
theorem dX8_packedRow_5 : decode cX8_packedRow 5 = .ok (.getfield 9, 3) := by decide +kernel
theorem dX8_packedRow_8 : decode cX8_packedRow 8 = .ok (.iaload, 1) := by decide +kernel
theorem dX8_packedRow_9 : decode cX8_packedRow 9 = .ok (.ireturn, 1) := by decide +kernel
theorem dX8_spotsOfRow_0 : decode cX8_spotsOfRow 0 = .ok (.aload_n 0, 1) := by decide +kernel
theorem dX8_spotsOfRow_1 : decode cX8_spotsOfRow 1 = .ok (.getfield 38, 3) := by decide +kernel
theorem dX8_spotsOfRow_4 : decode cX8_spotsOfRow 4 = .ok (.aload_n 0, 1) := by decide +kernel
theorem dX8_spotsOfRow_5 : decode cX8_spotsOfRow 5 = .ok (.getfield 9, 3) := by decide +kernel
theorem dX8_spotsOfRow_8 : decode cX8_spotsOfRow 8 = .ok (.iaload, 1) := by decide +kernel
theorem dX8_spotsOfRow_9 : decode cX8_spotsOfRow 9 = .ok (.ireturn, 1) := by decide +kernel
theorem dX9_init_0 : decode cX9_init 0 = .ok (.aload_n 0, 1) := by decide +kernel
theorem dX9_init_1 : decode cX9_init 1 = .ok (.invokespecial 3, 3) := by decide +kernel
theorem dX9_init_4 : decode cX9_init 4 = .ok (.aload_n 0, 1) := by decide +kernel
theorem dX9_init_5 : decode cX9_init 5 = .ok (.iconst 0, 1) := by decide +kernel
theorem dX9_init_6 : decode cX9_init 6 = .ok (.putfield 9, 3) := by decide +kernel
theorem dX9_init_9 : decode cX9_init 9 = .ok (.aload_n 0, 1) := by decide +kernel
theorem dX9_init_10 : decode cX9_init 10 = .ok (.iconst 0, 1) := by decide +kernel
theorem dX9_init_11 : decode cX9_init 11 = .ok (.putfield 15, 3) := by decide +kernel
theorem dX9_init_14 : decode cX9_init 14 = .ok (.aload_n 0, 1) := by decide +kernel
theorem dX9_init_15 : decode cX9_init 15 = .ok (.bipush 56, 2) := by decide +kernel
theorem dX9_init_17 : decode cX9_init 17 = .ok (.newarray .int, 2) := by decide +kernel
theorem dX9_init_19 : decode cX9_init 19 = .ok (.putfield 18, 3) := by decide +kernel
theorem dX9_init_22 : decode cX9_init 22 = .ok (.aload_n 0, 1) := by decide +kernel
theorem dX9_init_23 : decode cX9_init 23 = .ok (.bipush 8, 2) := by decide +kernel
theorem dX9_init_25 : decode cX9_init 25 = .ok (.newarray .int, 2) := by decide +kernel
theorem dX9_init_27 : decode cX9_init 27 = .ok (.putfield 22, 3) := by decide +kernel
theorem dX9_init_30 : decode cX9_init 30 = .ok (.return_, 1) := by decide +kernel
theorem dX9_has_0 : decode cX9_has 0 = .ok (.iload_n 1, 1) := by decide +kernel
theorem dX9_has_1 : decode cX9_has 1 = .ok (.ifCond .lt 15, 3) := by decide +kernel
theorem dX9_has_4 : decode cX9_has 4 = .ok (.iload_n 1, 1) := by decide +kernel
theorem dX9_has_5 : decode cX9_has 5 = .ok (.aload_n 0, 1) := by decide +kernel
theorem dX9_has_6 : decode cX9_has 6 = .ok (.getfield 9, 3) := by decide +kernel
theorem dX9_has_9 : decode cX9_has 9 = .ok (.if_icmp .ge 7, 3) := by decide +kernel
theorem dX9_has_12 : decode cX9_has 12 = .ok (.iconst 1, 1) := by decide +kernel
theorem dX9_has_13 : decode cX9_has 13 = .ok (.goto 4, 3) := by decide +kernel
theorem dX9_has_16 : decode cX9_has 16 = .ok (.iconst 0, 1) := by decide +kernel
theorem dX9_has_17 : decode cX9_has 17 = .ok (.ireturn, 1) := by decide +kernel
theorem dX9_start_0 : decode cX9_start 0 = .ok (.iload_n 1, 1) := by decide +kernel
theorem dX9_start_1 : decode cX9_start 1 = .ok (.bipush 7, 2) := by decide +kernel
theorem dX9_start_3 : decode cX9_start 3 = .ok (.imul, 1) := by decide +kernel
theorem dX9_start_4 : decode cX9_start 4 = .ok (.ireturn, 1) := by decide +kernel
theorem dX9_add_0 : decode cX9_add 0 = .ok (.aload_n 0, 1) := by decide +kernel
theorem dX9_add_1 : decode cX9_add 1 = .ok (.iload_n 2, 1) := by decide +kernel
theorem dX9_add_2 : decode cX9_add 2 = .ok (.putfield 15, 3) := by decide +kernel
theorem dX9_add_5 : decode cX9_add 5 = .ok (.aload_n 1, 1) := by decide +kernel
theorem dX9_add_6 : decode cX9_add 6 = .ok (.iconst 0, 1) := by decide +kernel
theorem dX9_add_7 : decode cX9_add 7 = .ok (.aload_n 0, 1) := by decide +kernel
theorem dX9_add_8 : decode cX9_add 8 = .ok (.getfield 18, 3) := by decide +kernel
theorem dX9_add_11 : decode cX9_add 11 = .ok (.aload_n 0, 1) := by decide +kernel
theorem dX9_add_12 : decode cX9_add 12 = .ok (.aload_n 0, 1) := by decide +kernel
theorem dX9_add_13 : decode cX9_add 13 = .ok (.getfield 9, 3) := by decide +kernel
theorem dX9_add_16 : decode cX9_add 16 = .ok (.invokevirtual 25, 3) := by decide +kernel
theorem dX9_add_19 : decode cX9_add 19 = .ok (.iload_n 2, 1) := by decide +kernel
theorem dX9_add_20 : decode cX9_add 20 = .ok (.invokestatic 29, 3) := by decide +kernel
theorem dX9_add_23 : decode cX9_add 23 = .ok (.aload_n 0, 1) := by decide +kernel
theorem dX9_add_24 : decode cX9_add 24 = .ok (.getfield 22, 3) := by decide +kernel
theorem dX9_add_27 : decode cX9_add 27 = .ok (.aload_n 0, 1) := by decide +kernel
theorem dX9_add_28 : decode cX9_add 28 = .ok (.getfield 9, 3) := by decide +kernel
theorem dX9_add_31 : decode cX9_add 31 = .ok (.iconst 1, 1) := by decide +kernel
theorem dX9_add_32 : decode cX9_add 32 = .ok (.iastore, 1) := by decide +kernel
theorem dX9_add_33 : decode cX9_add 33 = .ok (.aload_n 0, 1) := by decide +kernel
theorem dX9_add_34 : decode cX9_add 34 = .ok (.dup, 1) := by decide +kernel
theorem dX9_add_35 : decode cX9_add 35 = .ok (.getfield 9, 3) := by decide +kernel
theorem dX9_add_38 : decode cX9_add 38 = .ok (.iconst 1, 1) := by decide +kernel
theorem dX9_add_39 : decode cX9_add 39 = .ok (.iadd, 1) := by decide +kernel
theorem dX9_add_40 : decode cX9_add 40 = .ok (.putfield 9, 3) := by decide +kernel
theorem dX9_add_43 : decode cX9_add 43 = .ok (.return_, 1) := by decide +kernel
theorem dX9_having_0 : decode cX9_having 0 = .ok (.iconst 0, 1) := by decide +kernel
theorem dX9_having_1 : decode cX9_having 1 = .ok (.istore_n 2, 1) := by decide +kernel
theorem dX9_having_2 : decode cX9_having 2 = .ok (.iconst 0, 1) := by decide +kernel
theorem dX9_having_3 : decode cX9_having 3 = .ok (.istore_n 3, 1) := by decide +kernel
theorem dX9_having_4 : decode cX9_having 4 = .ok (.iload_n 3, 1) := by decide +kernel
theorem dX9_having_5 : decode cX9_having 5 = .ok (.aload_n 0, 1) := by decide +kernel
theorem dX9_having_6 : decode cX9_having 6 = .ok (.getfield 9, 3) := by decide +kernel
theorem dX9_having_9 : decode cX9_having 9 = .ok (.if_icmp .ge 25, 3) := by decide +kernel
theorem dX9_having_12 : decode cX9_having 12 = .ok (.aload_n 0, 1) := by decide +kernel
theorem dX9_having_13 : decode cX9_having 13 = .ok (.getfield 22, 3) := by decide +kernel
theorem dX9_having_16 : decode cX9_having 16 = .ok (.iload_n 3, 1) := by decide +kernel
theorem dX9_having_17 : decode cX9_having 17 = .ok (.iaload, 1) := by decide +kernel
theorem dX9_having_18 : decode cX9_having 18 = .ok (.iload_n 1, 1) := by decide +kernel
theorem dX9_having_19 : decode cX9_having 19 = .ok (.if_icmp .ne 9, 3) := by decide +kernel
theorem dX9_having_22 : decode cX9_having 22 = .ok (.iload_n 2, 1) := by decide +kernel
theorem dX9_having_23 : decode cX9_having 23 = .ok (.iconst 1, 1) := by decide +kernel
theorem dX9_having_24 : decode cX9_having 24 = .ok (.iload_n 3, 1) := by decide +kernel
theorem dX9_having_25 : decode cX9_having 25 = .ok (.ishl, 1) := by decide +kernel
theorem dX9_having_26 : decode cX9_having 26 = .ok (.ior, 1) := by decide +kernel
theorem dX9_having_27 : decode cX9_having 27 = .ok (.istore_n 2, 1) := by decide +kernel
theorem dX9_having_28 : decode cX9_having 28 = .ok (.iinc 3 1, 3) := by decide +kernel
theorem dX9_having_31 : decode cX9_having 31 = .ok (.goto (-27), 3) := by decide +kernel
theorem dX9_having_34 : decode cX9_having 34 = .ok (.iload_n 2, 1) := by decide +kernel
theorem dX9_having_35 : decode cX9_having 35 = .ok (.ireturn, 1) := by decide +kernel
theorem dX9_hasNear_0 : decode cX9_hasNear 0 = .ok (.aload_n 0, 1) := by decide +kernel
theorem dX9_hasNear_1 : decode cX9_hasNear 1 = .ok (.iconst 1, 1) := by decide +kernel
theorem dX9_hasNear_2 : decode cX9_hasNear 2 = .ok (.invokevirtual 35, 3) := by decide +kernel
theorem dX9_hasNear_5 : decode cX9_hasNear 5 = .ok (.ifCond .eq 7, 3) := by decide +kernel
theorem dX9_hasNear_8 : decode cX9_hasNear 8 = .ok (.iconst 1, 1) := by decide +kernel
theorem dX9_hasNear_9 : decode cX9_hasNear 9 = .ok (.goto 4, 3) := by decide +kernel
theorem dX9_hasNear_12 : decode cX9_hasNear 12 = .ok (.iconst 0, 1) := by decide +kernel
theorem dX9_hasNear_13 : decode cX9_hasNear 13 = .ok (.ireturn, 1) := by decide +kernel
theorem dX9_letterOfRow_0 : decode cX9_letterOfRow 0 = .ok (.iload_n 2, 1) := by decide +kernel
theorem dX9_letterOfRow_1 : decode cX9_letterOfRow 1 = .ok (.ifCond .lt 11, 3) := by decide +kernel
theorem dX9_letterOfRow_4 : decode cX9_letterOfRow 4 = .ok (.iload_n 2, 1) := by decide +kernel
theorem dX9_letterOfRow_5 : decode cX9_letterOfRow 5 = .ok (.aload_n 0, 1) := by decide +kernel
theorem dX9_letterOfRow_6 : decode cX9_letterOfRow 6 = .ok (.getfield 15, 3) := by decide +kernel
theorem dX9_letterOfRow_9 : decode cX9_letterOfRow 9 = .ok (.if_icmp .lt 7, 3) := by decide +kernel
theorem dX9_letterOfRow_12 : decode cX9_letterOfRow 12 = .ok (.iconst (-1), 1) := by decide +kernel
theorem dX9_letterOfRow_13 : decode cX9_letterOfRow 13 = .ok (.goto 12, 3) := by decide +kernel
theorem dX9_letterOfRow_16 : decode cX9_letterOfRow 16 = .ok (.iload_n 1, 1) := by decide +kernel
theorem dX9_letterOfRow_17 : decode cX9_letterOfRow 17 = .ok (.aload_n 0, 1) := by decide +kernel
theorem dX9_letterOfRow_18 : decode cX9_letterOfRow 18 = .ok (.getfield 15, 3) := by decide +kernel
theorem dX9_letterOfRow_21 : decode cX9_letterOfRow 21 = .ok (.iload_n 2, 1) := by decide +kernel
theorem dX9_letterOfRow_22 : decode cX9_letterOfRow 22 = .ok (.invokestatic 38, 3) := by decide +kernel
theorem dX9_letterOfRow_25 : decode cX9_letterOfRow 25 = .ok (.ireturn, 1) := by decide +kernel
theorem dX10_init_0 : decode cX10_init 0 = .ok (.aload_n 0, 1) := by decide +kernel
theorem dX10_init_1 : decode cX10_init 1 = .ok (.invokespecial 1, 3) := by decide +kernel
theorem dX10_init_4 : decode cX10_init 4 = .ok (.aload_n 0, 1) := by decide +kernel
theorem dX10_init_5 : decode cX10_init 5 = .ok (.new 7, 3) := by decide +kernel
theorem dX10_init_8 : decode cX10_init 8 = .ok (.dup, 1) := by decide +kernel
theorem dX10_init_9 : decode cX10_init 9 = .ok (.invokespecial 9, 3) := by decide +kernel
theorem dX10_init_12 : decode cX10_init 12 = .ok (.putfield 10, 3) := by decide +kernel
theorem dX10_init_15 : decode cX10_init 15 = .ok (.aload_n 0, 1) := by decide +kernel
theorem dX10_init_16 : decode cX10_init 16 = .ok (.new 16, 3) := by decide +kernel
theorem dX10_init_19 : decode cX10_init 19 = .ok (.dup, 1) := by decide +kernel
theorem dX10_init_20 : decode cX10_init 20 = .ok (.invokespecial 18, 3) := by decide +kernel
theorem dX10_init_23 : decode cX10_init 23 = .ok (.putfield 19, 3) := by decide +kernel
theorem dX10_init_26 : decode cX10_init 26 = .ok (.aload_n 0, 1) := by decide +kernel
theorem dX10_init_27 : decode cX10_init 27 = .ok (.new 23, 3) := by decide +kernel
theorem dX10_init_30 : decode cX10_init 30 = .ok (.dup, 1) := by decide +kernel
theorem dX10_init_31 : decode cX10_init 31 = .ok (.invokespecial 25, 3) := by decide +kernel
theorem dX10_init_34 : decode cX10_init 34 = .ok (.putfield 26, 3) := by decide +kernel
theorem dX10_init_37 : decode cX10_init 37 = .ok (.aload_n 0, 1) := by decide +kernel
theorem dX10_init_38 : decode cX10_init 38 = .ok (.new 30, 3) := by decide +kernel
theorem dX10_init_41 : decode cX10_init 41 = .ok (.dup, 1) := by decide +kernel
theorem dX10_init_42 : decode cX10_init 42 = .ok (.invokespecial 32, 3) := by decide +kernel
theorem dX10_init_45 : decode cX10_init 45 = .ok (.putfield 33, 3) := by decide +kernel
theorem dX10_init_48 : decode cX10_init 48 = .ok (.aload_n 0, 1) := by decide +kernel
theorem dX10_init_49 : decode cX10_init 49 = .ok (.new 37, 3) := by decide +kernel
theorem dX10_init_52 : decode cX10_init 52 = .ok (.dup, 1) := by decide +kernel
theorem dX10_init_53 : decode cX10_init 53 = .ok (.aload_n 0, 1) := by decide +kernel
theorem dX10_init_54 : decode cX10_init 54 = .ok (.getfield 10, 3) := by decide +kernel
theorem dX10_init_57 : decode cX10_init 57 = .ok (.aload_n 0, 1) := by decide +kernel
theorem dX10_init_58 : decode cX10_init 58 = .ok (.getfield 26, 3) := by decide +kernel
theorem dX10_init_61 : decode cX10_init 61 = .ok (.invokespecial 39, 3) := by decide +kernel
theorem dX10_init_64 : decode cX10_init 64 = .ok (.putfield 42, 3) := by decide +kernel
theorem dX10_init_67 : decode cX10_init 67 = .ok (.aload_n 0, 1) := by decide +kernel
theorem dX10_init_68 : decode cX10_init 68 = .ok (.new 46, 3) := by decide +kernel
theorem dX10_init_71 : decode cX10_init 71 = .ok (.dup, 1) := by decide +kernel
theorem dX10_init_72 : decode cX10_init 72 = .ok (.aload_n 0, 1) := by decide +kernel
theorem dX10_init_73 : decode cX10_init 73 = .ok (.getfield 42, 3) := by decide +kernel
theorem dX10_init_76 : decode cX10_init 76 = .ok (.invokespecial 48, 3) := by decide +kernel
theorem dX10_init_79 : decode cX10_init 79 = .ok (.putfield 51, 3) := by decide +kernel
theorem dX10_init_82 : decode cX10_init 82 = .ok (.aload_n 0, 1) := by decide +kernel
theorem dX10_init_83 : decode cX10_init 83 = .ok (.new 55, 3) := by decide +kernel
theorem dX10_init_86 : decode cX10_init 86 = .ok (.dup, 1) := by decide +kernel
theorem dX10_init_87 : decode cX10_init 87 = .ok (.aload_n 0, 1) := by decide +kernel
theorem dX10_init_88 : decode cX10_init 88 = .ok (.getfield 42, 3) := by decide +kernel
theorem dX10_init_91 : decode cX10_init 91 = .ok (.invokespecial 57, 3) := by decide +kernel
theorem dX10_init_94 : decode cX10_init 94 = .ok (.putfield 58, 3) := by decide +kernel
theorem dX10_init_97 : decode cX10_init 97 = .ok (.aload_n 0, 1) := by decide +kernel
theorem dX10_init_98 : decode cX10_init 98 = .ok (.new 62, 3) := by decide +kernel
theorem dX10_init_101 : decode cX10_init 101 = .ok (.dup, 1) := by decide +kernel
theorem dX10_init_102 : decode cX10_init 102 = .ok (.aload_n 0, 1) := by decide +kernel
theorem dX10_init_103 : decode cX10_init 103 = .ok (.getfield 10, 3) := by decide +kernel
theorem dX10_init_106 : decode cX10_init 106 = .ok (.aload_n 0, 1) := by decide +kernel
theorem dX10_init_107 : decode cX10_init 107 = .ok (.getfield 26, 3) := by decide +kernel
theorem dX10_init_110 : decode cX10_init 110 = .ok (.invokespecial 64, 3) := by decide +kernel
theorem dX10_init_113 : decode cX10_init 113 = .ok (.putfield 65, 3) := by decide +kernel
theorem dX10_init_116 : decode cX10_init 116 = .ok (.aload_n 0, 1) := by decide +kernel
theorem dX10_init_117 : decode cX10_init 117 = .ok (.new 69, 3) := by decide +kernel
theorem dX10_init_120 : decode cX10_init 120 = .ok (.dup, 1) := by decide +kernel
theorem dX10_init_121 : decode cX10_init 121 = .ok (.aload_n 0, 1) := by decide +kernel
theorem dX10_init_122 : decode cX10_init 122 = .ok (.getfield 10, 3) := by decide +kernel
theorem dX10_init_125 : decode cX10_init 125 = .ok (.aload_n 0, 1) := by decide +kernel
theorem dX10_init_126 : decode cX10_init 126 = .ok (.getfield 33, 3) := by decide +kernel
theorem dX10_init_129 : decode cX10_init 129 = .ok (.invokespecial 71, 3) := by decide +kernel
theorem dX10_init_132 : decode cX10_init 132 = .ok (.putfield 74, 3) := by decide +kernel
theorem dX10_init_135 : decode cX10_init 135 = .ok (.return_, 1) := by decide +kernel
theorem dX10_letters_0 : decode cX10_letters 0 = .ok (.iload_n 1, 1) := by decide +kernel
theorem dX10_letters_1 : decode cX10_letters 1 = .ok (.iconst 2, 1) := by decide +kernel
theorem dX10_letters_2 : decode cX10_letters 2 = .ok (.if_icmp .lt 28, 3) := by decide +kernel
theorem dX10_letters_5 : decode cX10_letters 5 = .ok (.iload_n 1, 1) := by decide +kernel
theorem dX10_letters_6 : decode cX10_letters 6 = .ok (.iconst 4, 1) := by decide +kernel
theorem dX10_letters_7 : decode cX10_letters 7 = .ok (.if_icmp .gt 23, 3) := by decide +kernel
theorem dX10_letters_10 : decode cX10_letters 10 = .ok (.aload_n 0, 1) := by decide +kernel
theorem dX10_letters_11 : decode cX10_letters 11 = .ok (.getfield 26, 3) := by decide +kernel
theorem dX10_letters_14 : decode cX10_letters 14 = .ok (.getfield 78, 3) := by decide +kernel
theorem dX10_letters_17 : decode cX10_letters 17 = .ok (.ifCond .gt 13, 3) := by decide +kernel
theorem dX10_letters_20 : decode cX10_letters 20 = .ok (.aload_n 0, 1) := by decide +kernel
theorem dX10_letters_21 : decode cX10_letters 21 = .ok (.getfield 33, 3) := by decide +kernel
theorem dX10_letters_24 : decode cX10_letters 24 = .ok (.getfield 82, 3) := by decide +kernel
theorem dX10_letters_27 : decode cX10_letters 27 = .ok (.ifCond .le 5, 3) := by decide +kernel
theorem dX10_letters_30 : decode cX10_letters 30 = .ok (.iconst 0, 1) := by decide +kernel
theorem dX10_letters_31 : decode cX10_letters 31 = .ok (.ireturn, 1) := by decide +kernel
theorem dX10_letters_32 : decode cX10_letters 32 = .ok (.aload_n 0, 1) := by decide +kernel
theorem dX10_letters_33 : decode cX10_letters 33 = .ok (.getfield 10, 3) := by decide +kernel
theorem dX10_letters_36 : decode cX10_letters 36 = .ok (.iload_n 1, 1) := by decide +kernel
theorem dX10_letters_37 : decode cX10_letters 37 = .ok (.putfield 83, 3) := by decide +kernel
theorem dX10_letters_40 : decode cX10_letters 40 = .ok (.iconst 1, 1) := by decide +kernel
theorem dX10_letters_41 : decode cX10_letters 41 = .ok (.ireturn, 1) := by decide +kernel
theorem dX10_cost_0 : decode cX10_cost 0 = .ok (.iload_n 1, 1) := by decide +kernel
theorem dX10_cost_1 : decode cX10_cost 1 = .ok (.invokestatic 86, 3) := by decide +kernel
theorem dX10_cost_4 : decode cX10_cost 4 = .ok (.ifCond .eq 26, 3) := by decide +kernel
theorem dX10_cost_7 : decode cX10_cost 7 = .ok (.iload_n 2, 1) := by decide +kernel
theorem dX10_cost_8 : decode cX10_cost 8 = .ok (.invokestatic 86, 3) := by decide +kernel
theorem dX10_cost_11 : decode cX10_cost 11 = .ok (.ifCond .eq 19, 3) := by decide +kernel
theorem dX10_cost_14 : decode cX10_cost 14 = .ok (.iload_n 1, 1) := by decide +kernel
theorem dX10_cost_15 : decode cX10_cost 15 = .ok (.iload_n 2, 1) := by decide +kernel
theorem dX10_cost_16 : decode cX10_cost 16 = .ok (.if_icmp .eq 14, 3) := by decide +kernel
theorem dX10_cost_19 : decode cX10_cost 19 = .ok (.iload_n 3, 1) := by decide +kernel
theorem dX10_cost_20 : decode cX10_cost 20 = .ok (.iconst 1, 1) := by decide +kernel
theorem dX10_cost_21 : decode cX10_cost 21 = .ok (.if_icmp .lt 9, 3) := by decide +kernel
theorem dX10_cost_24 : decode cX10_cost 24 = .ok (.iload_n 3, 1) := by decide +kernel
theorem dX10_cost_25 : decode cX10_cost 25 = .ok (.bipush 9, 2) := by decide +kernel
theorem dX10_cost_27 : decode cX10_cost 27 = .ok (.if_icmp .le 5, 3) := by decide +kernel
theorem dX10_cost_30 : decode cX10_cost 30 = .ok (.iconst 0, 1) := by decide +kernel
theorem dX10_cost_31 : decode cX10_cost 31 = .ok (.ireturn, 1) := by decide +kernel
theorem dX10_cost_32 : decode cX10_cost 32 = .ok (.aload_n 0, 1) := by decide +kernel
theorem dX10_cost_33 : decode cX10_cost 33 = .ok (.getfield 10, 3) := by decide +kernel
theorem dX10_cost_36 : decode cX10_cost 36 = .ok (.iload_n 1, 1) := by decide +kernel
theorem dX10_cost_37 : decode cX10_cost 37 = .ok (.iload_n 2, 1) := by decide +kernel
theorem dX10_cost_38 : decode cX10_cost 38 = .ok (.iload_n 3, 1) := by decide +kernel
theorem dX10_cost_39 : decode cX10_cost 39 = .ok (.invokevirtual 90, 3) := by decide +kernel
theorem dX10_cost_42 : decode cX10_cost 42 = .ok (.aload_n 0, 1) := by decide +kernel
theorem dX10_cost_43 : decode cX10_cost 43 = .ok (.invokevirtual 94, 3) := by decide +kernel
theorem dX10_cost_46 : decode cX10_cost 46 = .ok (.aload_n 0, 1) := by decide +kernel
theorem dX10_cost_47 : decode cX10_cost 47 = .ok (.getfield 65, 3) := by decide +kernel
theorem dX10_cost_50 : decode cX10_cost 50 = .ok (.iconst 0, 1) := by decide +kernel
theorem dX10_cost_51 : decode cX10_cost 51 = .ok (.putfield 97, 3) := by decide +kernel
theorem dX10_cost_54 : decode cX10_cost 54 = .ok (.iconst 1, 1) := by decide +kernel
theorem dX10_cost_55 : decode cX10_cost 55 = .ok (.ireturn, 1) := by decide +kernel
theorem dX10_swap_0 : decode cX10_swap 0 = .ok (.iload_n 1, 1) := by decide +kernel
theorem dX10_swap_1 : decode cX10_swap 1 = .ok (.ifCond .lt 9, 3) := by decide +kernel
theorem dX10_swap_4 : decode cX10_swap 4 = .ok (.iload_n 1, 1) := by decide +kernel
theorem dX10_swap_5 : decode cX10_swap 5 = .ok (.bipush 9, 2) := by decide +kernel
theorem dX10_swap_7 : decode cX10_swap 7 = .ok (.if_icmp .le 5, 3) := by decide +kernel
theorem dX10_swap_10 : decode cX10_swap 10 = .ok (.iconst 0, 1) := by decide +kernel
theorem dX10_swap_11 : decode cX10_swap 11 = .ok (.ireturn, 1) := by decide +kernel
theorem dX10_swap_12 : decode cX10_swap 12 = .ok (.aload_n 0, 1) := by decide +kernel
theorem dX10_swap_13 : decode cX10_swap 13 = .ok (.getfield 10, 3) := by decide +kernel
theorem dX10_swap_16 : decode cX10_swap 16 = .ok (.iload_n 1, 1) := by decide +kernel
theorem dX10_swap_17 : decode cX10_swap 17 = .ok (.putfield 101, 3) := by decide +kernel
theorem dX10_swap_20 : decode cX10_swap 20 = .ok (.aload_n 0, 1) := by decide +kernel
theorem dX10_swap_21 : decode cX10_swap 21 = .ok (.invokevirtual 94, 3) := by decide +kernel
theorem dX10_swap_24 : decode cX10_swap 24 = .ok (.iconst 1, 1) := by decide +kernel
theorem dX10_swap_25 : decode cX10_swap 25 = .ok (.ireturn, 1) := by decide +kernel
theorem dX10_drop_0 : decode cX10_drop 0 = .ok (.iload_n 1, 1) := by decide +kernel
theorem dX10_drop_1 : decode cX10_drop 1 = .ok (.iconst 1, 1) := by decide +kernel
theorem dX10_drop_2 : decode cX10_drop 2 = .ok (.if_icmp .lt 9, 3) := by decide +kernel
theorem dX10_drop_5 : decode cX10_drop 5 = .ok (.iload_n 1, 1) := by decide +kernel
theorem dX10_drop_6 : decode cX10_drop 6 = .ok (.bipush 9, 2) := by decide +kernel
theorem dX10_drop_8 : decode cX10_drop 8 = .ok (.if_icmp .le 5, 3) := by decide +kernel
theorem dX10_drop_11 : decode cX10_drop 11 = .ok (.iconst 0, 1) := by decide +kernel
theorem dX10_drop_12 : decode cX10_drop 12 = .ok (.ireturn, 1) := by decide +kernel
theorem dX10_drop_13 : decode cX10_drop 13 = .ok (.aload_n 0, 1) := by decide +kernel
theorem dX10_drop_14 : decode cX10_drop 14 = .ok (.getfield 10, 3) := by decide +kernel
theorem dX10_drop_17 : decode cX10_drop 17 = .ok (.iload_n 1, 1) := by decide +kernel
theorem dX10_drop_18 : decode cX10_drop 18 = .ok (.putfield 104, 3) := by decide +kernel
theorem dX10_drop_21 : decode cX10_drop 21 = .ok (.aload_n 0, 1) := by decide +kernel
theorem dX10_drop_22 : decode cX10_drop 22 = .ok (.getfield 65, 3) := by decide +kernel
theorem dX10_drop_25 : decode cX10_drop 25 = .ok (.iconst 0, 1) := by decide +kernel
theorem dX10_drop_26 : decode cX10_drop 26 = .ok (.putfield 97, 3) := by decide +kernel
theorem dX10_drop_29 : decode cX10_drop 29 = .ok (.iconst 1, 1) := by decide +kernel
theorem dX10_drop_30 : decode cX10_drop 30 = .ok (.ireturn, 1) := by decide +kernel
theorem dX10_gap_0 : decode cX10_gap 0 = .ok (.iload_n 1, 1) := by decide +kernel
theorem dX10_gap_1 : decode cX10_gap 1 = .ok (.ifCond .lt 9, 3) := by decide +kernel
theorem dX10_gap_4 : decode cX10_gap 4 = .ok (.iload_n 1, 1) := by decide +kernel
theorem dX10_gap_5 : decode cX10_gap 5 = .ok (.bipush 63, 2) := by decide +kernel
theorem dX10_gap_7 : decode cX10_gap 7 = .ok (.if_icmp .le 5, 3) := by decide +kernel
theorem dX10_gap_10 : decode cX10_gap 10 = .ok (.iconst 0, 1) := by decide +kernel
theorem dX10_gap_11 : decode cX10_gap 11 = .ok (.ireturn, 1) := by decide +kernel
theorem dX10_gap_12 : decode cX10_gap 12 = .ok (.aload_n 0, 1) := by decide +kernel
theorem dX10_gap_13 : decode cX10_gap 13 = .ok (.getfield 10, 3) := by decide +kernel
theorem dX10_gap_16 : decode cX10_gap 16 = .ok (.iload_n 1, 1) := by decide +kernel
theorem dX10_gap_17 : decode cX10_gap 17 = .ok (.putfield 107, 3) := by decide +kernel
theorem dX10_gap_20 : decode cX10_gap 20 = .ok (.aload_n 0, 1) := by decide +kernel
theorem dX10_gap_21 : decode cX10_gap 21 = .ok (.invokevirtual 110, 3) := by decide +kernel
theorem dX10_gap_24 : decode cX10_gap 24 = .ok (.iconst 1, 1) := by decide +kernel
theorem dX10_gap_25 : decode cX10_gap 25 = .ok (.ireturn, 1) := by decide +kernel
theorem dX10_feed_0 : decode cX10_feed 0 = .ok (.aload_n 0, 1) := by decide +kernel
theorem dX10_feed_1 : decode cX10_feed 1 = .ok (.getfield 19, 3) := by decide +kernel
theorem dX10_feed_4 : decode cX10_feed 4 = .ok (.getfield 113, 3) := by decide +kernel
theorem dX10_feed_7 : decode cX10_feed 7 = .ok (.bipush 20, 2) := by decide +kernel
theorem dX10_feed_9 : decode cX10_feed 9 = .ok (.iadd, 1) := by decide +kernel
theorem dX10_feed_10 : decode cX10_feed 10 = .ok (.bipush 40, 2) := by decide +kernel
theorem dX10_feed_12 : decode cX10_feed 12 = .ok (.if_icmp .le 5, 3) := by decide +kernel
theorem dX10_feed_15 : decode cX10_feed 15 = .ok (.iconst (-1), 1) := by decide +kernel
theorem dX10_feed_16 : decode cX10_feed 16 = .ok (.ireturn, 1) := by decide +kernel
theorem dX10_feed_17 : decode cX10_feed 17 = .ok (.aload_n 0, 1) := by decide +kernel
theorem dX10_feed_18 : decode cX10_feed 18 = .ok (.getfield 19, 3) := by decide +kernel
theorem dX10_feed_21 : decode cX10_feed 21 = .ok (.iload_n 1, 1) := by decide +kernel
theorem dX10_feed_22 : decode cX10_feed 22 = .ok (.invokevirtual 114, 3) := by decide +kernel
theorem dX10_feed_25 : decode cX10_feed 25 = .ok (.aload_n 0, 1) := by decide +kernel
theorem dX10_feed_26 : decode cX10_feed 26 = .ok (.getfield 19, 3) := by decide +kernel
theorem dX10_feed_29 : decode cX10_feed 29 = .ok (.iload_n 2, 1) := by decide +kernel
theorem dX10_feed_30 : decode cX10_feed 30 = .ok (.invokevirtual 114, 3) := by decide +kernel
theorem dX10_feed_33 : decode cX10_feed 33 = .ok (.aload_n 0, 1) := by decide +kernel
theorem dX10_feed_34 : decode cX10_feed 34 = .ok (.getfield 19, 3) := by decide +kernel
theorem dX10_feed_37 : decode cX10_feed 37 = .ok (.iload_n 3, 1) := by decide +kernel
theorem dX10_feed_38 : decode cX10_feed 38 = .ok (.invokevirtual 114, 3) := by decide +kernel
theorem dX10_feed_41 : decode cX10_feed 41 = .ok (.aload_n 0, 1) := by decide +kernel
theorem dX10_feed_42 : decode cX10_feed 42 = .ok (.getfield 19, 3) := by decide +kernel
theorem dX10_feed_45 : decode cX10_feed 45 = .ok (.iload 4, 2) := by decide +kernel
theorem dX10_feed_47 : decode cX10_feed 47 = .ok (.invokevirtual 114, 3) := by decide +kernel
theorem dX10_feed_50 : decode cX10_feed 50 = .ok (.aload_n 0, 1) := by decide +kernel
theorem dX10_feed_51 : decode cX10_feed 51 = .ok (.getfield 19, 3) := by decide +kernel
theorem dX10_feed_54 : decode cX10_feed 54 = .ok (.iload 5, 2) := by decide +kernel
theorem dX10_feed_56 : decode cX10_feed 56 = .ok (.invokevirtual 114, 3) := by decide +kernel
theorem dX10_feed_59 : decode cX10_feed 59 = .ok (.aload_n 0, 1) := by decide +kernel
theorem dX10_feed_60 : decode cX10_feed 60 = .ok (.getfield 19, 3) := by decide +kernel
theorem dX10_feed_63 : decode cX10_feed 63 = .ok (.getfield 113, 3) := by decide +kernel
theorem dX10_feed_66 : decode cX10_feed 66 = .ok (.ireturn, 1) := by decide +kernel
theorem dX10_end_0 : decode cX10_end 0 = .ok (.iload_n 1, 1) := by decide +kernel
theorem dX10_end_1 : decode cX10_end 1 = .ok (.ifCond .lt 14, 3) := by decide +kernel
theorem dX10_end_4 : decode cX10_end 4 = .ok (.iload_n 1, 1) := by decide +kernel
theorem dX10_end_5 : decode cX10_end 5 = .ok (.aload_n 0, 1) := by decide +kernel
theorem dX10_end_6 : decode cX10_end 6 = .ok (.getfield 19, 3) := by decide +kernel
theorem dX10_end_9 : decode cX10_end 9 = .ok (.getfield 113, 3) := by decide +kernel
theorem dX10_end_12 : decode cX10_end 12 = .ok (.if_icmp .le 5, 3) := by decide +kernel
theorem dX10_end_15 : decode cX10_end 15 = .ok (.iconst (-1), 1) := by decide +kernel
theorem dX10_end_16 : decode cX10_end 16 = .ok (.ireturn, 1) := by decide +kernel
theorem dX10_end_17 : decode cX10_end 17 = .ok (.aload_n 0, 1) := by decide +kernel
theorem dX10_end_18 : decode cX10_end 18 = .ok (.getfield 19, 3) := by decide +kernel
theorem dX10_end_21 : decode cX10_end 21 = .ok (.iload_n 1, 1) := by decide +kernel
theorem dX10_end_22 : decode cX10_end 22 = .ok (.putfield 113, 3) := by decide +kernel
theorem dX10_end_25 : decode cX10_end 25 = .ok (.iload_n 1, 1) := by decide +kernel
theorem dX10_end_26 : decode cX10_end 26 = .ok (.ireturn, 1) := by decide +kernel
theorem dX10_word_0 : decode cX10_word 0 = .ok (.aload_n 0, 1) := by decide +kernel
theorem dX10_word_1 : decode cX10_word 1 = .ok (.getfield 19, 3) := by decide +kernel
theorem dX10_word_4 : decode cX10_word 4 = .ok (.aload_n 0, 1) := by decide +kernel
theorem dX10_word_5 : decode cX10_word 5 = .ok (.getfield 10, 3) := by decide +kernel
theorem dX10_word_8 : decode cX10_word 8 = .ok (.getfield 83, 3) := by decide +kernel
theorem dX10_word_11 : decode cX10_word 11 = .ok (.invokevirtual 118, 3) := by decide +kernel
theorem dX10_word_14 : decode cX10_word 14 = .ok (.istore_n 1, 1) := by decide +kernel
theorem dX10_word_15 : decode cX10_word 15 = .ok (.iload_n 1, 1) := by decide +kernel
theorem dX10_word_16 : decode cX10_word 16 = .ok (.iconst 1, 1) := by decide +kernel
theorem dX10_word_17 : decode cX10_word 17 = .ok (.if_icmp .lt 21, 3) := by decide +kernel
theorem dX10_word_20 : decode cX10_word 20 = .ok (.iload_n 1, 1) := by decide +kernel
theorem dX10_word_21 : decode cX10_word 21 = .ok (.bipush 7, 2) := by decide +kernel
theorem dX10_word_23 : decode cX10_word 23 = .ok (.if_icmp .gt 15, 3) := by decide +kernel
theorem dX10_word_26 : decode cX10_word 26 = .ok (.aload_n 0, 1) := by decide +kernel
theorem dX10_word_27 : decode cX10_word 27 = .ok (.getfield 26, 3) := by decide +kernel
theorem dX10_word_30 : decode cX10_word 30 = .ok (.getfield 78, 3) := by decide +kernel
theorem dX10_word_33 : decode cX10_word 33 = .ok (.bipush 8, 2) := by decide +kernel
theorem dX10_word_35 : decode cX10_word 35 = .ok (.if_icmp .lt 5, 3) := by decide +kernel
theorem dX10_word_38 : decode cX10_word 38 = .ok (.iconst (-1), 1) := by decide +kernel
theorem dX10_word_39 : decode cX10_word 39 = .ok (.ireturn, 1) := by decide +kernel
theorem dX10_word_40 : decode cX10_word 40 = .ok (.aload_n 0, 1) := by decide +kernel
theorem dX10_word_41 : decode cX10_word 41 = .ok (.getfield 26, 3) := by decide +kernel
theorem dX10_word_44 : decode cX10_word 44 = .ok (.getfield 78, 3) := by decide +kernel
theorem dX10_word_47 : decode cX10_word 47 = .ok (.ifCond .le 16, 3) := by decide +kernel
theorem dX10_word_50 : decode cX10_word 50 = .ok (.iload_n 1, 1) := by decide +kernel
theorem dX10_word_51 : decode cX10_word 51 = .ok (.aload_n 0, 1) := by decide +kernel
theorem dX10_word_52 : decode cX10_word 52 = .ok (.getfield 26, 3) := by decide +kernel
theorem dX10_word_55 : decode cX10_word 55 = .ok (.getfield 122, 3) := by decide +kernel
theorem dX10_word_58 : decode cX10_word 58 = .ok (.if_icmp .eq 5, 3) := by decide +kernel
theorem dX10_word_61 : decode cX10_word 61 = .ok (.iconst (-1), 1) := by decide +kernel
theorem dX10_word_62 : decode cX10_word 62 = .ok (.ireturn, 1) := by decide +kernel
theorem dX10_word_63 : decode cX10_word 63 = .ok (.aload_n 0, 1) := by decide +kernel
theorem dX10_word_64 : decode cX10_word 64 = .ok (.getfield 26, 3) := by decide +kernel
theorem dX10_word_67 : decode cX10_word 67 = .ok (.aload_n 0, 1) := by decide +kernel
theorem dX10_word_68 : decode cX10_word 68 = .ok (.getfield 19, 3) := by decide +kernel
theorem dX10_word_71 : decode cX10_word 71 = .ok (.getfield 125, 3) := by decide +kernel
theorem dX10_word_74 : decode cX10_word 74 = .ok (.iload_n 1, 1) := by decide +kernel
theorem dX10_word_75 : decode cX10_word 75 = .ok (.invokevirtual 129, 3) := by decide +kernel
theorem dX10_word_78 : decode cX10_word 78 = .ok (.aload_n 0, 1) := by decide +kernel
theorem dX10_word_79 : decode cX10_word 79 = .ok (.invokevirtual 132, 3) := by decide +kernel
theorem dX10_word_82 : decode cX10_word 82 = .ok (.aload_n 0, 1) := by decide +kernel
theorem dX10_word_83 : decode cX10_word 83 = .ok (.getfield 26, 3) := by decide +kernel
theorem dX10_word_86 : decode cX10_word 86 = .ok (.getfield 78, 3) := by decide +kernel
theorem dX10_word_89 : decode cX10_word 89 = .ok (.iconst 1, 1) := by decide +kernel
theorem dX10_word_90 : decode cX10_word 90 = .ok (.isub, 1) := by decide +kernel
theorem dX10_word_91 : decode cX10_word 91 = .ok (.ireturn, 1) := by decide +kernel
theorem dX10_text_0 : decode cX10_text 0 = .ok (.aload_n 0, 1) := by decide +kernel
theorem dX10_text_1 : decode cX10_text 1 = .ok (.getfield 19, 3) := by decide +kernel
theorem dX10_text_4 : decode cX10_text 4 = .ok (.aload_n 0, 1) := by decide +kernel
theorem dX10_text_5 : decode cX10_text 5 = .ok (.getfield 10, 3) := by decide +kernel
theorem dX10_text_8 : decode cX10_text 8 = .ok (.getfield 83, 3) := by decide +kernel
theorem dX10_text_11 : decode cX10_text 11 = .ok (.invokevirtual 118, 3) := by decide +kernel
theorem dX10_text_14 : decode cX10_text 14 = .ok (.istore_n 1, 1) := by decide +kernel
theorem dX10_text_15 : decode cX10_text 15 = .ok (.iload_n 1, 1) := by decide +kernel
theorem dX10_text_16 : decode cX10_text 16 = .ok (.iconst 1, 1) := by decide +kernel
theorem dX10_text_17 : decode cX10_text 17 = .ok (.if_icmp .lt 20, 3) := by decide +kernel
theorem dX10_text_20 : decode cX10_text 20 = .ok (.iload_n 1, 1) := by decide +kernel
theorem dX10_text_21 : decode cX10_text 21 = .ok (.bipush 24, 2) := by decide +kernel
theorem dX10_text_23 : decode cX10_text 23 = .ok (.if_icmp .gt 14, 3) := by decide +kernel
theorem dX10_text_26 : decode cX10_text 26 = .ok (.aload_n 0, 1) := by decide +kernel
theorem dX10_text_27 : decode cX10_text 27 = .ok (.getfield 33, 3) := by decide +kernel
theorem dX10_text_30 : decode cX10_text 30 = .ok (.getfield 82, 3) := by decide +kernel
theorem dX10_text_33 : decode cX10_text 33 = .ok (.iconst 5, 1) := by decide +kernel
theorem dX10_text_34 : decode cX10_text 34 = .ok (.if_icmp .lt 5, 3) := by decide +kernel
theorem dX10_text_37 : decode cX10_text 37 = .ok (.iconst (-1), 1) := by decide +kernel
theorem dX10_text_38 : decode cX10_text 38 = .ok (.ireturn, 1) := by decide +kernel
theorem dX10_text_39 : decode cX10_text 39 = .ok (.aload_n 0, 1) := by decide +kernel
theorem dX10_text_40 : decode cX10_text 40 = .ok (.getfield 33, 3) := by decide +kernel
theorem dX10_text_43 : decode cX10_text 43 = .ok (.aload_n 0, 1) := by decide +kernel
theorem dX10_text_44 : decode cX10_text 44 = .ok (.getfield 19, 3) := by decide +kernel
theorem dX10_text_47 : decode cX10_text 47 = .ok (.getfield 125, 3) := by decide +kernel
theorem dX10_text_50 : decode cX10_text 50 = .ok (.iload_n 1, 1) := by decide +kernel
theorem dX10_text_51 : decode cX10_text 51 = .ok (.invokevirtual 135, 3) := by decide +kernel
theorem dX10_text_54 : decode cX10_text 54 = .ok (.aload_n 0, 1) := by decide +kernel
theorem dX10_text_55 : decode cX10_text 55 = .ok (.getfield 74, 3) := by decide +kernel
theorem dX10_text_58 : decode cX10_text 58 = .ok (.invokevirtual 136, 3) := by decide +kernel
theorem dX10_text_61 : decode cX10_text 61 = .ok (.aload_n 0, 1) := by decide +kernel
theorem dX10_text_62 : decode cX10_text 62 = .ok (.getfield 33, 3) := by decide +kernel
theorem dX10_text_65 : decode cX10_text 65 = .ok (.getfield 82, 3) := by decide +kernel
theorem dX10_text_68 : decode cX10_text 68 = .ok (.iconst 1, 1) := by decide +kernel
theorem dX10_text_69 : decode cX10_text 69 = .ok (.isub, 1) := by decide +kernel
theorem dX10_text_70 : decode cX10_text 70 = .ok (.ireturn, 1) := by decide +kernel
theorem dX10_part_0 : decode cX10_part 0 = .ok (.aload_n 0, 1) := by decide +kernel
theorem dX10_part_1 : decode cX10_part 1 = .ok (.getfield 26, 3) := by decide +kernel
theorem dX10_part_4 : decode cX10_part 4 = .ok (.iload_n 1, 1) := by decide +kernel
theorem dX10_part_5 : decode cX10_part 5 = .ok (.invokevirtual 139, 3) := by decide +kernel
theorem dX10_part_8 : decode cX10_part 8 = .ok (.ifCond .eq 12, 3) := by decide +kernel
theorem dX10_part_11 : decode cX10_part 11 = .ok (.iload_n 2, 1) := by decide +kernel
theorem dX10_part_12 : decode cX10_part 12 = .ok (.ifCond .lt 8, 3) := by decide +kernel
end
section
theorem dX10_part_15 : decode cX10_part 15 = .ok (.iload_n 2, 1) := by decide +kernel
theorem dX10_part_16 : decode cX10_part 16 = .ok (.iconst 2, 1) := by decide +kernel
theorem dX10_part_17 : decode cX10_part 17 = .ok (.if_icmp .le 5, 3) := by decide +kernel
theorem dX10_part_20 : decode cX10_part 20 = .ok (.iconst 0, 1) := by decide +kernel
theorem dX10_part_21 : decode cX10_part 21 = .ok (.ireturn, 1) := by decide +kernel
theorem dX10_part_22 : decode cX10_part 22 = .ok (.aload_n 0, 1) := by decide +kernel
theorem dX10_part_23 : decode cX10_part 23 = .ok (.getfield 26, 3) := by decide +kernel
theorem dX10_part_26 : decode cX10_part 26 = .ok (.getfield 142, 3) := by decide +kernel
theorem dX10_part_29 : decode cX10_part 29 = .ok (.iload_n 1, 1) := by decide +kernel
theorem dX10_part_30 : decode cX10_part 30 = .ok (.iload_n 2, 1) := by decide +kernel
theorem dX10_part_31 : decode cX10_part 31 = .ok (.iastore, 1) := by decide +kernel
theorem dX10_part_32 : decode cX10_part 32 = .ok (.aload_n 0, 1) := by decide +kernel
theorem dX10_part_33 : decode cX10_part 33 = .ok (.invokevirtual 132, 3) := by decide +kernel
theorem dX10_part_36 : decode cX10_part 36 = .ok (.iconst 1, 1) := by decide +kernel
theorem dX10_part_37 : decode cX10_part 37 = .ok (.ireturn, 1) := by decide +kernel
theorem dX10_apart_0 : decode cX10_apart 0 = .ok (.aload_n 0, 1) := by decide +kernel
theorem dX10_apart_1 : decode cX10_apart 1 = .ok (.getfield 26, 3) := by decide +kernel
theorem dX10_apart_4 : decode cX10_apart 4 = .ok (.iload_n 1, 1) := by decide +kernel
theorem dX10_apart_5 : decode cX10_apart 5 = .ok (.invokevirtual 139, 3) := by decide +kernel
theorem dX10_apart_8 : decode cX10_apart 8 = .ok (.ifCond .eq 14, 3) := by decide +kernel
theorem dX10_apart_11 : decode cX10_apart 11 = .ok (.aload_n 0, 1) := by decide +kernel
theorem dX10_apart_12 : decode cX10_apart 12 = .ok (.getfield 26, 3) := by decide +kernel
theorem dX10_apart_15 : decode cX10_apart 15 = .ok (.iload_n 2, 1) := by decide +kernel
theorem dX10_apart_16 : decode cX10_apart 16 = .ok (.invokevirtual 139, 3) := by decide +kernel
theorem dX10_apart_19 : decode cX10_apart 19 = .ok (.ifCond .ne 5, 3) := by decide +kernel
theorem dX10_apart_22 : decode cX10_apart 22 = .ok (.iconst (-1), 1) := by decide +kernel
theorem dX10_apart_23 : decode cX10_apart 23 = .ok (.ireturn, 1) := by decide +kernel
theorem dX10_apart_24 : decode cX10_apart 24 = .ok (.aload_n 0, 1) := by decide +kernel
theorem dX10_apart_25 : decode cX10_apart 25 = .ok (.getfield 10, 3) := by decide +kernel
theorem dX10_apart_28 : decode cX10_apart 28 = .ok (.aload_n 0, 1) := by decide +kernel
theorem dX10_apart_29 : decode cX10_apart 29 = .ok (.getfield 26, 3) := by decide +kernel
theorem dX10_apart_32 : decode cX10_apart 32 = .ok (.getfield 145, 3) := by decide +kernel
theorem dX10_apart_35 : decode cX10_apart 35 = .ok (.aload_n 0, 1) := by decide +kernel
theorem dX10_apart_36 : decode cX10_apart 36 = .ok (.getfield 26, 3) := by decide +kernel
theorem dX10_apart_39 : decode cX10_apart 39 = .ok (.iload_n 1, 1) := by decide +kernel
theorem dX10_apart_40 : decode cX10_apart 40 = .ok (.invokevirtual 148, 3) := by decide +kernel
theorem dX10_apart_43 : decode cX10_apart 43 = .ok (.aload_n 0, 1) := by decide +kernel
theorem dX10_apart_44 : decode cX10_apart 44 = .ok (.getfield 26, 3) := by decide +kernel
theorem dX10_apart_47 : decode cX10_apart 47 = .ok (.getfield 145, 3) := by decide +kernel
theorem dX10_apart_50 : decode cX10_apart 50 = .ok (.aload_n 0, 1) := by decide +kernel
theorem dX10_apart_51 : decode cX10_apart 51 = .ok (.getfield 26, 3) := by decide +kernel
theorem dX10_apart_54 : decode cX10_apart 54 = .ok (.iload_n 2, 1) := by decide +kernel
theorem dX10_apart_55 : decode cX10_apart 55 = .ok (.invokevirtual 148, 3) := by decide +kernel
theorem dX10_apart_58 : decode cX10_apart 58 = .ok (.aload_n 0, 1) := by decide +kernel
theorem dX10_apart_59 : decode cX10_apart 59 = .ok (.getfield 26, 3) := by decide +kernel
theorem dX10_apart_62 : decode cX10_apart 62 = .ok (.getfield 122, 3) := by decide +kernel
theorem dX10_apart_65 : decode cX10_apart 65 = .ok (.invokevirtual 151, 3) := by decide +kernel
theorem dX10_apart_68 : decode cX10_apart 68 = .ok (.ireturn, 1) := by decide +kernel
theorem dX10_from_0 : decode cX10_from 0 = .ok (.aload_n 0, 1) := by decide +kernel
theorem dX10_from_1 : decode cX10_from 1 = .ok (.getfield 19, 3) := by decide +kernel
theorem dX10_from_4 : decode cX10_from 4 = .ok (.aload_n 0, 1) := by decide +kernel
theorem dX10_from_5 : decode cX10_from 5 = .ok (.getfield 10, 3) := by decide +kernel
theorem dX10_from_8 : decode cX10_from 8 = .ok (.getfield 83, 3) := by decide +kernel
theorem dX10_from_11 : decode cX10_from 11 = .ok (.invokevirtual 118, 3) := by decide +kernel
theorem dX10_from_14 : decode cX10_from 14 = .ok (.istore_n 2, 1) := by decide +kernel
theorem dX10_from_15 : decode cX10_from 15 = .ok (.aload_n 0, 1) := by decide +kernel
theorem dX10_from_16 : decode cX10_from 16 = .ok (.getfield 26, 3) := by decide +kernel
theorem dX10_from_19 : decode cX10_from 19 = .ok (.iload_n 1, 1) := by decide +kernel
theorem dX10_from_20 : decode cX10_from 20 = .ok (.invokevirtual 139, 3) := by decide +kernel
theorem dX10_from_23 : decode cX10_from 23 = .ok (.ifCond .eq 14, 3) := by decide +kernel
theorem dX10_from_26 : decode cX10_from 26 = .ok (.iload_n 2, 1) := by decide +kernel
theorem dX10_from_27 : decode cX10_from 27 = .ok (.aload_n 0, 1) := by decide +kernel
theorem dX10_from_28 : decode cX10_from 28 = .ok (.getfield 26, 3) := by decide +kernel
theorem dX10_from_31 : decode cX10_from 31 = .ok (.getfield 122, 3) := by decide +kernel
theorem dX10_from_34 : decode cX10_from 34 = .ok (.if_icmp .eq 5, 3) := by decide +kernel
theorem dX10_from_37 : decode cX10_from 37 = .ok (.iconst (-1), 1) := by decide +kernel
theorem dX10_from_38 : decode cX10_from 38 = .ok (.ireturn, 1) := by decide +kernel
theorem dX10_from_39 : decode cX10_from 39 = .ok (.aload_n 0, 1) := by decide +kernel
theorem dX10_from_40 : decode cX10_from 40 = .ok (.getfield 10, 3) := by decide +kernel
theorem dX10_from_43 : decode cX10_from 43 = .ok (.aload_n 0, 1) := by decide +kernel
theorem dX10_from_44 : decode cX10_from 44 = .ok (.getfield 19, 3) := by decide +kernel
theorem dX10_from_47 : decode cX10_from 47 = .ok (.getfield 125, 3) := by decide +kernel
theorem dX10_from_50 : decode cX10_from 50 = .ok (.iconst 0, 1) := by decide +kernel
theorem dX10_from_51 : decode cX10_from 51 = .ok (.aload_n 0, 1) := by decide +kernel
theorem dX10_from_52 : decode cX10_from 52 = .ok (.getfield 26, 3) := by decide +kernel
theorem dX10_from_55 : decode cX10_from 55 = .ok (.getfield 145, 3) := by decide +kernel
theorem dX10_from_58 : decode cX10_from 58 = .ok (.aload_n 0, 1) := by decide +kernel
theorem dX10_from_59 : decode cX10_from 59 = .ok (.getfield 26, 3) := by decide +kernel
theorem dX10_from_62 : decode cX10_from 62 = .ok (.iload_n 1, 1) := by decide +kernel
theorem dX10_from_63 : decode cX10_from 63 = .ok (.invokevirtual 148, 3) := by decide +kernel
theorem dX10_from_66 : decode cX10_from 66 = .ok (.iload_n 2, 1) := by decide +kernel
theorem dX10_from_67 : decode cX10_from 67 = .ok (.invokevirtual 151, 3) := by decide +kernel
theorem dX10_from_70 : decode cX10_from 70 = .ok (.ireturn, 1) := by decide +kernel
theorem dX10_centre_0 : decode cX10_centre 0 = .ok (.aload_n 0, 1) := by decide +kernel
theorem dX10_centre_1 : decode cX10_centre 1 = .ok (.getfield 51, 3) := by decide +kernel
theorem dX10_centre_4 : decode cX10_centre 4 = .ok (.invokevirtual 155, 3) := by decide +kernel
theorem dX10_centre_7 : decode cX10_centre 7 = .ok (.aload_n 0, 1) := by decide +kernel
theorem dX10_centre_8 : decode cX10_centre 8 = .ok (.getfield 51, 3) := by decide +kernel
theorem dX10_centre_11 : decode cX10_centre 11 = .ok (.getfield 158, 3) := by decide +kernel
theorem dX10_centre_14 : decode cX10_centre 14 = .ok (.ireturn, 1) := by decide +kernel
theorem dX10_centreAt_0 : decode cX10_centreAt 0 = .ok (.aload_n 0, 1) := by decide +kernel
theorem dX10_centreAt_1 : decode cX10_centreAt 1 = .ok (.getfield 51, 3) := by decide +kernel
theorem dX10_centreAt_4 : decode cX10_centreAt 4 = .ok (.invokevirtual 155, 3) := by decide +kernel
theorem dX10_centreAt_7 : decode cX10_centreAt 7 = .ok (.aload_n 0, 1) := by decide +kernel
theorem dX10_centreAt_8 : decode cX10_centreAt 8 = .ok (.getfield 51, 3) := by decide +kernel
theorem dX10_centreAt_11 : decode cX10_centreAt 11 = .ok (.getfield 158, 3) := by decide +kernel
theorem dX10_centreAt_14 : decode cX10_centreAt 14 = .ok (.iconst (-1), 1) := by decide +kernel
theorem dX10_centreAt_15 : decode cX10_centreAt 15 = .ok (.if_icmp .ne 7, 3) := by decide +kernel
theorem dX10_centreAt_18 : decode cX10_centreAt 18 = .ok (.iconst (-1), 1) := by decide +kernel
theorem dX10_centreAt_19 : decode cX10_centreAt 19 = .ok (.goto 18, 3) := by decide +kernel
theorem dX10_centreAt_22 : decode cX10_centreAt 22 = .ok (.aload_n 0, 1) := by decide +kernel
theorem dX10_centreAt_23 : decode cX10_centreAt 23 = .ok (.getfield 26, 3) := by decide +kernel
theorem dX10_centreAt_26 : decode cX10_centreAt 26 = .ok (.aload_n 0, 1) := by decide +kernel
theorem dX10_centreAt_27 : decode cX10_centreAt 27 = .ok (.getfield 51, 3) := by decide +kernel
theorem dX10_centreAt_30 : decode cX10_centreAt 30 = .ok (.getfield 161, 3) := by decide +kernel
theorem dX10_centreAt_33 : decode cX10_centreAt 33 = .ok (.iload_n 1, 1) := by decide +kernel
theorem dX10_centreAt_34 : decode cX10_centreAt 34 = .ok (.invokevirtual 164, 3) := by decide +kernel
theorem dX10_centreAt_37 : decode cX10_centreAt 37 = .ok (.ireturn, 1) := by decide +kernel
theorem dX10_without_0 : decode cX10_without 0 = .ok (.aload_n 0, 1) := by decide +kernel
theorem dX10_without_1 : decode cX10_without 1 = .ok (.iload_n 1, 1) := by decide +kernel
theorem dX10_without_2 : decode cX10_without 2 = .ok (.invokevirtual 168, 3) := by decide +kernel
theorem dX10_without_5 : decode cX10_without 5 = .ok (.istore_n 2, 1) := by decide +kernel
theorem dX10_without_6 : decode cX10_without 6 = .ok (.iload_n 2, 1) := by decide +kernel
theorem dX10_without_7 : decode cX10_without 7 = .ok (.ldc 171, 2) := by decide +kernel
theorem dX10_without_9 : decode cX10_without 9 = .ok (.if_icmp .ne 7, 3) := by decide +kernel
theorem dX10_without_12 : decode cX10_without 12 = .ok (.iconst (-1), 1) := by decide +kernel
theorem dX10_without_13 : decode cX10_without 13 = .ok (.goto 11, 3) := by decide +kernel
theorem dX10_without_16 : decode cX10_without 16 = .ok (.aload_n 0, 1) := by decide +kernel
theorem dX10_without_17 : decode cX10_without 17 = .ok (.getfield 58, 3) := by decide +kernel
theorem dX10_without_20 : decode cX10_without 20 = .ok (.iload_n 2, 1) := by decide +kernel
theorem dX10_without_21 : decode cX10_without 21 = .ok (.invokevirtual 172, 3) := by decide +kernel
theorem dX10_without_24 : decode cX10_without 24 = .ok (.ireturn, 1) := by decide +kernel
theorem dX10_leftOut_0 : decode cX10_leftOut 0 = .ok (.aload_n 0, 1) := by decide +kernel
theorem dX10_leftOut_1 : decode cX10_leftOut 1 = .ok (.iload_n 1, 1) := by decide +kernel
theorem dX10_leftOut_2 : decode cX10_leftOut 2 = .ok (.invokevirtual 168, 3) := by decide +kernel
theorem dX10_leftOut_5 : decode cX10_leftOut 5 = .ok (.istore_n 2, 1) := by decide +kernel
theorem dX10_leftOut_6 : decode cX10_leftOut 6 = .ok (.iload_n 2, 1) := by decide +kernel
theorem dX10_leftOut_7 : decode cX10_leftOut 7 = .ok (.ldc 171, 2) := by decide +kernel
theorem dX10_leftOut_9 : decode cX10_leftOut 9 = .ok (.if_icmp .ne 7, 3) := by decide +kernel
theorem dX10_leftOut_12 : decode cX10_leftOut 12 = .ok (.iconst (-1), 1) := by decide +kernel
theorem dX10_leftOut_13 : decode cX10_leftOut 13 = .ok (.goto 26, 3) := by decide +kernel
theorem dX10_leftOut_16 : decode cX10_leftOut 16 = .ok (.aload_n 0, 1) := by decide +kernel
theorem dX10_leftOut_17 : decode cX10_leftOut 17 = .ok (.getfield 42, 3) := by decide +kernel
theorem dX10_leftOut_20 : decode cX10_leftOut 20 = .ok (.aload_n 0, 1) := by decide +kernel
theorem dX10_leftOut_21 : decode cX10_leftOut 21 = .ok (.getfield 58, 3) := by decide +kernel
theorem dX10_leftOut_24 : decode cX10_leftOut 24 = .ok (.iload_n 2, 1) := by decide +kernel
theorem dX10_leftOut_25 : decode cX10_leftOut 25 = .ok (.invokevirtual 172, 3) := by decide +kernel
theorem dX10_leftOut_28 : decode cX10_leftOut 28 = .ok (.aload_n 0, 1) := by decide +kernel
theorem dX10_leftOut_29 : decode cX10_leftOut 29 = .ok (.getfield 58, 3) := by decide +kernel
theorem dX10_leftOut_32 : decode cX10_leftOut 32 = .ok (.iload_n 2, 1) := by decide +kernel
theorem dX10_leftOut_33 : decode cX10_leftOut 33 = .ok (.invokevirtual 175, 3) := by decide +kernel
theorem dX10_leftOut_36 : decode cX10_leftOut 36 = .ok (.invokevirtual 178, 3) := by decide +kernel
theorem dX10_leftOut_39 : decode cX10_leftOut 39 = .ok (.ireturn, 1) := by decide +kernel
theorem dX10_within_0 : decode cX10_within 0 = .ok (.aload_n 0, 1) := by decide +kernel
theorem dX10_within_1 : decode cX10_within 1 = .ok (.iload_n 1, 1) := by decide +kernel
theorem dX10_within_2 : decode cX10_within 2 = .ok (.invokevirtual 181, 3) := by decide +kernel
theorem dX10_within_5 : decode cX10_within 5 = .ok (.ifCond .ne 5, 3) := by decide +kernel
theorem dX10_within_8 : decode cX10_within 8 = .ok (.iconst (-1), 1) := by decide +kernel
theorem dX10_within_9 : decode cX10_within 9 = .ok (.ireturn, 1) := by decide +kernel
theorem dX10_within_10 : decode cX10_within 10 = .ok (.aload_n 0, 1) := by decide +kernel
theorem dX10_within_11 : decode cX10_within 11 = .ok (.getfield 51, 3) := by decide +kernel
theorem dX10_within_14 : decode cX10_within 14 = .ok (.invokevirtual 155, 3) := by decide +kernel
theorem dX10_within_17 : decode cX10_within 17 = .ok (.aload_n 0, 1) := by decide +kernel
theorem dX10_within_18 : decode cX10_within 18 = .ok (.getfield 51, 3) := by decide +kernel
theorem dX10_within_21 : decode cX10_within 21 = .ok (.getfield 184, 3) := by decide +kernel
theorem dX10_within_24 : decode cX10_within 24 = .ok (.iload_n 1, 1) := by decide +kernel
theorem dX10_within_25 : decode cX10_within 25 = .ok (.iaload, 1) := by decide +kernel
theorem dX10_within_26 : decode cX10_within 26 = .ok (.ireturn, 1) := by decide +kernel
theorem dX10_lettersAt_0 : decode cX10_lettersAt 0 = .ok (.aload_n 0, 1) := by decide +kernel
theorem dX10_lettersAt_1 : decode cX10_lettersAt 1 = .ok (.iload_n 1, 1) := by decide +kernel
theorem dX10_lettersAt_2 : decode cX10_lettersAt 2 = .ok (.invokevirtual 181, 3) := by decide +kernel
theorem dX10_lettersAt_5 : decode cX10_lettersAt 5 = .ok (.ifCond .eq 18, 3) := by decide +kernel
theorem dX10_lettersAt_8 : decode cX10_lettersAt 8 = .ok (.iload_n 2, 1) := by decide +kernel
theorem dX10_lettersAt_9 : decode cX10_lettersAt 9 = .ok (.ifCond .lt 14, 3) := by decide +kernel
theorem dX10_lettersAt_12 : decode cX10_lettersAt 12 = .ok (.iload_n 2, 1) := by decide +kernel
theorem dX10_lettersAt_13 : decode cX10_lettersAt 13 = .ok (.aload_n 0, 1) := by decide +kernel
theorem dX10_lettersAt_14 : decode cX10_lettersAt 14 = .ok (.getfield 26, 3) := by decide +kernel
theorem dX10_lettersAt_17 : decode cX10_lettersAt 17 = .ok (.getfield 122, 3) := by decide +kernel
theorem dX10_lettersAt_20 : decode cX10_lettersAt 20 = .ok (.if_icmp .lt 5, 3) := by decide +kernel
theorem dX10_lettersAt_23 : decode cX10_lettersAt 23 = .ok (.iconst (-1), 1) := by decide +kernel
theorem dX10_lettersAt_24 : decode cX10_lettersAt 24 = .ok (.ireturn, 1) := by decide +kernel
theorem dX10_lettersAt_25 : decode cX10_lettersAt 25 = .ok (.aload_n 0, 1) := by decide +kernel
theorem dX10_lettersAt_26 : decode cX10_lettersAt 26 = .ok (.getfield 51, 3) := by decide +kernel
theorem dX10_lettersAt_29 : decode cX10_lettersAt 29 = .ok (.invokevirtual 155, 3) := by decide +kernel
theorem dX10_lettersAt_32 : decode cX10_lettersAt 32 = .ok (.aload_n 0, 1) := by decide +kernel
theorem dX10_lettersAt_33 : decode cX10_lettersAt 33 = .ok (.getfield 51, 3) := by decide +kernel
theorem dX10_lettersAt_36 : decode cX10_lettersAt 36 = .ok (.getfield 187, 3) := by decide +kernel
theorem dX10_lettersAt_39 : decode cX10_lettersAt 39 = .ok (.iload_n 1, 1) := by decide +kernel
theorem dX10_lettersAt_40 : decode cX10_lettersAt 40 = .ok (.iaload, 1) := by decide +kernel
theorem dX10_lettersAt_41 : decode cX10_lettersAt 41 = .ok (.iload_n 2, 1) := by decide +kernel
theorem dX10_lettersAt_42 : decode cX10_lettersAt 42 = .ok (.invokestatic 190, 3) := by decide +kernel
theorem dX10_lettersAt_45 : decode cX10_lettersAt 45 = .ok (.ireturn, 1) := by decide +kernel
theorem dX10_core_0 : decode cX10_core 0 = .ok (.aload_n 0, 1) := by decide +kernel
theorem dX10_core_1 : decode cX10_core 1 = .ok (.iload_n 1, 1) := by decide +kernel
theorem dX10_core_2 : decode cX10_core 2 = .ok (.invokevirtual 195, 3) := by decide +kernel
theorem dX10_core_5 : decode cX10_core 5 = .ok (.istore_n 2, 1) := by decide +kernel
theorem dX10_core_6 : decode cX10_core 6 = .ok (.iload_n 2, 1) := by decide +kernel
theorem dX10_core_7 : decode cX10_core 7 = .ok (.iconst (-1), 1) := by decide +kernel
theorem dX10_core_8 : decode cX10_core 8 = .ok (.if_icmp .ne 7, 3) := by decide +kernel
theorem dX10_core_11 : decode cX10_core 11 = .ok (.iconst (-1), 1) := by decide +kernel
theorem dX10_core_12 : decode cX10_core 12 = .ok (.goto 7, 3) := by decide +kernel
theorem dX10_core_15 : decode cX10_core 15 = .ok (.iload_n 2, 1) := by decide +kernel
theorem dX10_core_16 : decode cX10_core 16 = .ok (.invokestatic 198, 3) := by decide +kernel
theorem dX10_core_19 : decode cX10_core 19 = .ok (.ireturn, 1) := by decide +kernel
theorem dX10_coreSet_0 : decode cX10_coreSet 0 = .ok (.aload_n 0, 1) := by decide +kernel
theorem dX10_coreSet_1 : decode cX10_coreSet 1 = .ok (.iload_n 1, 1) := by decide +kernel
theorem dX10_coreSet_2 : decode cX10_coreSet 2 = .ok (.invokevirtual 181, 3) := by decide +kernel
theorem dX10_coreSet_5 : decode cX10_coreSet 5 = .ok (.ifCond .ne 5, 3) := by decide +kernel
theorem dX10_coreSet_8 : decode cX10_coreSet 8 = .ok (.iconst (-1), 1) := by decide +kernel
theorem dX10_coreSet_9 : decode cX10_coreSet 9 = .ok (.ireturn, 1) := by decide +kernel
theorem dX10_coreSet_10 : decode cX10_coreSet 10 = .ok (.aload_n 0, 1) := by decide +kernel
theorem dX10_coreSet_11 : decode cX10_coreSet 11 = .ok (.getfield 58, 3) := by decide +kernel
theorem dX10_coreSet_14 : decode cX10_coreSet 14 = .ok (.invokevirtual 203, 3) := by decide +kernel
theorem dX10_coreSet_17 : decode cX10_coreSet 17 = .ok (.aload_n 0, 1) := by decide +kernel
theorem dX10_coreSet_18 : decode cX10_coreSet 18 = .ok (.getfield 58, 3) := by decide +kernel
theorem dX10_coreSet_21 : decode cX10_coreSet 21 = .ok (.iload_n 1, 1) := by decide +kernel
theorem dX10_coreSet_22 : decode cX10_coreSet 22 = .ok (.invokevirtual 204, 3) := by decide +kernel
theorem dX10_coreSet_25 : decode cX10_coreSet 25 = .ok (.ireturn, 1) := by decide +kernel
theorem dX10_cover_0 : decode cX10_cover 0 = .ok (.aload_n 0, 1) := by decide +kernel
theorem dX10_cover_1 : decode cX10_cover 1 = .ok (.iload_n 1, 1) := by decide +kernel
theorem dX10_cover_2 : decode cX10_cover 2 = .ok (.invokevirtual 181, 3) := by decide +kernel
theorem dX10_cover_5 : decode cX10_cover 5 = .ok (.ifCond .ne 5, 3) := by decide +kernel
theorem dX10_cover_8 : decode cX10_cover 8 = .ok (.iconst (-1), 1) := by decide +kernel
theorem dX10_cover_9 : decode cX10_cover 9 = .ok (.ireturn, 1) := by decide +kernel
theorem dX10_cover_10 : decode cX10_cover 10 = .ok (.aload_n 0, 1) := by decide +kernel
theorem dX10_cover_11 : decode cX10_cover 11 = .ok (.getfield 58, 3) := by decide +kernel
theorem dX10_cover_14 : decode cX10_cover 14 = .ok (.invokevirtual 203, 3) := by decide +kernel
theorem dX10_cover_17 : decode cX10_cover 17 = .ok (.aload_n 0, 1) := by decide +kernel
theorem dX10_cover_18 : decode cX10_cover 18 = .ok (.getfield 58, 3) := by decide +kernel
theorem dX10_cover_21 : decode cX10_cover 21 = .ok (.iload_n 1, 1) := by decide +kernel
theorem dX10_cover_22 : decode cX10_cover 22 = .ok (.invokevirtual 207, 3) := by decide +kernel
theorem dX10_cover_25 : decode cX10_cover 25 = .ok (.ireturn, 1) := by decide +kernel
theorem dX10_centres_0 : decode cX10_centres 0 = .ok (.iload_n 1, 1) := by decide +kernel
theorem dX10_centres_1 : decode cX10_centres 1 = .ok (.iconst 1, 1) := by decide +kernel
theorem dX10_centres_2 : decode cX10_centres 2 = .ok (.if_icmp .lt 19, 3) := by decide +kernel
theorem dX10_centres_5 : decode cX10_centres 5 = .ok (.iload_n 1, 1) := by decide +kernel
theorem dX10_centres_6 : decode cX10_centres 6 = .ok (.bipush 8, 2) := by decide +kernel
theorem dX10_centres_8 : decode cX10_centres 8 = .ok (.if_icmp .gt 13, 3) := by decide +kernel
theorem dX10_centres_11 : decode cX10_centres 11 = .ok (.aload_n 0, 1) := by decide +kernel
theorem dX10_centres_12 : decode cX10_centres 12 = .ok (.getfield 26, 3) := by decide +kernel
theorem dX10_centres_15 : decode cX10_centres 15 = .ok (.invokevirtual 210, 3) := by decide +kernel
theorem dX10_centres_18 : decode cX10_centres 18 = .ok (.ifCond .ne 5, 3) := by decide +kernel
theorem dX10_centres_21 : decode cX10_centres 21 = .ok (.iconst (-1), 1) := by decide +kernel
theorem dX10_centres_22 : decode cX10_centres 22 = .ok (.ireturn, 1) := by decide +kernel
theorem dX10_centres_23 : decode cX10_centres 23 = .ok (.aload_n 0, 1) := by decide +kernel
theorem dX10_centres_24 : decode cX10_centres 24 = .ok (.getfield 58, 3) := by decide +kernel
theorem dX10_centres_27 : decode cX10_centres 27 = .ok (.invokevirtual 203, 3) := by decide +kernel
theorem dX10_centres_30 : decode cX10_centres 30 = .ok (.aload_n 0, 1) := by decide +kernel
theorem dX10_centres_31 : decode cX10_centres 31 = .ok (.getfield 58, 3) := by decide +kernel
theorem dX10_centres_34 : decode cX10_centres 34 = .ok (.getfield 214, 3) := by decide +kernel
theorem dX10_centres_37 : decode cX10_centres 37 = .ok (.iload_n 1, 1) := by decide +kernel
theorem dX10_centres_38 : decode cX10_centres 38 = .ok (.iaload, 1) := by decide +kernel
theorem dX10_centres_39 : decode cX10_centres 39 = .ok (.istore_n 2, 1) := by decide +kernel
theorem dX10_centres_40 : decode cX10_centres 40 = .ok (.iload_n 2, 1) := by decide +kernel
theorem dX10_centres_41 : decode cX10_centres 41 = .ok (.bipush 63, 2) := by decide +kernel
theorem dX10_centres_43 : decode cX10_centres 43 = .ok (.if_icmp .le 7, 3) := by decide +kernel
theorem dX10_centres_46 : decode cX10_centres 46 = .ok (.iconst (-1), 1) := by decide +kernel
theorem dX10_centres_47 : decode cX10_centres 47 = .ok (.goto 4, 3) := by decide +kernel
theorem dX10_centres_50 : decode cX10_centres 50 = .ok (.iload_n 2, 1) := by decide +kernel
theorem dX10_centres_51 : decode cX10_centres 51 = .ok (.ireturn, 1) := by decide +kernel
theorem dX10_edits_0 : decode cX10_edits 0 = .ok (.aload_n 0, 1) := by decide +kernel
theorem dX10_edits_1 : decode cX10_edits 1 = .ok (.getfield 26, 3) := by decide +kernel
theorem dX10_edits_4 : decode cX10_edits 4 = .ok (.iload_n 1, 1) := by decide +kernel
theorem dX10_edits_5 : decode cX10_edits 5 = .ok (.invokevirtual 139, 3) := by decide +kernel
theorem dX10_edits_8 : decode cX10_edits 8 = .ok (.ifCond .eq 14, 3) := by decide +kernel
theorem dX10_edits_11 : decode cX10_edits 11 = .ok (.aload_n 0, 1) := by decide +kernel
theorem dX10_edits_12 : decode cX10_edits 12 = .ok (.getfield 26, 3) := by decide +kernel
theorem dX10_edits_15 : decode cX10_edits 15 = .ok (.iload_n 2, 1) := by decide +kernel
theorem dX10_edits_16 : decode cX10_edits 16 = .ok (.invokevirtual 139, 3) := by decide +kernel
theorem dX10_edits_19 : decode cX10_edits 19 = .ok (.ifCond .ne 5, 3) := by decide +kernel
theorem dX10_edits_22 : decode cX10_edits 22 = .ok (.iconst (-1), 1) := by decide +kernel
theorem dX10_edits_23 : decode cX10_edits 23 = .ok (.ireturn, 1) := by decide +kernel
theorem dX10_edits_24 : decode cX10_edits 24 = .ok (.aload_n 0, 1) := by decide +kernel
theorem dX10_edits_25 : decode cX10_edits 25 = .ok (.getfield 65, 3) := by decide +kernel
theorem dX10_edits_28 : decode cX10_edits 28 = .ok (.aload_n 0, 1) := by decide +kernel
theorem dX10_edits_29 : decode cX10_edits 29 = .ok (.getfield 26, 3) := by decide +kernel
theorem dX10_edits_32 : decode cX10_edits 32 = .ok (.getfield 145, 3) := by decide +kernel
theorem dX10_edits_35 : decode cX10_edits 35 = .ok (.aload_n 0, 1) := by decide +kernel
theorem dX10_edits_36 : decode cX10_edits 36 = .ok (.getfield 26, 3) := by decide +kernel
theorem dX10_edits_39 : decode cX10_edits 39 = .ok (.iload_n 1, 1) := by decide +kernel
theorem dX10_edits_40 : decode cX10_edits 40 = .ok (.invokevirtual 148, 3) := by decide +kernel
theorem dX10_edits_43 : decode cX10_edits 43 = .ok (.aload_n 0, 1) := by decide +kernel
theorem dX10_edits_44 : decode cX10_edits 44 = .ok (.getfield 26, 3) := by decide +kernel
theorem dX10_edits_47 : decode cX10_edits 47 = .ok (.getfield 122, 3) := by decide +kernel
theorem dX10_edits_50 : decode cX10_edits 50 = .ok (.iload_n 2, 1) := by decide +kernel
theorem dX10_edits_51 : decode cX10_edits 51 = .ok (.invokevirtual 217, 3) := by decide +kernel
theorem dX10_edits_54 : decode cX10_edits 54 = .ok (.ireturn, 1) := by decide +kernel
theorem dX10_editsFrom_0 : decode cX10_editsFrom 0 = .ok (.aload_n 0, 1) := by decide +kernel
theorem dX10_editsFrom_1 : decode cX10_editsFrom 1 = .ok (.getfield 19, 3) := by decide +kernel
theorem dX10_editsFrom_4 : decode cX10_editsFrom 4 = .ok (.aload_n 0, 1) := by decide +kernel
theorem dX10_editsFrom_5 : decode cX10_editsFrom 5 = .ok (.getfield 10, 3) := by decide +kernel
theorem dX10_editsFrom_8 : decode cX10_editsFrom 8 = .ok (.getfield 83, 3) := by decide +kernel
theorem dX10_editsFrom_11 : decode cX10_editsFrom 11 = .ok (.invokevirtual 118, 3) := by decide +kernel
theorem dX10_editsFrom_14 : decode cX10_editsFrom 14 = .ok (.istore_n 2, 1) := by decide +kernel
theorem dX10_editsFrom_15 : decode cX10_editsFrom 15 = .ok (.aload_n 0, 1) := by decide +kernel
theorem dX10_editsFrom_16 : decode cX10_editsFrom 16 = .ok (.getfield 26, 3) := by decide +kernel
theorem dX10_editsFrom_19 : decode cX10_editsFrom 19 = .ok (.iload_n 1, 1) := by decide +kernel
theorem dX10_editsFrom_20 : decode cX10_editsFrom 20 = .ok (.invokevirtual 139, 3) := by decide +kernel
theorem dX10_editsFrom_23 : decode cX10_editsFrom 23 = .ok (.ifCond .eq 14, 3) := by decide +kernel
theorem dX10_editsFrom_26 : decode cX10_editsFrom 26 = .ok (.iload_n 2, 1) := by decide +kernel
theorem dX10_editsFrom_27 : decode cX10_editsFrom 27 = .ok (.iconst 1, 1) := by decide +kernel
theorem dX10_editsFrom_28 : decode cX10_editsFrom 28 = .ok (.if_icmp .lt 9, 3) := by decide +kernel
theorem dX10_editsFrom_31 : decode cX10_editsFrom 31 = .ok (.iload_n 2, 1) := by decide +kernel
theorem dX10_editsFrom_32 : decode cX10_editsFrom 32 = .ok (.bipush 8, 2) := by decide +kernel
theorem dX10_editsFrom_34 : decode cX10_editsFrom 34 = .ok (.if_icmp .le 5, 3) := by decide +kernel
theorem dX10_editsFrom_37 : decode cX10_editsFrom 37 = .ok (.iconst (-1), 1) := by decide +kernel
theorem dX10_editsFrom_38 : decode cX10_editsFrom 38 = .ok (.ireturn, 1) := by decide +kernel
theorem dX10_editsFrom_39 : decode cX10_editsFrom 39 = .ok (.aload_n 0, 1) := by decide +kernel
theorem dX10_editsFrom_40 : decode cX10_editsFrom 40 = .ok (.getfield 65, 3) := by decide +kernel
theorem dX10_editsFrom_43 : decode cX10_editsFrom 43 = .ok (.aload_n 0, 1) := by decide +kernel
theorem dX10_editsFrom_44 : decode cX10_editsFrom 44 = .ok (.getfield 19, 3) := by decide +kernel
theorem dX10_editsFrom_47 : decode cX10_editsFrom 47 = .ok (.getfield 125, 3) := by decide +kernel
theorem dX10_editsFrom_50 : decode cX10_editsFrom 50 = .ok (.iconst 0, 1) := by decide +kernel
theorem dX10_editsFrom_51 : decode cX10_editsFrom 51 = .ok (.iload_n 2, 1) := by decide +kernel
theorem dX10_editsFrom_52 : decode cX10_editsFrom 52 = .ok (.iload_n 1, 1) := by decide +kernel
theorem dX10_editsFrom_53 : decode cX10_editsFrom 53 = .ok (.invokevirtual 217, 3) := by decide +kernel
theorem dX10_editsFrom_56 : decode cX10_editsFrom 56 = .ok (.ireturn, 1) := by decide +kernel
theorem dX10_middle_0 : decode cX10_middle 0 = .ok (.aload_n 0, 1) := by decide +kernel
theorem dX10_middle_1 : decode cX10_middle 1 = .ok (.getfield 65, 3) := by decide +kernel
theorem dX10_middle_4 : decode cX10_middle 4 = .ok (.invokevirtual 221, 3) := by decide +kernel
theorem dX10_middle_7 : decode cX10_middle 7 = .ok (.aload_n 0, 1) := by decide +kernel
theorem dX10_middle_8 : decode cX10_middle 8 = .ok (.getfield 65, 3) := by decide +kernel
theorem dX10_middle_11 : decode cX10_middle 11 = .ok (.getfield 222, 3) := by decide +kernel
theorem dX10_middle_14 : decode cX10_middle 14 = .ok (.ireturn, 1) := by decide +kernel
theorem dX10_middleLength_0 : decode cX10_middleLength 0 = .ok (.aload_n 0, 1) := by decide +kernel
theorem dX10_middleLength_1 : decode cX10_middleLength 1 = .ok (.getfield 65, 3) := by decide +kernel
theorem dX10_middleLength_4 : decode cX10_middleLength 4 = .ok (.invokevirtual 221, 3) := by decide +kernel
theorem dX10_middleLength_7 : decode cX10_middleLength 7 = .ok (.aload_n 0, 1) := by decide +kernel
theorem dX10_middleLength_8 : decode cX10_middleLength 8 = .ok (.getfield 65, 3) := by decide +kernel
theorem dX10_middleLength_11 : decode cX10_middleLength 11 = .ok (.getfield 222, 3) := by decide +kernel
theorem dX10_middleLength_14 : decode cX10_middleLength 14 = .ok (.iconst (-1), 1) := by decide +kernel
theorem dX10_middleLength_15 : decode cX10_middleLength 15 = .ok (.if_icmp .ne 7, 3) := by decide +kernel
theorem dX10_middleLength_18 : decode cX10_middleLength 18 = .ok (.iconst (-1), 1) := by decide +kernel
theorem dX10_middleLength_19 : decode cX10_middleLength 19 = .ok (.goto 10, 3) := by decide +kernel
theorem dX10_middleLength_22 : decode cX10_middleLength 22 = .ok (.aload_n 0, 1) := by decide +kernel
theorem dX10_middleLength_23 : decode cX10_middleLength 23 = .ok (.getfield 65, 3) := by decide +kernel
theorem dX10_middleLength_26 : decode cX10_middleLength 26 = .ok (.getfield 225, 3) := by decide +kernel
theorem dX10_middleLength_29 : decode cX10_middleLength 29 = .ok (.ireturn, 1) := by decide +kernel
theorem dX10_middleAt_0 : decode cX10_middleAt 0 = .ok (.aload_n 0, 1) := by decide +kernel
theorem dX10_middleAt_1 : decode cX10_middleAt 1 = .ok (.getfield 65, 3) := by decide +kernel
theorem dX10_middleAt_4 : decode cX10_middleAt 4 = .ok (.invokevirtual 221, 3) := by decide +kernel
theorem dX10_middleAt_7 : decode cX10_middleAt 7 = .ok (.aload_n 0, 1) := by decide +kernel
theorem dX10_middleAt_8 : decode cX10_middleAt 8 = .ok (.getfield 65, 3) := by decide +kernel
theorem dX10_middleAt_11 : decode cX10_middleAt 11 = .ok (.getfield 222, 3) := by decide +kernel
theorem dX10_middleAt_14 : decode cX10_middleAt 14 = .ok (.iconst (-1), 1) := by decide +kernel
theorem dX10_middleAt_15 : decode cX10_middleAt 15 = .ok (.if_icmp .eq 24, 3) := by decide +kernel
theorem dX10_middleAt_18 : decode cX10_middleAt 18 = .ok (.iload_n 1, 1) := by decide +kernel
theorem dX10_middleAt_19 : decode cX10_middleAt 19 = .ok (.ifCond .lt 20, 3) := by decide +kernel
theorem dX10_middleAt_22 : decode cX10_middleAt 22 = .ok (.iload_n 1, 1) := by decide +kernel
theorem dX10_middleAt_23 : decode cX10_middleAt 23 = .ok (.aload_n 0, 1) := by decide +kernel
theorem dX10_middleAt_24 : decode cX10_middleAt 24 = .ok (.getfield 65, 3) := by decide +kernel
theorem dX10_middleAt_27 : decode cX10_middleAt 27 = .ok (.getfield 225, 3) := by decide +kernel
theorem dX10_middleAt_30 : decode cX10_middleAt 30 = .ok (.if_icmp .ge 9, 3) := by decide +kernel
theorem dX10_middleAt_33 : decode cX10_middleAt 33 = .ok (.iload_n 1, 1) := by decide +kernel
theorem dX10_middleAt_34 : decode cX10_middleAt 34 = .ok (.bipush 8, 2) := by decide +kernel
theorem dX10_middleAt_36 : decode cX10_middleAt 36 = .ok (.if_icmp .lt 5, 3) := by decide +kernel
theorem dX10_middleAt_39 : decode cX10_middleAt 39 = .ok (.iconst (-1), 1) := by decide +kernel
theorem dX10_middleAt_40 : decode cX10_middleAt 40 = .ok (.ireturn, 1) := by decide +kernel
theorem dX10_middleAt_41 : decode cX10_middleAt 41 = .ok (.aload_n 0, 1) := by decide +kernel
theorem dX10_middleAt_42 : decode cX10_middleAt 42 = .ok (.getfield 65, 3) := by decide +kernel
theorem dX10_middleAt_45 : decode cX10_middleAt 45 = .ok (.getfield 226, 3) := by decide +kernel
theorem dX10_middleAt_48 : decode cX10_middleAt 48 = .ok (.iload_n 1, 1) := by decide +kernel
theorem dX10_middleAt_49 : decode cX10_middleAt 49 = .ok (.iaload, 1) := by decide +kernel
theorem dX10_middleAt_50 : decode cX10_middleAt 50 = .ok (.ireturn, 1) := by decide +kernel
theorem dX10_median_0 : decode cX10_median 0 = .ok (.aload_n 0, 1) := by decide +kernel
theorem dX10_median_1 : decode cX10_median 1 = .ok (.getfield 51, 3) := by decide +kernel
theorem dX10_median_4 : decode cX10_median 4 = .ok (.invokevirtual 155, 3) := by decide +kernel
theorem dX10_median_7 : decode cX10_median 7 = .ok (.aload_n 0, 1) := by decide +kernel
theorem dX10_median_8 : decode cX10_median 8 = .ok (.getfield 51, 3) := by decide +kernel
theorem dX10_median_11 : decode cX10_median 11 = .ok (.getfield 229, 3) := by decide +kernel
theorem dX10_median_14 : decode cX10_median 14 = .ok (.ireturn, 1) := by decide +kernel
theorem dX10_medianAt_0 : decode cX10_medianAt 0 = .ok (.aload_n 0, 1) := by decide +kernel
theorem dX10_medianAt_1 : decode cX10_medianAt 1 = .ok (.getfield 51, 3) := by decide +kernel
theorem dX10_medianAt_4 : decode cX10_medianAt 4 = .ok (.invokevirtual 155, 3) := by decide +kernel
theorem dX10_medianAt_7 : decode cX10_medianAt 7 = .ok (.aload_n 0, 1) := by decide +kernel
theorem dX10_medianAt_8 : decode cX10_medianAt 8 = .ok (.getfield 51, 3) := by decide +kernel
theorem dX10_medianAt_11 : decode cX10_medianAt 11 = .ok (.getfield 229, 3) := by decide +kernel
theorem dX10_medianAt_14 : decode cX10_medianAt 14 = .ok (.iconst (-1), 1) := by decide +kernel
theorem dX10_medianAt_15 : decode cX10_medianAt 15 = .ok (.if_icmp .ne 7, 3) := by decide +kernel
theorem dX10_medianAt_18 : decode cX10_medianAt 18 = .ok (.iconst (-1), 1) := by decide +kernel
theorem dX10_medianAt_19 : decode cX10_medianAt 19 = .ok (.goto 18, 3) := by decide +kernel
theorem dX10_medianAt_22 : decode cX10_medianAt 22 = .ok (.aload_n 0, 1) := by decide +kernel
theorem dX10_medianAt_23 : decode cX10_medianAt 23 = .ok (.getfield 26, 3) := by decide +kernel
theorem dX10_medianAt_26 : decode cX10_medianAt 26 = .ok (.aload_n 0, 1) := by decide +kernel
theorem dX10_medianAt_27 : decode cX10_medianAt 27 = .ok (.getfield 51, 3) := by decide +kernel
theorem dX10_medianAt_30 : decode cX10_medianAt 30 = .ok (.getfield 230, 3) := by decide +kernel
theorem dX10_medianAt_33 : decode cX10_medianAt 33 = .ok (.iload_n 1, 1) := by decide +kernel
theorem dX10_medianAt_34 : decode cX10_medianAt 34 = .ok (.invokevirtual 164, 3) := by decide +kernel
theorem dX10_medianAt_37 : decode cX10_medianAt 37 = .ok (.ireturn, 1) := by decide +kernel
theorem dX10_medians_0 : decode cX10_medians 0 = .ok (.aload_n 0, 1) := by decide +kernel
theorem dX10_medians_1 : decode cX10_medians 1 = .ok (.getfield 51, 3) := by decide +kernel
theorem dX10_medians_4 : decode cX10_medians 4 = .ok (.invokevirtual 155, 3) := by decide +kernel
theorem dX10_medians_7 : decode cX10_medians 7 = .ok (.aload_n 0, 1) := by decide +kernel
theorem dX10_medians_8 : decode cX10_medians 8 = .ok (.getfield 51, 3) := by decide +kernel
theorem dX10_medians_11 : decode cX10_medians 11 = .ok (.getfield 229, 3) := by decide +kernel
theorem dX10_medians_14 : decode cX10_medians 14 = .ok (.iconst (-1), 1) := by decide +kernel
theorem dX10_medians_15 : decode cX10_medians 15 = .ok (.if_icmp .ne 7, 3) := by decide +kernel
theorem dX10_medians_18 : decode cX10_medians 18 = .ok (.iconst (-1), 1) := by decide +kernel
theorem dX10_medians_19 : decode cX10_medians 19 = .ok (.goto 10, 3) := by decide +kernel
theorem dX10_medians_22 : decode cX10_medians 22 = .ok (.aload_n 0, 1) := by decide +kernel
theorem dX10_medians_23 : decode cX10_medians 23 = .ok (.getfield 51, 3) := by decide +kernel
theorem dX10_medians_26 : decode cX10_medians 26 = .ok (.getfield 233, 3) := by decide +kernel
theorem dX10_medians_29 : decode cX10_medians 29 = .ok (.ireturn, 1) := by decide +kernel
theorem dX10_motif_0 : decode cX10_motif 0 = .ok (.aload_n 0, 1) := by decide +kernel
theorem dX10_motif_1 : decode cX10_motif 1 = .ok (.getfield 33, 3) := by decide +kernel
theorem dX10_motif_4 : decode cX10_motif 4 = .ok (.iload_n 1, 1) := by decide +kernel
theorem dX10_motif_5 : decode cX10_motif 5 = .ok (.invokevirtual 236, 3) := by decide +kernel
theorem dX10_motif_8 : decode cX10_motif 8 = .ok (.ifCond .ne 5, 3) := by decide +kernel
theorem dX10_motif_11 : decode cX10_motif 11 = .ok (.iconst (-1), 1) := by decide +kernel
theorem dX10_motif_12 : decode cX10_motif 12 = .ok (.ireturn, 1) := by decide +kernel
theorem dX10_motif_13 : decode cX10_motif 13 = .ok (.aload_n 0, 1) := by decide +kernel
theorem dX10_motif_14 : decode cX10_motif 14 = .ok (.getfield 74, 3) := by decide +kernel
theorem dX10_motif_17 : decode cX10_motif 17 = .ok (.iload_n 1, 1) := by decide +kernel
theorem dX10_motif_18 : decode cX10_motif 18 = .ok (.invokevirtual 239, 3) := by decide +kernel
theorem dX10_motif_21 : decode cX10_motif 21 = .ok (.aload_n 0, 1) := by decide +kernel
theorem dX10_motif_22 : decode cX10_motif 22 = .ok (.getfield 74, 3) := by decide +kernel
theorem dX10_motif_25 : decode cX10_motif 25 = .ok (.getfield 241, 3) := by decide +kernel
theorem dX10_motif_28 : decode cX10_motif 28 = .ok (.iload_n 1, 1) := by decide +kernel
theorem dX10_motif_29 : decode cX10_motif 29 = .ok (.iaload, 1) := by decide +kernel
theorem dX10_motif_30 : decode cX10_motif 30 = .ok (.ireturn, 1) := by decide +kernel
theorem dX10_motifAt_0 : decode cX10_motifAt 0 = .ok (.aload_n 0, 1) := by decide +kernel
theorem dX10_motifAt_1 : decode cX10_motifAt 1 = .ok (.getfield 33, 3) := by decide +kernel
theorem dX10_motifAt_4 : decode cX10_motifAt 4 = .ok (.iload_n 1, 1) := by decide +kernel
theorem dX10_motifAt_5 : decode cX10_motifAt 5 = .ok (.invokevirtual 236, 3) := by decide +kernel
theorem dX10_motifAt_8 : decode cX10_motifAt 8 = .ok (.ifCond .eq 12, 3) := by decide +kernel
theorem dX10_motifAt_11 : decode cX10_motifAt 11 = .ok (.iload_n 2, 1) := by decide +kernel
theorem dX10_motifAt_12 : decode cX10_motifAt 12 = .ok (.ifCond .lt 8, 3) := by decide +kernel
theorem dX10_motifAt_15 : decode cX10_motifAt 15 = .ok (.iload_n 2, 1) := by decide +kernel
theorem dX10_motifAt_16 : decode cX10_motifAt 16 = .ok (.iload_n 1, 1) := by decide +kernel
theorem dX10_motifAt_17 : decode cX10_motifAt 17 = .ok (.if_icmp .lt 5, 3) := by decide +kernel
theorem dX10_motifAt_20 : decode cX10_motifAt 20 = .ok (.iconst (-1), 1) := by decide +kernel
theorem dX10_motifAt_21 : decode cX10_motifAt 21 = .ok (.ireturn, 1) := by decide +kernel
theorem dX10_motifAt_22 : decode cX10_motifAt 22 = .ok (.aload_n 0, 1) := by decide +kernel
theorem dX10_motifAt_23 : decode cX10_motifAt 23 = .ok (.getfield 74, 3) := by decide +kernel
theorem dX10_motifAt_26 : decode cX10_motifAt 26 = .ok (.iload_n 1, 1) := by decide +kernel
theorem dX10_motifAt_27 : decode cX10_motifAt 27 = .ok (.invokevirtual 239, 3) := by decide +kernel
theorem dX10_motifAt_30 : decode cX10_motifAt 30 = .ok (.aload_n 0, 1) := by decide +kernel
theorem dX10_motifAt_31 : decode cX10_motifAt 31 = .ok (.getfield 74, 3) := by decide +kernel
theorem dX10_motifAt_34 : decode cX10_motifAt 34 = .ok (.getfield 244, 3) := by decide +kernel
theorem dX10_motifAt_37 : decode cX10_motifAt 37 = .ok (.iload_n 1, 1) := by decide +kernel
theorem dX10_motifAt_38 : decode cX10_motifAt 38 = .ok (.iaload, 1) := by decide +kernel
theorem dX10_motifAt_39 : decode cX10_motifAt 39 = .ok (.iload_n 1, 1) := by decide +kernel
theorem dX10_motifAt_40 : decode cX10_motifAt 40 = .ok (.iload_n 2, 1) := by decide +kernel
theorem dX10_motifAt_41 : decode cX10_motifAt 41 = .ok (.invokestatic 245, 3) := by decide +kernel
theorem dX10_motifAt_44 : decode cX10_motifAt 44 = .ok (.ireturn, 1) := by decide +kernel
theorem dX10_motifIn_0 : decode cX10_motifIn 0 = .ok (.aload_n 0, 1) := by decide +kernel
theorem dX10_motifIn_1 : decode cX10_motifIn 1 = .ok (.getfield 33, 3) := by decide +kernel
theorem dX10_motifIn_4 : decode cX10_motifIn 4 = .ok (.iload_n 2, 1) := by decide +kernel
theorem dX10_motifIn_5 : decode cX10_motifIn 5 = .ok (.invokevirtual 249, 3) := by decide +kernel
theorem dX10_motifIn_8 : decode cX10_motifIn 8 = .ok (.ifCond .ne 13, 3) := by decide +kernel
theorem dX10_motifIn_11 : decode cX10_motifIn 11 = .ok (.new 250, 3) := by decide +kernel
theorem dX10_motifIn_14 : decode cX10_motifIn 14 = .ok (.dup, 1) := by decide +kernel
theorem dX10_motifIn_15 : decode cX10_motifIn 15 = .ok (.ldc 252, 2) := by decide +kernel
theorem dX10_motifIn_17 : decode cX10_motifIn 17 = .ok (.invokespecial 254, 3) := by decide +kernel
theorem dX10_motifIn_20 : decode cX10_motifIn 20 = .ok (.athrow, 1) := by decide +kernel
theorem dX10_motifIn_21 : decode cX10_motifIn 21 = .ok (.aload_n 0, 1) := by decide +kernel
theorem dX10_motifIn_22 : decode cX10_motifIn 22 = .ok (.getfield 33, 3) := by decide +kernel
theorem dX10_motifIn_25 : decode cX10_motifIn 25 = .ok (.iload_n 1, 1) := by decide +kernel
theorem dX10_motifIn_26 : decode cX10_motifIn 26 = .ok (.invokevirtual 236, 3) := by decide +kernel
theorem dX10_motifIn_29 : decode cX10_motifIn 29 = .ok (.ifCond .ne 14, 3) := by decide +kernel
theorem dX10_motifIn_32 : decode cX10_motifIn 32 = .ok (.new 250, 3) := by decide +kernel
theorem dX10_motifIn_35 : decode cX10_motifIn 35 = .ok (.dup, 1) := by decide +kernel
theorem dX10_motifIn_36 : decode cX10_motifIn 36 = .ok (.ldc_w 257, 3) := by decide +kernel
theorem dX10_motifIn_39 : decode cX10_motifIn 39 = .ok (.invokespecial 254, 3) := by decide +kernel
theorem dX10_motifIn_42 : decode cX10_motifIn 42 = .ok (.athrow, 1) := by decide +kernel
theorem dX10_motifIn_43 : decode cX10_motifIn 43 = .ok (.aload_n 0, 1) := by decide +kernel
theorem dX10_motifIn_44 : decode cX10_motifIn 44 = .ok (.getfield 74, 3) := by decide +kernel
theorem dX10_motifIn_47 : decode cX10_motifIn 47 = .ok (.iload_n 1, 1) := by decide +kernel
theorem dX10_motifIn_48 : decode cX10_motifIn 48 = .ok (.invokevirtual 239, 3) := by decide +kernel
theorem dX10_motifIn_51 : decode cX10_motifIn 51 = .ok (.aload_n 0, 1) := by decide +kernel
theorem dX10_motifIn_52 : decode cX10_motifIn 52 = .ok (.getfield 74, 3) := by decide +kernel
theorem dX10_motifIn_55 : decode cX10_motifIn 55 = .ok (.iload_n 1, 1) := by decide +kernel
theorem dX10_motifIn_56 : decode cX10_motifIn 56 = .ok (.iload_n 2, 1) := by decide +kernel
theorem dX10_motifIn_57 : decode cX10_motifIn 57 = .ok (.invokevirtual 259, 3) := by decide +kernel
theorem dX10_motifIn_60 : decode cX10_motifIn 60 = .ok (.ireturn, 1) := by decide +kernel
theorem dX10_of_0 : decode cX10_of 0 = .ok (.aload_n 0, 1) := by decide +kernel
theorem dX10_of_1 : decode cX10_of 1 = .ok (.getfield 26, 3) := by decide +kernel
theorem dX10_of_4 : decode cX10_of 4 = .ok (.iload_n 1, 1) := by decide +kernel
theorem dX10_of_5 : decode cX10_of 5 = .ok (.invokevirtual 139, 3) := by decide +kernel
theorem dX10_of_8 : decode cX10_of 8 = .ok (.ifCond .eq 18, 3) := by decide +kernel
theorem dX10_of_11 : decode cX10_of 11 = .ok (.iload_n 2, 1) := by decide +kernel
theorem dX10_of_12 : decode cX10_of 12 = .ok (.ifCond .lt 14, 3) := by decide +kernel
theorem dX10_of_15 : decode cX10_of 15 = .ok (.iload_n 2, 1) := by decide +kernel
theorem dX10_of_16 : decode cX10_of 16 = .ok (.aload_n 0, 1) := by decide +kernel
theorem dX10_of_17 : decode cX10_of 17 = .ok (.getfield 26, 3) := by decide +kernel
theorem dX10_of_20 : decode cX10_of 20 = .ok (.getfield 122, 3) := by decide +kernel
theorem dX10_of_23 : decode cX10_of 23 = .ok (.if_icmp .le 5, 3) := by decide +kernel
theorem dX10_of_26 : decode cX10_of 26 = .ok (.iconst (-1), 1) := by decide +kernel
theorem dX10_of_27 : decode cX10_of 27 = .ok (.ireturn, 1) := by decide +kernel
theorem dX10_of_28 : decode cX10_of 28 = .ok (.iload_n 2, 1) := by decide +kernel
theorem dX10_of_29 : decode cX10_of 29 = .ok (.ifCond .ne 15, 3) := by decide +kernel
theorem dX10_of_32 : decode cX10_of 32 = .ok (.aload_n 0, 1) := by decide +kernel
theorem dX10_of_33 : decode cX10_of 33 = .ok (.getfield 26, 3) := by decide +kernel
theorem dX10_of_36 : decode cX10_of 36 = .ok (.getfield 142, 3) := by decide +kernel
theorem dX10_of_39 : decode cX10_of 39 = .ok (.iload_n 1, 1) := by decide +kernel
theorem dX10_of_40 : decode cX10_of 40 = .ok (.iaload, 1) := by decide +kernel
theorem dX10_of_41 : decode cX10_of 41 = .ok (.goto 23, 3) := by decide +kernel
theorem dX10_of_44 : decode cX10_of 44 = .ok (.aload_n 0, 1) := by decide +kernel
theorem dX10_of_45 : decode cX10_of 45 = .ok (.getfield 26, 3) := by decide +kernel
theorem dX10_of_48 : decode cX10_of 48 = .ok (.getfield 145, 3) := by decide +kernel
theorem dX10_of_51 : decode cX10_of 51 = .ok (.aload_n 0, 1) := by decide +kernel
theorem dX10_of_52 : decode cX10_of 52 = .ok (.getfield 26, 3) := by decide +kernel
theorem dX10_of_55 : decode cX10_of 55 = .ok (.iload_n 1, 1) := by decide +kernel
theorem dX10_of_56 : decode cX10_of 56 = .ok (.invokevirtual 148, 3) := by decide +kernel
theorem dX10_of_59 : decode cX10_of 59 = .ok (.iload_n 2, 1) := by decide +kernel
theorem dX10_of_60 : decode cX10_of 60 = .ok (.iadd, 1) := by decide +kernel
theorem dX10_of_61 : decode cX10_of 61 = .ok (.iconst 1, 1) := by decide +kernel
theorem dX10_of_62 : decode cX10_of 62 = .ok (.isub, 1) := by decide +kernel
theorem dX10_of_63 : decode cX10_of 63 = .ok (.iaload, 1) := by decide +kernel
theorem dX10_of_64 : decode cX10_of 64 = .ok (.ireturn, 1) := by decide +kernel
theorem dX10_count_0 : decode cX10_count 0 = .ok (.iload_n 1, 1) := by decide +kernel
theorem dX10_count_1 : decode cX10_count 1 = .ok (.tableswitch 157 0 9 #[55, 63, 75, 87, 95, 103, 125, 133, 141, 149], 55) := by decide +kernel
theorem dX10_count_56 : decode cX10_count 56 = .ok (.aload_n 0, 1) := by decide +kernel
theorem dX10_count_57 : decode cX10_count 57 = .ok (.getfield 26, 3) := by decide +kernel
theorem dX10_count_60 : decode cX10_count 60 = .ok (.getfield 78, 3) := by decide +kernel
theorem dX10_count_63 : decode cX10_count 63 = .ok (.ireturn, 1) := by decide +kernel
theorem dX10_count_64 : decode cX10_count 64 = .ok (.aload_n 0, 1) := by decide +kernel
theorem dX10_count_65 : decode cX10_count 65 = .ok (.getfield 26, 3) := by decide +kernel
theorem dX10_count_68 : decode cX10_count 68 = .ok (.iconst 1, 1) := by decide +kernel
theorem dX10_count_69 : decode cX10_count 69 = .ok (.invokevirtual 262, 3) := by decide +kernel
theorem dX10_count_72 : decode cX10_count 72 = .ok (.invokestatic 198, 3) := by decide +kernel
theorem dX10_count_75 : decode cX10_count 75 = .ok (.ireturn, 1) := by decide +kernel
theorem dX10_count_76 : decode cX10_count 76 = .ok (.aload_n 0, 1) := by decide +kernel
theorem dX10_count_77 : decode cX10_count 77 = .ok (.getfield 26, 3) := by decide +kernel
theorem dX10_count_80 : decode cX10_count 80 = .ok (.iconst 2, 1) := by decide +kernel
theorem dX10_count_81 : decode cX10_count 81 = .ok (.invokevirtual 262, 3) := by decide +kernel
theorem dX10_count_84 : decode cX10_count 84 = .ok (.invokestatic 198, 3) := by decide +kernel
theorem dX10_count_87 : decode cX10_count 87 = .ok (.ireturn, 1) := by decide +kernel
theorem dX10_count_88 : decode cX10_count 88 = .ok (.aload_n 0, 1) := by decide +kernel
theorem dX10_count_89 : decode cX10_count 89 = .ok (.getfield 33, 3) := by decide +kernel
theorem dX10_count_92 : decode cX10_count 92 = .ok (.getfield 82, 3) := by decide +kernel
theorem dX10_count_95 : decode cX10_count 95 = .ok (.ireturn, 1) := by decide +kernel
theorem dX10_count_96 : decode cX10_count 96 = .ok (.aload_n 0, 1) := by decide +kernel
theorem dX10_count_97 : decode cX10_count 97 = .ok (.getfield 10, 3) := by decide +kernel
theorem dX10_count_100 : decode cX10_count 100 = .ok (.getfield 83, 3) := by decide +kernel
theorem dX10_count_103 : decode cX10_count 103 = .ok (.ireturn, 1) := by decide +kernel
theorem dX10_count_104 : decode cX10_count 104 = .ok (.aload_n 0, 1) := by decide +kernel
theorem dX10_count_105 : decode cX10_count 105 = .ok (.getfield 26, 3) := by decide +kernel
theorem dX10_count_108 : decode cX10_count 108 = .ok (.getfield 78, 3) := by decide +kernel
theorem dX10_count_111 : decode cX10_count 111 = .ok (.ifCond .ne 7, 3) := by decide +kernel
theorem dX10_count_114 : decode cX10_count 114 = .ok (.iconst (-1), 1) := by decide +kernel
theorem dX10_count_115 : decode cX10_count 115 = .ok (.goto 10, 3) := by decide +kernel
theorem dX10_count_118 : decode cX10_count 118 = .ok (.aload_n 0, 1) := by decide +kernel
theorem dX10_count_119 : decode cX10_count 119 = .ok (.getfield 26, 3) := by decide +kernel
theorem dX10_count_122 : decode cX10_count 122 = .ok (.getfield 122, 3) := by decide +kernel
theorem dX10_count_125 : decode cX10_count 125 = .ok (.ireturn, 1) := by decide +kernel
theorem dX10_count_126 : decode cX10_count 126 = .ok (.aload_n 0, 1) := by decide +kernel
theorem dX10_count_127 : decode cX10_count 127 = .ok (.getfield 10, 3) := by decide +kernel
theorem dX10_count_130 : decode cX10_count 130 = .ok (.getfield 101, 3) := by decide +kernel
theorem dX10_count_133 : decode cX10_count 133 = .ok (.ireturn, 1) := by decide +kernel
theorem dX10_count_134 : decode cX10_count 134 = .ok (.aload_n 0, 1) := by decide +kernel
theorem dX10_count_135 : decode cX10_count 135 = .ok (.getfield 10, 3) := by decide +kernel
theorem dX10_count_138 : decode cX10_count 138 = .ok (.getfield 107, 3) := by decide +kernel
theorem dX10_count_141 : decode cX10_count 141 = .ok (.ireturn, 1) := by decide +kernel
theorem dX10_count_142 : decode cX10_count 142 = .ok (.aload_n 0, 1) := by decide +kernel
theorem dX10_count_143 : decode cX10_count 143 = .ok (.getfield 19, 3) := by decide +kernel
theorem dX10_count_146 : decode cX10_count 146 = .ok (.getfield 113, 3) := by decide +kernel
theorem dX10_count_149 : decode cX10_count 149 = .ok (.ireturn, 1) := by decide +kernel
theorem dX10_count_150 : decode cX10_count 150 = .ok (.aload_n 0, 1) := by decide +kernel
theorem dX10_count_151 : decode cX10_count 151 = .ok (.getfield 10, 3) := by decide +kernel
theorem dX10_count_154 : decode cX10_count 154 = .ok (.getfield 104, 3) := by decide +kernel
theorem dX10_count_157 : decode cX10_count 157 = .ok (.ireturn, 1) := by decide +kernel
theorem dX10_count_158 : decode cX10_count 158 = .ok (.iload_n 1, 1) := by decide +kernel
theorem dX10_count_159 : decode cX10_count 159 = .ok (.bipush 10, 2) := by decide +kernel
theorem dX10_count_161 : decode cX10_count 161 = .ok (.if_icmp .lt 32, 3) := by decide +kernel
theorem dX10_count_164 : decode cX10_count 164 = .ok (.aload_n 0, 1) := by decide +kernel
theorem dX10_count_165 : decode cX10_count 165 = .ok (.getfield 33, 3) := by decide +kernel
theorem dX10_count_168 : decode cX10_count 168 = .ok (.iload_n 1, 1) := by decide +kernel
theorem dX10_count_169 : decode cX10_count 169 = .ok (.bipush 10, 2) := by decide +kernel
theorem dX10_count_171 : decode cX10_count 171 = .ok (.isub, 1) := by decide +kernel
theorem dX10_count_172 : decode cX10_count 172 = .ok (.invokevirtual 249, 3) := by decide +kernel
theorem dX10_count_175 : decode cX10_count 175 = .ok (.ifCond .eq 18, 3) := by decide +kernel
theorem dX10_count_178 : decode cX10_count 178 = .ok (.aload_n 0, 1) := by decide +kernel
theorem dX10_count_179 : decode cX10_count 179 = .ok (.getfield 33, 3) := by decide +kernel
theorem dX10_count_182 : decode cX10_count 182 = .ok (.getfield 265, 3) := by decide +kernel
theorem dX10_count_185 : decode cX10_count 185 = .ok (.iload_n 1, 1) := by decide +kernel
theorem dX10_count_186 : decode cX10_count 186 = .ok (.bipush 10, 2) := by decide +kernel
theorem dX10_count_188 : decode cX10_count 188 = .ok (.isub, 1) := by decide +kernel
theorem dX10_count_189 : decode cX10_count 189 = .ok (.iaload, 1) := by decide +kernel
theorem dX10_count_190 : decode cX10_count 190 = .ok (.goto 4, 3) := by decide +kernel
theorem dX10_count_193 : decode cX10_count 193 = .ok (.iconst (-1), 1) := by decide +kernel
theorem dX10_count_194 : decode cX10_count 194 = .ok (.ireturn, 1) := by decide +kernel
theorem dX10_isLetterOfFour_0 : decode cX10_isLetterOfFour 0 = .ok (.iload_n 0, 1) := by decide +kernel
theorem dX10_isLetterOfFour_1 : decode cX10_isLetterOfFour 1 = .ok (.ifCond .lt 12, 3) := by decide +kernel
theorem dX10_isLetterOfFour_4 : decode cX10_isLetterOfFour 4 = .ok (.iload_n 0, 1) := by decide +kernel
theorem dX10_isLetterOfFour_5 : decode cX10_isLetterOfFour 5 = .ok (.iconst 4, 1) := by decide +kernel
theorem dX10_isLetterOfFour_6 : decode cX10_isLetterOfFour 6 = .ok (.if_icmp .ge 7, 3) := by decide +kernel
theorem dX10_isLetterOfFour_9 : decode cX10_isLetterOfFour 9 = .ok (.iconst 1, 1) := by decide +kernel
theorem dX10_isLetterOfFour_10 : decode cX10_isLetterOfFour 10 = .ok (.goto 4, 3) := by decide +kernel
theorem dX10_isLetterOfFour_13 : decode cX10_isLetterOfFour 13 = .ok (.iconst 0, 1) := by decide +kernel
theorem dX10_isLetterOfFour_14 : decode cX10_isLetterOfFour 14 = .ok (.ireturn, 1) := by decide +kernel
theorem dX10_asksWithin_0 : decode cX10_asksWithin 0 = .ok (.iload_n 1, 1) := by decide +kernel
theorem dX10_asksWithin_1 : decode cX10_asksWithin 1 = .ok (.ifCond .lt 23, 3) := by decide +kernel
theorem dX10_asksWithin_4 : decode cX10_asksWithin 4 = .ok (.iload_n 1, 1) := by decide +kernel
theorem dX10_asksWithin_5 : decode cX10_asksWithin 5 = .ok (.bipush 63, 2) := by decide +kernel
theorem dX10_asksWithin_7 : decode cX10_asksWithin 7 = .ok (.if_icmp .gt 17, 3) := by decide +kernel
theorem dX10_asksWithin_10 : decode cX10_asksWithin 10 = .ok (.aload_n 0, 1) := by decide +kernel
theorem dX10_asksWithin_11 : decode cX10_asksWithin 11 = .ok (.getfield 26, 3) := by decide +kernel
theorem dX10_asksWithin_14 : decode cX10_asksWithin 14 = .ok (.invokevirtual 210, 3) := by decide +kernel
theorem dX10_asksWithin_17 : decode cX10_asksWithin 17 = .ok (.ifCond .eq 7, 3) := by decide +kernel
theorem dX10_asksWithin_20 : decode cX10_asksWithin 20 = .ok (.iconst 1, 1) := by decide +kernel
theorem dX10_asksWithin_21 : decode cX10_asksWithin 21 = .ok (.goto 4, 3) := by decide +kernel
theorem dX10_asksWithin_24 : decode cX10_asksWithin 24 = .ok (.iconst 0, 1) := by decide +kernel
theorem dX10_asksWithin_25 : decode cX10_asksWithin 25 = .ok (.ireturn, 1) := by decide +kernel
theorem dX10_keyWithout_0 : decode cX10_keyWithout 0 = .ok (.iload_n 1, 1) := by decide +kernel
theorem dX10_keyWithout_1 : decode cX10_keyWithout 1 = .ok (.ifCond .lt 19, 3) := by decide +kernel
theorem dX10_keyWithout_4 : decode cX10_keyWithout 4 = .ok (.iload_n 1, 1) := by decide +kernel
theorem dX10_keyWithout_5 : decode cX10_keyWithout 5 = .ok (.bipush 8, 2) := by decide +kernel
theorem dX10_keyWithout_7 : decode cX10_keyWithout 7 = .ok (.if_icmp .ge 13, 3) := by decide +kernel
theorem dX10_keyWithout_10 : decode cX10_keyWithout 10 = .ok (.aload_n 0, 1) := by decide +kernel
theorem dX10_keyWithout_11 : decode cX10_keyWithout 11 = .ok (.getfield 26, 3) := by decide +kernel
theorem dX10_keyWithout_14 : decode cX10_keyWithout 14 = .ok (.invokevirtual 210, 3) := by decide +kernel
theorem dX10_keyWithout_17 : decode cX10_keyWithout 17 = .ok (.ifCond .ne 6, 3) := by decide +kernel
theorem dX10_keyWithout_20 : decode cX10_keyWithout 20 = .ok (.ldc 171, 2) := by decide +kernel
theorem dX10_keyWithout_22 : decode cX10_keyWithout 22 = .ok (.ireturn, 1) := by decide +kernel
theorem dX10_keyWithout_23 : decode cX10_keyWithout 23 = .ok (.aload_n 0, 1) := by decide +kernel
theorem dX10_keyWithout_24 : decode cX10_keyWithout 24 = .ok (.getfield 58, 3) := by decide +kernel
theorem dX10_keyWithout_27 : decode cX10_keyWithout 27 = .ok (.invokevirtual 203, 3) := by decide +kernel
theorem dX10_keyWithout_30 : decode cX10_keyWithout 30 = .ok (.aload_n 0, 1) := by decide +kernel
theorem dX10_keyWithout_31 : decode cX10_keyWithout 31 = .ok (.getfield 58, 3) := by decide +kernel
theorem dX10_keyWithout_34 : decode cX10_keyWithout 34 = .ok (.iload_n 1, 1) := by decide +kernel
theorem dX10_keyWithout_35 : decode cX10_keyWithout 35 = .ok (.invokevirtual 268, 3) := by decide +kernel
theorem dX10_keyWithout_38 : decode cX10_keyWithout 38 = .ok (.ireturn, 1) := by decide +kernel
theorem dX10_forgetCandidates_0 : decode cX10_forgetCandidates 0 = .ok (.aload_n 0, 1) := by decide +kernel
theorem dX10_forgetCandidates_1 : decode cX10_forgetCandidates 1 = .ok (.getfield 51, 3) := by decide +kernel
theorem dX10_forgetCandidates_4 : decode cX10_forgetCandidates 4 = .ok (.iconst 0, 1) := by decide +kernel
theorem dX10_forgetCandidates_5 : decode cX10_forgetCandidates 5 = .ok (.putfield 271, 3) := by decide +kernel
theorem dX10_forgetCandidates_8 : decode cX10_forgetCandidates 8 = .ok (.aload_n 0, 1) := by decide +kernel
theorem dX10_forgetCandidates_9 : decode cX10_forgetCandidates 9 = .ok (.getfield 58, 3) := by decide +kernel
theorem dX10_forgetCandidates_12 : decode cX10_forgetCandidates 12 = .ok (.iconst 0, 1) := by decide +kernel
theorem dX10_forgetCandidates_13 : decode cX10_forgetCandidates 13 = .ok (.putfield 272, 3) := by decide +kernel
theorem dX10_forgetCandidates_16 : decode cX10_forgetCandidates 16 = .ok (.return_, 1) := by decide +kernel
theorem dX10_forgetDistances_0 : decode cX10_forgetDistances 0 = .ok (.aload_n 0, 1) := by decide +kernel
theorem dX10_forgetDistances_1 : decode cX10_forgetDistances 1 = .ok (.invokevirtual 110, 3) := by decide +kernel
theorem dX10_forgetDistances_4 : decode cX10_forgetDistances 4 = .ok (.aload_n 0, 1) := by decide +kernel
theorem dX10_forgetDistances_5 : decode cX10_forgetDistances 5 = .ok (.getfield 74, 3) := by decide +kernel
theorem dX10_forgetDistances_8 : decode cX10_forgetDistances 8 = .ok (.invokevirtual 136, 3) := by decide +kernel
theorem dX10_forgetDistances_11 : decode cX10_forgetDistances 11 = .ok (.return_, 1) := by decide +kernel
theorem dX10_forgetWords_0 : decode cX10_forgetWords 0 = .ok (.aload_n 0, 1) := by decide +kernel
theorem dX10_forgetWords_1 : decode cX10_forgetWords 1 = .ok (.invokevirtual 110, 3) := by decide +kernel
theorem dX10_forgetWords_4 : decode cX10_forgetWords 4 = .ok (.aload_n 0, 1) := by decide +kernel
theorem dX10_forgetWords_5 : decode cX10_forgetWords 5 = .ok (.getfield 65, 3) := by decide +kernel
theorem dX10_forgetWords_8 : decode cX10_forgetWords 8 = .ok (.iconst 0, 1) := by decide +kernel
theorem dX10_forgetWords_9 : decode cX10_forgetWords 9 = .ok (.putfield 97, 3) := by decide +kernel
theorem dX10_forgetWords_12 : decode cX10_forgetWords 12 = .ok (.return_, 1) := by decide +kernel
theorem dX11_thrown_0 : decode cX11_thrown 0 = .ok (.aload_n 0, 1) := by decide +kernel
theorem dX11_thrown_1 : decode cX11_thrown 1 = .ok (.getfield 1, 3) := by decide +kernel
theorem dX11_thrown_4 : decode cX11_thrown 4 = .ok (.ireturn, 1) := by decide +kernel
theorem dX11_within_0 : decode cX11_within 0 = .ok (.iload_n 0, 1) := by decide +kernel
theorem dX11_within_1 : decode cX11_within 1 = .ok (.iload_n 1, 1) := by decide +kernel
theorem dX11_within_2 : decode cX11_within 2 = .ok (.if_icmp .lt 12, 3) := by decide +kernel
theorem dX11_within_5 : decode cX11_within 5 = .ok (.iload_n 0, 1) := by decide +kernel
theorem dX11_within_6 : decode cX11_within 6 = .ok (.iload_n 2, 1) := by decide +kernel
theorem dX11_within_7 : decode cX11_within 7 = .ok (.if_icmp .gt 7, 3) := by decide +kernel
theorem dX11_within_10 : decode cX11_within 10 = .ok (.iconst 1, 1) := by decide +kernel
theorem dX11_within_11 : decode cX11_within 11 = .ok (.goto 4, 3) := by decide +kernel
theorem dX11_within_14 : decode cX11_within 14 = .ok (.iconst 0, 1) := by decide +kernel
theorem dX11_within_15 : decode cX11_within 15 = .ok (.ireturn, 1) := by decide +kernel
theorem dX11_init_0 : decode cX11_init 0 = .ok (.aload_n 0, 1) := by decide +kernel
theorem dX11_init_1 : decode cX11_init 1 = .ok (.invokespecial 7, 3) := by decide +kernel
theorem dX11_init_4 : decode cX11_init 4 = .ok (.aload_n 0, 1) := by decide +kernel
theorem dX11_init_5 : decode cX11_init 5 = .ok (.iconst 4, 1) := by decide +kernel
theorem dX11_init_6 : decode cX11_init 6 = .ok (.putfield 13, 3) := by decide +kernel
theorem dX11_init_9 : decode cX11_init 9 = .ok (.aload_n 0, 1) := by decide +kernel
theorem dX11_init_10 : decode cX11_init 10 = .ok (.bipush 16, 2) := by decide +kernel
theorem dX11_init_12 : decode cX11_init 12 = .ok (.newarray .int, 2) := by decide +kernel
theorem dX11_init_14 : decode cX11_init 14 = .ok (.putfield 16, 3) := by decide +kernel
theorem dX11_init_17 : decode cX11_init 17 = .ok (.aload_n 0, 1) := by decide +kernel
theorem dX11_init_18 : decode cX11_init 18 = .ok (.iconst 2, 1) := by decide +kernel
theorem dX11_init_19 : decode cX11_init 19 = .ok (.putfield 20, 3) := by decide +kernel
theorem dX11_init_22 : decode cX11_init 22 = .ok (.aload_n 0, 1) := by decide +kernel
theorem dX11_init_23 : decode cX11_init 23 = .ok (.bipush 56, 2) := by decide +kernel
theorem dX11_init_25 : decode cX11_init 25 = .ok (.newarray .byte, 2) := by decide +kernel
theorem dX11_init_27 : decode cX11_init 27 = .ok (.putfield 23, 3) := by decide +kernel
theorem dX11_init_30 : decode cX11_init 30 = .ok (.aload_n 0, 1) := by decide +kernel
theorem dX11_init_31 : decode cX11_init 31 = .ok (.bipush 8, 2) := by decide +kernel
theorem dX11_init_33 : decode cX11_init 33 = .ok (.newarray .int, 2) := by decide +kernel
theorem dX11_init_35 : decode cX11_init 35 = .ok (.putfield 27, 3) := by decide +kernel
theorem dX11_init_38 : decode cX11_init 38 = .ok (.aload_n 0, 1) := by decide +kernel
theorem dX11_init_39 : decode cX11_init 39 = .ok (.bipush 120, 2) := by decide +kernel
theorem dX11_init_41 : decode cX11_init 41 = .ok (.newarray .byte, 2) := by decide +kernel
theorem dX11_init_43 : decode cX11_init 43 = .ok (.putfield 30, 3) := by decide +kernel
theorem dX11_init_46 : decode cX11_init 46 = .ok (.aload_n 0, 1) := by decide +kernel
theorem dX11_init_47 : decode cX11_init 47 = .ok (.iconst 5, 1) := by decide +kernel
theorem dX11_init_48 : decode cX11_init 48 = .ok (.newarray .int, 2) := by decide +kernel
theorem dX11_init_50 : decode cX11_init 50 = .ok (.putfield 33, 3) := by decide +kernel
theorem dX11_init_53 : decode cX11_init 53 = .ok (.aload_n 0, 1) := by decide +kernel
theorem dX11_init_54 : decode cX11_init 54 = .ok (.bipush 40, 2) := by decide +kernel
theorem dX11_init_56 : decode cX11_init 56 = .ok (.newarray .byte, 2) := by decide +kernel
theorem dX11_init_58 : decode cX11_init 58 = .ok (.putfield 36, 3) := by decide +kernel
theorem dX11_init_61 : decode cX11_init 61 = .ok (.aload_n 0, 1) := by decide +kernel
theorem dX11_init_62 : decode cX11_init 62 = .ok (.bipush 40, 2) := by decide +kernel
theorem dX11_init_64 : decode cX11_init 64 = .ok (.newarray .byte, 2) := by decide +kernel
theorem dX11_init_66 : decode cX11_init 66 = .ok (.putfield 39, 3) := by decide +kernel
theorem dX11_init_69 : decode cX11_init 69 = .ok (.aload_n 0, 1) := by decide +kernel
theorem dX11_init_70 : decode cX11_init 70 = .ok (.bipush 8, 2) := by decide +kernel
theorem dX11_init_72 : decode cX11_init 72 = .ok (.newarray .int, 2) := by decide +kernel
theorem dX11_init_74 : decode cX11_init 74 = .ok (.putfield 42, 3) := by decide +kernel
theorem dX11_init_77 : decode cX11_init 77 = .ok (.aload_n 0, 1) := by decide +kernel
theorem dX11_init_78 : decode cX11_init 78 = .ok (.ldc 45, 2) := by decide +kernel
theorem dX11_init_80 : decode cX11_init 80 = .ok (.newarray .byte, 2) := by decide +kernel
theorem dX11_init_82 : decode cX11_init 82 = .ok (.putfield 46, 3) := by decide +kernel
theorem dX11_init_85 : decode cX11_init 85 = .ok (.aload_n 0, 1) := by decide +kernel
theorem dX11_init_86 : decode cX11_init 86 = .ok (.bipush 8, 2) := by decide +kernel
theorem dX11_init_88 : decode cX11_init 88 = .ok (.newarray .byte, 2) := by decide +kernel
theorem dX11_init_90 : decode cX11_init 90 = .ok (.putfield 49, 3) := by decide +kernel
theorem dX11_init_93 : decode cX11_init 93 = .ok (.aload_n 0, 1) := by decide +kernel
theorem dX11_init_94 : decode cX11_init 94 = .ok (.sipush 256, 3) := by decide +kernel
theorem dX11_init_97 : decode cX11_init 97 = .ok (.newarray .boolean, 2) := by decide +kernel
theorem dX11_init_99 : decode cX11_init 99 = .ok (.putfield 52, 3) := by decide +kernel
end
section
theorem dX11_init_102 : decode cX11_init 102 = .ok (.aload_n 0, 1) := by decide +kernel
theorem dX11_init_103 : decode cX11_init 103 = .ok (.sipush 256, 3) := by decide +kernel
theorem dX11_init_106 : decode cX11_init 106 = .ok (.newarray .int, 2) := by decide +kernel
theorem dX11_init_108 : decode cX11_init 108 = .ok (.putfield 56, 3) := by decide +kernel
theorem dX11_init_111 : decode cX11_init 111 = .ok (.aload_n 0, 1) := by decide +kernel
theorem dX11_init_112 : decode cX11_init 112 = .ok (.bipush 81, 2) := by decide +kernel
theorem dX11_init_114 : decode cX11_init 114 = .ok (.newarray .int, 2) := by decide +kernel
theorem dX11_init_116 : decode cX11_init 116 = .ok (.putfield 59, 3) := by decide +kernel
theorem dX11_init_119 : decode cX11_init 119 = .ok (.aload_n 0, 1) := by decide +kernel
theorem dX11_init_120 : decode cX11_init 120 = .ok (.sipush 648, 3) := by decide +kernel
theorem dX11_init_123 : decode cX11_init 123 = .ok (.newarray .int, 2) := by decide +kernel
theorem dX11_init_125 : decode cX11_init 125 = .ok (.putfield 62, 3) := by decide +kernel
theorem dX11_init_128 : decode cX11_init 128 = .ok (.aload_n 0, 1) := by decide +kernel
theorem dX11_init_129 : decode cX11_init 129 = .ok (.bipush 8, 2) := by decide +kernel
theorem dX11_init_131 : decode cX11_init 131 = .ok (.newarray .byte, 2) := by decide +kernel
theorem dX11_init_133 : decode cX11_init 133 = .ok (.putfield 65, 3) := by decide +kernel
theorem dX11_init_136 : decode cX11_init 136 = .ok (.aload_n 0, 1) := by decide +kernel
theorem dX11_init_137 : decode cX11_init 137 = .ok (.bipush 8, 2) := by decide +kernel
theorem dX11_init_139 : decode cX11_init 139 = .ok (.newarray .byte, 2) := by decide +kernel
theorem dX11_init_141 : decode cX11_init 141 = .ok (.putfield 68, 3) := by decide +kernel
theorem dX11_init_144 : decode cX11_init 144 = .ok (.iconst 0, 1) := by decide +kernel
theorem dX11_init_145 : decode cX11_init 145 = .ok (.istore_n 1, 1) := by decide +kernel
theorem dX11_init_146 : decode cX11_init 146 = .ok (.iload_n 1, 1) := by decide +kernel
theorem dX11_init_147 : decode cX11_init 147 = .ok (.bipush 16, 2) := by decide +kernel
theorem dX11_init_149 : decode cX11_init 149 = .ok (.if_icmp .ge 29, 3) := by decide +kernel
theorem dX11_init_152 : decode cX11_init 152 = .ok (.aload_n 0, 1) := by decide +kernel
theorem dX11_init_153 : decode cX11_init 153 = .ok (.getfield 16, 3) := by decide +kernel
theorem dX11_init_156 : decode cX11_init 156 = .ok (.iload_n 1, 1) := by decide +kernel
theorem dX11_init_157 : decode cX11_init 157 = .ok (.iload_n 1, 1) := by decide +kernel
theorem dX11_init_158 : decode cX11_init 158 = .ok (.iconst 4, 1) := by decide +kernel
theorem dX11_init_159 : decode cX11_init 159 = .ok (.idiv, 1) := by decide +kernel
theorem dX11_init_160 : decode cX11_init 160 = .ok (.iload_n 1, 1) := by decide +kernel
theorem dX11_init_161 : decode cX11_init 161 = .ok (.iconst 4, 1) := by decide +kernel
theorem dX11_init_162 : decode cX11_init 162 = .ok (.irem, 1) := by decide +kernel
theorem dX11_init_163 : decode cX11_init 163 = .ok (.if_icmp .ne 7, 3) := by decide +kernel
theorem dX11_init_166 : decode cX11_init 166 = .ok (.iconst 0, 1) := by decide +kernel
theorem dX11_init_167 : decode cX11_init 167 = .ok (.goto 4, 3) := by decide +kernel
theorem dX11_init_170 : decode cX11_init 170 = .ok (.iconst 1, 1) := by decide +kernel
theorem dX11_init_171 : decode cX11_init 171 = .ok (.iastore, 1) := by decide +kernel
theorem dX11_init_172 : decode cX11_init 172 = .ok (.iinc 1 1, 3) := by decide +kernel
theorem dX11_init_175 : decode cX11_init 175 = .ok (.goto (-29), 3) := by decide +kernel
theorem dX11_init_178 : decode cX11_init 178 = .ok (.return_, 1) := by decide +kernel
theorem dX11_changes_0 : decode cX11_changes 0 = .ok (.aload_n 0, 1) := by decide +kernel
theorem dX11_changes_1 : decode cX11_changes 1 = .ok (.iconst 0, 1) := by decide +kernel
theorem dX11_changes_2 : decode cX11_changes 2 = .ok (.putfield 71, 3) := by decide +kernel
theorem dX11_changes_5 : decode cX11_changes 5 = .ok (.aload_n 0, 1) := by decide +kernel
theorem dX11_changes_6 : decode cX11_changes 6 = .ok (.iconst 0, 1) := by decide +kernel
theorem dX11_changes_7 : decode cX11_changes 7 = .ok (.putfield 75, 3) := by decide +kernel
theorem dX11_changes_10 : decode cX11_changes 10 = .ok (.aload_n 0, 1) := by decide +kernel
theorem dX11_changes_11 : decode cX11_changes 11 = .ok (.iconst 0, 1) := by decide +kernel
theorem dX11_changes_12 : decode cX11_changes 12 = .ok (.putfield 78, 3) := by decide +kernel
theorem dX11_changes_15 : decode cX11_changes 15 = .ok (.return_, 1) := by decide +kernel
theorem dX11_letters_0 : decode cX11_letters 0 = .ok (.aload_n 0, 1) := by decide +kernel
theorem dX11_letters_1 : decode cX11_letters 1 = .ok (.iconst 0, 1) := by decide +kernel
theorem dX11_letters_2 : decode cX11_letters 2 = .ok (.putfield 1, 3) := by decide +kernel
theorem dX11_letters_5 : decode cX11_letters 5 = .ok (.iload_n 1, 1) := by decide +kernel
theorem dX11_letters_6 : decode cX11_letters 6 = .ok (.iconst 2, 1) := by decide +kernel
theorem dX11_letters_7 : decode cX11_letters 7 = .ok (.iconst 4, 1) := by decide +kernel
theorem dX11_letters_8 : decode cX11_letters 8 = .ok (.invokestatic 81, 3) := by decide +kernel
theorem dX11_letters_11 : decode cX11_letters 11 = .ok (.ifCond .eq 17, 3) := by decide +kernel
theorem dX11_letters_14 : decode cX11_letters 14 = .ok (.aload_n 0, 1) := by decide +kernel
theorem dX11_letters_15 : decode cX11_letters 15 = .ok (.getfield 85, 3) := by decide +kernel
theorem dX11_letters_18 : decode cX11_letters 18 = .ok (.ifCond .gt 10, 3) := by decide +kernel
theorem dX11_letters_21 : decode cX11_letters 21 = .ok (.aload_n 0, 1) := by decide +kernel
theorem dX11_letters_22 : decode cX11_letters 22 = .ok (.getfield 88, 3) := by decide +kernel
theorem dX11_letters_25 : decode cX11_letters 25 = .ok (.ifCond .le 5, 3) := by decide +kernel
theorem dX11_letters_28 : decode cX11_letters 28 = .ok (.iconst 0, 1) := by decide +kernel
theorem dX11_letters_29 : decode cX11_letters 29 = .ok (.ireturn, 1) := by decide +kernel
theorem dX11_letters_30 : decode cX11_letters 30 = .ok (.aload_n 0, 1) := by decide +kernel
theorem dX11_letters_31 : decode cX11_letters 31 = .ok (.iload_n 1, 1) := by decide +kernel
theorem dX11_letters_32 : decode cX11_letters 32 = .ok (.putfield 13, 3) := by decide +kernel
theorem dX11_letters_35 : decode cX11_letters 35 = .ok (.iconst 1, 1) := by decide +kernel
theorem dX11_letters_36 : decode cX11_letters 36 = .ok (.ireturn, 1) := by decide +kernel
theorem dX11_cost_0 : decode cX11_cost 0 = .ok (.aload_n 0, 1) := by decide +kernel
theorem dX11_cost_1 : decode cX11_cost 1 = .ok (.iconst 0, 1) := by decide +kernel
theorem dX11_cost_2 : decode cX11_cost 2 = .ok (.putfield 1, 3) := by decide +kernel
theorem dX11_cost_5 : decode cX11_cost 5 = .ok (.iload_n 1, 1) := by decide +kernel
theorem dX11_cost_6 : decode cX11_cost 6 = .ok (.iconst 0, 1) := by decide +kernel
theorem dX11_cost_7 : decode cX11_cost 7 = .ok (.iconst 3, 1) := by decide +kernel
theorem dX11_cost_8 : decode cX11_cost 8 = .ok (.invokestatic 81, 3) := by decide +kernel
theorem dX11_cost_11 : decode cX11_cost 11 = .ok (.ifCond .eq 27, 3) := by decide +kernel
theorem dX11_cost_14 : decode cX11_cost 14 = .ok (.iload_n 2, 1) := by decide +kernel
theorem dX11_cost_15 : decode cX11_cost 15 = .ok (.iconst 0, 1) := by decide +kernel
theorem dX11_cost_16 : decode cX11_cost 16 = .ok (.iconst 3, 1) := by decide +kernel
theorem dX11_cost_17 : decode cX11_cost 17 = .ok (.invokestatic 81, 3) := by decide +kernel
theorem dX11_cost_20 : decode cX11_cost 20 = .ok (.ifCond .eq 18, 3) := by decide +kernel
theorem dX11_cost_23 : decode cX11_cost 23 = .ok (.iload_n 1, 1) := by decide +kernel
theorem dX11_cost_24 : decode cX11_cost 24 = .ok (.iload_n 2, 1) := by decide +kernel
theorem dX11_cost_25 : decode cX11_cost 25 = .ok (.if_icmp .eq 13, 3) := by decide +kernel
theorem dX11_cost_28 : decode cX11_cost 28 = .ok (.iload_n 3, 1) := by decide +kernel
theorem dX11_cost_29 : decode cX11_cost 29 = .ok (.iconst 1, 1) := by decide +kernel
theorem dX11_cost_30 : decode cX11_cost 30 = .ok (.bipush 9, 2) := by decide +kernel
theorem dX11_cost_32 : decode cX11_cost 32 = .ok (.invokestatic 81, 3) := by decide +kernel
theorem dX11_cost_35 : decode cX11_cost 35 = .ok (.ifCond .ne 5, 3) := by decide +kernel
theorem dX11_cost_38 : decode cX11_cost 38 = .ok (.iconst 0, 1) := by decide +kernel
theorem dX11_cost_39 : decode cX11_cost 39 = .ok (.ireturn, 1) := by decide +kernel
theorem dX11_cost_40 : decode cX11_cost 40 = .ok (.aload_n 0, 1) := by decide +kernel
theorem dX11_cost_41 : decode cX11_cost 41 = .ok (.getfield 16, 3) := by decide +kernel
theorem dX11_cost_44 : decode cX11_cost 44 = .ok (.iconst 4, 1) := by decide +kernel
theorem dX11_cost_45 : decode cX11_cost 45 = .ok (.iload_n 1, 1) := by decide +kernel
theorem dX11_cost_46 : decode cX11_cost 46 = .ok (.imul, 1) := by decide +kernel
theorem dX11_cost_47 : decode cX11_cost 47 = .ok (.iload_n 2, 1) := by decide +kernel
theorem dX11_cost_48 : decode cX11_cost 48 = .ok (.iadd, 1) := by decide +kernel
theorem dX11_cost_49 : decode cX11_cost 49 = .ok (.iload_n 3, 1) := by decide +kernel
theorem dX11_cost_50 : decode cX11_cost 50 = .ok (.iastore, 1) := by decide +kernel
theorem dX11_cost_51 : decode cX11_cost 51 = .ok (.aload_n 0, 1) := by decide +kernel
theorem dX11_cost_52 : decode cX11_cost 52 = .ok (.getfield 16, 3) := by decide +kernel
theorem dX11_cost_55 : decode cX11_cost 55 = .ok (.iconst 4, 1) := by decide +kernel
theorem dX11_cost_56 : decode cX11_cost 56 = .ok (.iload_n 2, 1) := by decide +kernel
theorem dX11_cost_57 : decode cX11_cost 57 = .ok (.imul, 1) := by decide +kernel
theorem dX11_cost_58 : decode cX11_cost 58 = .ok (.iload_n 1, 1) := by decide +kernel
theorem dX11_cost_59 : decode cX11_cost 59 = .ok (.iadd, 1) := by decide +kernel
theorem dX11_cost_60 : decode cX11_cost 60 = .ok (.iload_n 3, 1) := by decide +kernel
theorem dX11_cost_61 : decode cX11_cost 61 = .ok (.iastore, 1) := by decide +kernel
theorem dX11_cost_62 : decode cX11_cost 62 = .ok (.aload_n 0, 1) := by decide +kernel
theorem dX11_cost_63 : decode cX11_cost 63 = .ok (.invokevirtual 91, 3) := by decide +kernel
theorem dX11_cost_66 : decode cX11_cost 66 = .ok (.iconst 1, 1) := by decide +kernel
theorem dX11_cost_67 : decode cX11_cost 67 = .ok (.ireturn, 1) := by decide +kernel
theorem dX11_swap_0 : decode cX11_swap 0 = .ok (.aload_n 0, 1) := by decide +kernel
theorem dX11_swap_1 : decode cX11_swap 1 = .ok (.iconst 0, 1) := by decide +kernel
theorem dX11_swap_2 : decode cX11_swap 2 = .ok (.putfield 1, 3) := by decide +kernel
theorem dX11_swap_5 : decode cX11_swap 5 = .ok (.iload_n 1, 1) := by decide +kernel
theorem dX11_swap_6 : decode cX11_swap 6 = .ok (.iconst 0, 1) := by decide +kernel
theorem dX11_swap_7 : decode cX11_swap 7 = .ok (.bipush 9, 2) := by decide +kernel
theorem dX11_swap_9 : decode cX11_swap 9 = .ok (.invokestatic 81, 3) := by decide +kernel
theorem dX11_swap_12 : decode cX11_swap 12 = .ok (.ifCond .ne 5, 3) := by decide +kernel
theorem dX11_swap_15 : decode cX11_swap 15 = .ok (.iconst 0, 1) := by decide +kernel
theorem dX11_swap_16 : decode cX11_swap 16 = .ok (.ireturn, 1) := by decide +kernel
theorem dX11_swap_17 : decode cX11_swap 17 = .ok (.aload_n 0, 1) := by decide +kernel
theorem dX11_swap_18 : decode cX11_swap 18 = .ok (.iload_n 1, 1) := by decide +kernel
theorem dX11_swap_19 : decode cX11_swap 19 = .ok (.putfield 94, 3) := by decide +kernel
theorem dX11_swap_22 : decode cX11_swap 22 = .ok (.aload_n 0, 1) := by decide +kernel
theorem dX11_swap_23 : decode cX11_swap 23 = .ok (.invokevirtual 91, 3) := by decide +kernel
theorem dX11_swap_26 : decode cX11_swap 26 = .ok (.iconst 1, 1) := by decide +kernel
theorem dX11_swap_27 : decode cX11_swap 27 = .ok (.ireturn, 1) := by decide +kernel
theorem dX11_drop_0 : decode cX11_drop 0 = .ok (.aload_n 0, 1) := by decide +kernel
theorem dX11_drop_1 : decode cX11_drop 1 = .ok (.iconst 0, 1) := by decide +kernel
theorem dX11_drop_2 : decode cX11_drop 2 = .ok (.putfield 1, 3) := by decide +kernel
theorem dX11_drop_5 : decode cX11_drop 5 = .ok (.iload_n 1, 1) := by decide +kernel
theorem dX11_drop_6 : decode cX11_drop 6 = .ok (.iconst 1, 1) := by decide +kernel
theorem dX11_drop_7 : decode cX11_drop 7 = .ok (.bipush 9, 2) := by decide +kernel
theorem dX11_drop_9 : decode cX11_drop 9 = .ok (.invokestatic 81, 3) := by decide +kernel
theorem dX11_drop_12 : decode cX11_drop 12 = .ok (.ifCond .ne 5, 3) := by decide +kernel
theorem dX11_drop_15 : decode cX11_drop 15 = .ok (.iconst 0, 1) := by decide +kernel
theorem dX11_drop_16 : decode cX11_drop 16 = .ok (.ireturn, 1) := by decide +kernel
theorem dX11_drop_17 : decode cX11_drop 17 = .ok (.aload_n 0, 1) := by decide +kernel
theorem dX11_drop_18 : decode cX11_drop 18 = .ok (.iload_n 1, 1) := by decide +kernel
theorem dX11_drop_19 : decode cX11_drop 19 = .ok (.putfield 20, 3) := by decide +kernel
theorem dX11_drop_22 : decode cX11_drop 22 = .ok (.aload_n 0, 1) := by decide +kernel
theorem dX11_drop_23 : decode cX11_drop 23 = .ok (.invokevirtual 91, 3) := by decide +kernel
theorem dX11_drop_26 : decode cX11_drop 26 = .ok (.iconst 1, 1) := by decide +kernel
theorem dX11_drop_27 : decode cX11_drop 27 = .ok (.ireturn, 1) := by decide +kernel
theorem dX11_gap_0 : decode cX11_gap 0 = .ok (.aload_n 0, 1) := by decide +kernel
theorem dX11_gap_1 : decode cX11_gap 1 = .ok (.iconst 0, 1) := by decide +kernel
theorem dX11_gap_2 : decode cX11_gap 2 = .ok (.putfield 1, 3) := by decide +kernel
theorem dX11_gap_5 : decode cX11_gap 5 = .ok (.iload_n 1, 1) := by decide +kernel
theorem dX11_gap_6 : decode cX11_gap 6 = .ok (.iconst 0, 1) := by decide +kernel
theorem dX11_gap_7 : decode cX11_gap 7 = .ok (.bipush 63, 2) := by decide +kernel
theorem dX11_gap_9 : decode cX11_gap 9 = .ok (.invokestatic 81, 3) := by decide +kernel
theorem dX11_gap_12 : decode cX11_gap 12 = .ok (.ifCond .ne 5, 3) := by decide +kernel
theorem dX11_gap_15 : decode cX11_gap 15 = .ok (.iconst 0, 1) := by decide +kernel
theorem dX11_gap_16 : decode cX11_gap 16 = .ok (.ireturn, 1) := by decide +kernel
theorem dX11_gap_17 : decode cX11_gap 17 = .ok (.aload_n 0, 1) := by decide +kernel
theorem dX11_gap_18 : decode cX11_gap 18 = .ok (.iload_n 1, 1) := by decide +kernel
theorem dX11_gap_19 : decode cX11_gap 19 = .ok (.putfield 97, 3) := by decide +kernel
theorem dX11_gap_22 : decode cX11_gap 22 = .ok (.iconst 1, 1) := by decide +kernel
theorem dX11_gap_23 : decode cX11_gap 23 = .ok (.ireturn, 1) := by decide +kernel
theorem dX11_feed_0 : decode cX11_feed 0 = .ok (.aload_n 0, 1) := by decide +kernel
theorem dX11_feed_1 : decode cX11_feed 1 = .ok (.iconst 0, 1) := by decide +kernel
theorem dX11_feed_2 : decode cX11_feed 2 = .ok (.putfield 1, 3) := by decide +kernel
theorem dX11_feed_5 : decode cX11_feed 5 = .ok (.aload_n 0, 1) := by decide +kernel
theorem dX11_feed_6 : decode cX11_feed 6 = .ok (.getfield 100, 3) := by decide +kernel
theorem dX11_feed_9 : decode cX11_feed 9 = .ok (.bipush 20, 2) := by decide +kernel
theorem dX11_feed_11 : decode cX11_feed 11 = .ok (.iadd, 1) := by decide +kernel
theorem dX11_feed_12 : decode cX11_feed 12 = .ok (.bipush 40, 2) := by decide +kernel
theorem dX11_feed_14 : decode cX11_feed 14 = .ok (.if_icmp .le 5, 3) := by decide +kernel
theorem dX11_feed_17 : decode cX11_feed 17 = .ok (.iconst (-1), 1) := by decide +kernel
theorem dX11_feed_18 : decode cX11_feed 18 = .ok (.ireturn, 1) := by decide +kernel
theorem dX11_feed_19 : decode cX11_feed 19 = .ok (.iconst 0, 1) := by decide +kernel
theorem dX11_feed_20 : decode cX11_feed 20 = .ok (.istore 6, 2) := by decide +kernel
theorem dX11_feed_22 : decode cX11_feed 22 = .ok (.iload 6, 2) := by decide +kernel
theorem dX11_feed_24 : decode cX11_feed 24 = .ok (.bipush 20, 2) := by decide +kernel
theorem dX11_feed_26 : decode cX11_feed 26 = .ok (.if_icmp .ge 90, 3) := by decide +kernel
theorem dX11_feed_29 : decode cX11_feed 29 = .ok (.iload 6, 2) := by decide +kernel
theorem dX11_feed_31 : decode cX11_feed 31 = .ok (.iconst 4, 1) := by decide +kernel
theorem dX11_feed_32 : decode cX11_feed 32 = .ok (.if_icmp .ge 7, 3) := by decide +kernel
theorem dX11_feed_35 : decode cX11_feed 35 = .ok (.iload_n 1, 1) := by decide +kernel
theorem dX11_feed_36 : decode cX11_feed 36 = .ok (.goto 39, 3) := by decide +kernel
theorem dX11_feed_39 : decode cX11_feed 39 = .ok (.iload 6, 2) := by decide +kernel
theorem dX11_feed_41 : decode cX11_feed 41 = .ok (.bipush 8, 2) := by decide +kernel
theorem dX11_feed_43 : decode cX11_feed 43 = .ok (.if_icmp .ge 7, 3) := by decide +kernel
theorem dX11_feed_46 : decode cX11_feed 46 = .ok (.iload_n 2, 1) := by decide +kernel
theorem dX11_feed_47 : decode cX11_feed 47 = .ok (.goto 28, 3) := by decide +kernel
theorem dX11_feed_50 : decode cX11_feed 50 = .ok (.iload 6, 2) := by decide +kernel
theorem dX11_feed_52 : decode cX11_feed 52 = .ok (.bipush 12, 2) := by decide +kernel
theorem dX11_feed_54 : decode cX11_feed 54 = .ok (.if_icmp .ge 7, 3) := by decide +kernel
theorem dX11_feed_57 : decode cX11_feed 57 = .ok (.iload_n 3, 1) := by decide +kernel
theorem dX11_feed_58 : decode cX11_feed 58 = .ok (.goto 17, 3) := by decide +kernel
theorem dX11_feed_61 : decode cX11_feed 61 = .ok (.iload 6, 2) := by decide +kernel
theorem dX11_feed_63 : decode cX11_feed 63 = .ok (.bipush 16, 2) := by decide +kernel
theorem dX11_feed_65 : decode cX11_feed 65 = .ok (.if_icmp .ge 8, 3) := by decide +kernel
theorem dX11_feed_68 : decode cX11_feed 68 = .ok (.iload 4, 2) := by decide +kernel
theorem dX11_feed_70 : decode cX11_feed 70 = .ok (.goto 5, 3) := by decide +kernel
theorem dX11_feed_73 : decode cX11_feed 73 = .ok (.iload 5, 2) := by decide +kernel
theorem dX11_feed_75 : decode cX11_feed 75 = .ok (.istore 7, 2) := by decide +kernel
theorem dX11_feed_77 : decode cX11_feed 77 = .ok (.aload_n 0, 1) := by decide +kernel
theorem dX11_feed_78 : decode cX11_feed 78 = .ok (.getfield 36, 3) := by decide +kernel
theorem dX11_feed_81 : decode cX11_feed 81 = .ok (.aload_n 0, 1) := by decide +kernel
theorem dX11_feed_82 : decode cX11_feed 82 = .ok (.getfield 100, 3) := by decide +kernel
theorem dX11_feed_85 : decode cX11_feed 85 = .ok (.iload 7, 2) := by decide +kernel
theorem dX11_feed_87 : decode cX11_feed 87 = .ok (.bipush 24, 2) := by decide +kernel
theorem dX11_feed_89 : decode cX11_feed 89 = .ok (.bipush 8, 2) := by decide +kernel
theorem dX11_feed_91 : decode cX11_feed 91 = .ok (.iload 6, 2) := by decide +kernel
theorem dX11_feed_93 : decode cX11_feed 93 = .ok (.iconst 4, 1) := by decide +kernel
theorem dX11_feed_94 : decode cX11_feed 94 = .ok (.irem, 1) := by decide +kernel
theorem dX11_feed_95 : decode cX11_feed 95 = .ok (.imul, 1) := by decide +kernel
theorem dX11_feed_96 : decode cX11_feed 96 = .ok (.isub, 1) := by decide +kernel
theorem dX11_feed_97 : decode cX11_feed 97 = .ok (.ishr, 1) := by decide +kernel
theorem dX11_feed_98 : decode cX11_feed 98 = .ok (.i2b, 1) := by decide +kernel
theorem dX11_feed_99 : decode cX11_feed 99 = .ok (.bastore, 1) := by decide +kernel
theorem dX11_feed_100 : decode cX11_feed 100 = .ok (.aload_n 0, 1) := by decide +kernel
theorem dX11_feed_101 : decode cX11_feed 101 = .ok (.dup, 1) := by decide +kernel
theorem dX11_feed_102 : decode cX11_feed 102 = .ok (.getfield 100, 3) := by decide +kernel
theorem dX11_feed_105 : decode cX11_feed 105 = .ok (.iconst 1, 1) := by decide +kernel
theorem dX11_feed_106 : decode cX11_feed 106 = .ok (.iadd, 1) := by decide +kernel
theorem dX11_feed_107 : decode cX11_feed 107 = .ok (.putfield 100, 3) := by decide +kernel
theorem dX11_feed_110 : decode cX11_feed 110 = .ok (.iinc 6 1, 3) := by decide +kernel
theorem dX11_feed_113 : decode cX11_feed 113 = .ok (.goto (-91), 3) := by decide +kernel
theorem dX11_feed_116 : decode cX11_feed 116 = .ok (.aload_n 0, 1) := by decide +kernel
theorem dX11_feed_117 : decode cX11_feed 117 = .ok (.getfield 100, 3) := by decide +kernel
theorem dX11_feed_120 : decode cX11_feed 120 = .ok (.ireturn, 1) := by decide +kernel
theorem dX11_end_0 : decode cX11_end 0 = .ok (.aload_n 0, 1) := by decide +kernel
theorem dX11_end_1 : decode cX11_end 1 = .ok (.iconst 0, 1) := by decide +kernel
theorem dX11_end_2 : decode cX11_end 2 = .ok (.putfield 1, 3) := by decide +kernel
theorem dX11_end_5 : decode cX11_end 5 = .ok (.iload_n 1, 1) := by decide +kernel
theorem dX11_end_6 : decode cX11_end 6 = .ok (.ifCond .lt 11, 3) := by decide +kernel
theorem dX11_end_9 : decode cX11_end 9 = .ok (.iload_n 1, 1) := by decide +kernel
theorem dX11_end_10 : decode cX11_end 10 = .ok (.aload_n 0, 1) := by decide +kernel
theorem dX11_end_11 : decode cX11_end 11 = .ok (.getfield 100, 3) := by decide +kernel
theorem dX11_end_14 : decode cX11_end 14 = .ok (.if_icmp .le 5, 3) := by decide +kernel
theorem dX11_end_17 : decode cX11_end 17 = .ok (.iconst (-1), 1) := by decide +kernel
theorem dX11_end_18 : decode cX11_end 18 = .ok (.ireturn, 1) := by decide +kernel
theorem dX11_end_19 : decode cX11_end 19 = .ok (.aload_n 0, 1) := by decide +kernel
theorem dX11_end_20 : decode cX11_end 20 = .ok (.iload_n 1, 1) := by decide +kernel
theorem dX11_end_21 : decode cX11_end 21 = .ok (.putfield 100, 3) := by decide +kernel
theorem dX11_end_24 : decode cX11_end 24 = .ok (.iload_n 1, 1) := by decide +kernel
theorem dX11_end_25 : decode cX11_end 25 = .ok (.ireturn, 1) := by decide +kernel
theorem dX11_takes_0 : decode cX11_takes 0 = .ok (.aload_n 0, 1) := by decide +kernel
theorem dX11_takes_1 : decode cX11_takes 1 = .ok (.aload_n 0, 1) := by decide +kernel
theorem dX11_takes_2 : decode cX11_takes 2 = .ok (.getfield 100, 3) := by decide +kernel
theorem dX11_takes_5 : decode cX11_takes 5 = .ok (.putfield 103, 3) := by decide +kernel
theorem dX11_takes_8 : decode cX11_takes 8 = .ok (.aload_n 0, 1) := by decide +kernel
theorem dX11_takes_9 : decode cX11_takes 9 = .ok (.iconst 0, 1) := by decide +kernel
theorem dX11_takes_10 : decode cX11_takes 10 = .ok (.putfield 100, 3) := by decide +kernel
theorem dX11_takes_13 : decode cX11_takes 13 = .ok (.aload_n 0, 1) := by decide +kernel
theorem dX11_takes_14 : decode cX11_takes 14 = .ok (.getfield 103, 3) := by decide +kernel
theorem dX11_takes_17 : decode cX11_takes 17 = .ok (.iload_n 1, 1) := by decide +kernel
theorem dX11_takes_18 : decode cX11_takes 18 = .ok (.iload_n 2, 1) := by decide +kernel
theorem dX11_takes_19 : decode cX11_takes 19 = .ok (.invokestatic 81, 3) := by decide +kernel
theorem dX11_takes_22 : decode cX11_takes 22 = .ok (.istore_n 3, 1) := by decide +kernel
theorem dX11_takes_23 : decode cX11_takes 23 = .ok (.iconst 0, 1) := by decide +kernel
theorem dX11_takes_24 : decode cX11_takes 24 = .ok (.istore 4, 2) := by decide +kernel
theorem dX11_takes_26 : decode cX11_takes 26 = .ok (.iload 4, 2) := by decide +kernel
theorem dX11_takes_28 : decode cX11_takes 28 = .ok (.aload_n 0, 1) := by decide +kernel
theorem dX11_takes_29 : decode cX11_takes 29 = .ok (.getfield 103, 3) := by decide +kernel
theorem dX11_takes_32 : decode cX11_takes 32 = .ok (.if_icmp .ge 61, 3) := by decide +kernel
theorem dX11_takes_35 : decode cX11_takes 35 = .ok (.iload_n 3, 1) := by decide +kernel
theorem dX11_takes_36 : decode cX11_takes 36 = .ok (.ifCond .eq 31, 3) := by decide +kernel
theorem dX11_takes_39 : decode cX11_takes 39 = .ok (.aload_n 0, 1) := by decide +kernel
theorem dX11_takes_40 : decode cX11_takes 40 = .ok (.getfield 36, 3) := by decide +kernel
theorem dX11_takes_43 : decode cX11_takes 43 = .ok (.iload 4, 2) := by decide +kernel
theorem dX11_takes_45 : decode cX11_takes 45 = .ok (.baload, 1) := by decide +kernel
theorem dX11_takes_46 : decode cX11_takes 46 = .ok (.bipush 97, 2) := by decide +kernel
theorem dX11_takes_48 : decode cX11_takes 48 = .ok (.bipush 97, 2) := by decide +kernel
theorem dX11_takes_50 : decode cX11_takes 50 = .ok (.aload_n 0, 1) := by decide +kernel
theorem dX11_takes_51 : decode cX11_takes 51 = .ok (.getfield 13, 3) := by decide +kernel
theorem dX11_takes_54 : decode cX11_takes 54 = .ok (.iadd, 1) := by decide +kernel
theorem dX11_takes_55 : decode cX11_takes 55 = .ok (.iconst 1, 1) := by decide +kernel
theorem dX11_takes_56 : decode cX11_takes 56 = .ok (.isub, 1) := by decide +kernel
theorem dX11_takes_57 : decode cX11_takes 57 = .ok (.invokestatic 81, 3) := by decide +kernel
theorem dX11_takes_60 : decode cX11_takes 60 = .ok (.ifCond .eq 7, 3) := by decide +kernel
theorem dX11_takes_63 : decode cX11_takes 63 = .ok (.iconst 1, 1) := by decide +kernel
theorem dX11_takes_64 : decode cX11_takes 64 = .ok (.goto 4, 3) := by decide +kernel
theorem dX11_takes_67 : decode cX11_takes 67 = .ok (.iconst 0, 1) := by decide +kernel
theorem dX11_takes_68 : decode cX11_takes 68 = .ok (.istore_n 3, 1) := by decide +kernel
theorem dX11_takes_69 : decode cX11_takes 69 = .ok (.aload_n 0, 1) := by decide +kernel
theorem dX11_takes_70 : decode cX11_takes 70 = .ok (.getfield 39, 3) := by decide +kernel
theorem dX11_takes_73 : decode cX11_takes 73 = .ok (.iload 4, 2) := by decide +kernel
theorem dX11_takes_75 : decode cX11_takes 75 = .ok (.aload_n 0, 1) := by decide +kernel
theorem dX11_takes_76 : decode cX11_takes 76 = .ok (.getfield 36, 3) := by decide +kernel
theorem dX11_takes_79 : decode cX11_takes 79 = .ok (.iload 4, 2) := by decide +kernel
theorem dX11_takes_81 : decode cX11_takes 81 = .ok (.baload, 1) := by decide +kernel
theorem dX11_takes_82 : decode cX11_takes 82 = .ok (.bipush 97, 2) := by decide +kernel
theorem dX11_takes_84 : decode cX11_takes 84 = .ok (.isub, 1) := by decide +kernel
theorem dX11_takes_85 : decode cX11_takes 85 = .ok (.i2b, 1) := by decide +kernel
theorem dX11_takes_86 : decode cX11_takes 86 = .ok (.bastore, 1) := by decide +kernel
theorem dX11_takes_87 : decode cX11_takes 87 = .ok (.iinc 4 1, 3) := by decide +kernel
theorem dX11_takes_90 : decode cX11_takes 90 = .ok (.goto (-64), 3) := by decide +kernel
theorem dX11_takes_93 : decode cX11_takes 93 = .ok (.iload_n 3, 1) := by decide +kernel
theorem dX11_takes_94 : decode cX11_takes 94 = .ok (.ireturn, 1) := by decide +kernel
theorem dX11_word_0 : decode cX11_word 0 = .ok (.aload_n 0, 1) := by decide +kernel
theorem dX11_word_1 : decode cX11_word 1 = .ok (.iconst 0, 1) := by decide +kernel
theorem dX11_word_2 : decode cX11_word 2 = .ok (.putfield 1, 3) := by decide +kernel
theorem dX11_word_5 : decode cX11_word 5 = .ok (.aload_n 0, 1) := by decide +kernel
theorem dX11_word_6 : decode cX11_word 6 = .ok (.getfield 85, 3) := by decide +kernel
theorem dX11_word_9 : decode cX11_word 9 = .ok (.ifCond .ne 13, 3) := by decide +kernel
theorem dX11_word_12 : decode cX11_word 12 = .ok (.aload_n 0, 1) := by decide +kernel
theorem dX11_word_13 : decode cX11_word 13 = .ok (.iconst 1, 1) := by decide +kernel
theorem dX11_word_14 : decode cX11_word 14 = .ok (.bipush 7, 2) := by decide +kernel
theorem dX11_word_16 : decode cX11_word 16 = .ok (.invokevirtual 106, 3) := by decide +kernel
theorem dX11_word_19 : decode cX11_word 19 = .ok (.goto 15, 3) := by decide +kernel
theorem dX11_word_22 : decode cX11_word 22 = .ok (.aload_n 0, 1) := by decide +kernel
theorem dX11_word_23 : decode cX11_word 23 = .ok (.aload_n 0, 1) := by decide +kernel
theorem dX11_word_24 : decode cX11_word 24 = .ok (.getfield 110, 3) := by decide +kernel
theorem dX11_word_27 : decode cX11_word 27 = .ok (.aload_n 0, 1) := by decide +kernel
theorem dX11_word_28 : decode cX11_word 28 = .ok (.getfield 110, 3) := by decide +kernel
theorem dX11_word_31 : decode cX11_word 31 = .ok (.invokevirtual 106, 3) := by decide +kernel
theorem dX11_word_34 : decode cX11_word 34 = .ok (.istore_n 1, 1) := by decide +kernel
theorem dX11_word_35 : decode cX11_word 35 = .ok (.iload_n 1, 1) := by decide +kernel
theorem dX11_word_36 : decode cX11_word 36 = .ok (.ifCond .eq 12, 3) := by decide +kernel
theorem dX11_word_39 : decode cX11_word 39 = .ok (.aload_n 0, 1) := by decide +kernel
theorem dX11_word_40 : decode cX11_word 40 = .ok (.getfield 85, 3) := by decide +kernel
theorem dX11_word_43 : decode cX11_word 43 = .ok (.bipush 8, 2) := by decide +kernel
theorem dX11_word_45 : decode cX11_word 45 = .ok (.if_icmp .ne 5, 3) := by decide +kernel
theorem dX11_word_48 : decode cX11_word 48 = .ok (.iconst (-1), 1) := by decide +kernel
theorem dX11_word_49 : decode cX11_word 49 = .ok (.ireturn, 1) := by decide +kernel
theorem dX11_word_50 : decode cX11_word 50 = .ok (.aload_n 0, 1) := by decide +kernel
theorem dX11_word_51 : decode cX11_word 51 = .ok (.aload_n 0, 1) := by decide +kernel
theorem dX11_word_52 : decode cX11_word 52 = .ok (.getfield 103, 3) := by decide +kernel
theorem dX11_word_55 : decode cX11_word 55 = .ok (.putfield 110, 3) := by decide +kernel
theorem dX11_word_58 : decode cX11_word 58 = .ok (.iconst 0, 1) := by decide +kernel
theorem dX11_word_59 : decode cX11_word 59 = .ok (.istore_n 2, 1) := by decide +kernel
theorem dX11_word_60 : decode cX11_word 60 = .ok (.iload_n 2, 1) := by decide +kernel
theorem dX11_word_61 : decode cX11_word 61 = .ok (.aload_n 0, 1) := by decide +kernel
theorem dX11_word_62 : decode cX11_word 62 = .ok (.getfield 110, 3) := by decide +kernel
theorem dX11_word_65 : decode cX11_word 65 = .ok (.if_icmp .ge 29, 3) := by decide +kernel
theorem dX11_word_68 : decode cX11_word 68 = .ok (.aload_n 0, 1) := by decide +kernel
theorem dX11_word_69 : decode cX11_word 69 = .ok (.getfield 23, 3) := by decide +kernel
theorem dX11_word_72 : decode cX11_word 72 = .ok (.bipush 7, 2) := by decide +kernel
theorem dX11_word_74 : decode cX11_word 74 = .ok (.aload_n 0, 1) := by decide +kernel
theorem dX11_word_75 : decode cX11_word 75 = .ok (.getfield 85, 3) := by decide +kernel
theorem dX11_word_78 : decode cX11_word 78 = .ok (.imul, 1) := by decide +kernel
theorem dX11_word_79 : decode cX11_word 79 = .ok (.iload_n 2, 1) := by decide +kernel
theorem dX11_word_80 : decode cX11_word 80 = .ok (.iadd, 1) := by decide +kernel
theorem dX11_word_81 : decode cX11_word 81 = .ok (.aload_n 0, 1) := by decide +kernel
theorem dX11_word_82 : decode cX11_word 82 = .ok (.getfield 39, 3) := by decide +kernel
theorem dX11_word_85 : decode cX11_word 85 = .ok (.iload_n 2, 1) := by decide +kernel
theorem dX11_word_86 : decode cX11_word 86 = .ok (.baload, 1) := by decide +kernel
theorem dX11_word_87 : decode cX11_word 87 = .ok (.bastore, 1) := by decide +kernel
theorem dX11_word_88 : decode cX11_word 88 = .ok (.iinc 2 1, 3) := by decide +kernel
theorem dX11_word_91 : decode cX11_word 91 = .ok (.goto (-31), 3) := by decide +kernel
theorem dX11_word_94 : decode cX11_word 94 = .ok (.aload_n 0, 1) := by decide +kernel
theorem dX11_word_95 : decode cX11_word 95 = .ok (.getfield 27, 3) := by decide +kernel
theorem dX11_word_98 : decode cX11_word 98 = .ok (.aload_n 0, 1) := by decide +kernel
theorem dX11_word_99 : decode cX11_word 99 = .ok (.getfield 85, 3) := by decide +kernel
theorem dX11_word_102 : decode cX11_word 102 = .ok (.iconst 1, 1) := by decide +kernel
theorem dX11_word_103 : decode cX11_word 103 = .ok (.iastore, 1) := by decide +kernel
theorem dX11_word_104 : decode cX11_word 104 = .ok (.aload_n 0, 1) := by decide +kernel
theorem dX11_word_105 : decode cX11_word 105 = .ok (.dup, 1) := by decide +kernel
theorem dX11_word_106 : decode cX11_word 106 = .ok (.getfield 85, 3) := by decide +kernel
theorem dX11_word_109 : decode cX11_word 109 = .ok (.iconst 1, 1) := by decide +kernel
theorem dX11_word_110 : decode cX11_word 110 = .ok (.iadd, 1) := by decide +kernel
theorem dX11_word_111 : decode cX11_word 111 = .ok (.putfield 85, 3) := by decide +kernel
theorem dX11_word_114 : decode cX11_word 114 = .ok (.aload_n 0, 1) := by decide +kernel
theorem dX11_word_115 : decode cX11_word 115 = .ok (.invokevirtual 91, 3) := by decide +kernel
theorem dX11_word_118 : decode cX11_word 118 = .ok (.aload_n 0, 1) := by decide +kernel
theorem dX11_word_119 : decode cX11_word 119 = .ok (.getfield 85, 3) := by decide +kernel
theorem dX11_word_122 : decode cX11_word 122 = .ok (.iconst 1, 1) := by decide +kernel
theorem dX11_word_123 : decode cX11_word 123 = .ok (.isub, 1) := by decide +kernel
theorem dX11_word_124 : decode cX11_word 124 = .ok (.ireturn, 1) := by decide +kernel
theorem dX11_text_0 : decode cX11_text 0 = .ok (.aload_n 0, 1) := by decide +kernel
theorem dX11_text_1 : decode cX11_text 1 = .ok (.iconst 0, 1) := by decide +kernel
theorem dX11_text_2 : decode cX11_text 2 = .ok (.putfield 1, 3) := by decide +kernel
theorem dX11_text_5 : decode cX11_text 5 = .ok (.aload_n 0, 1) := by decide +kernel
theorem dX11_text_6 : decode cX11_text 6 = .ok (.iconst 1, 1) := by decide +kernel
theorem dX11_text_7 : decode cX11_text 7 = .ok (.bipush 24, 2) := by decide +kernel
theorem dX11_text_9 : decode cX11_text 9 = .ok (.invokevirtual 106, 3) := by decide +kernel
theorem dX11_text_12 : decode cX11_text 12 = .ok (.ifCond .eq 11, 3) := by decide +kernel
theorem dX11_text_15 : decode cX11_text 15 = .ok (.aload_n 0, 1) := by decide +kernel
theorem dX11_text_16 : decode cX11_text 16 = .ok (.getfield 88, 3) := by decide +kernel
theorem dX11_text_19 : decode cX11_text 19 = .ok (.iconst 5, 1) := by decide +kernel
theorem dX11_text_20 : decode cX11_text 20 = .ok (.if_icmp .ne 5, 3) := by decide +kernel
theorem dX11_text_23 : decode cX11_text 23 = .ok (.iconst (-1), 1) := by decide +kernel
theorem dX11_text_24 : decode cX11_text 24 = .ok (.ireturn, 1) := by decide +kernel
theorem dX11_text_25 : decode cX11_text 25 = .ok (.iconst 0, 1) := by decide +kernel
theorem dX11_text_26 : decode cX11_text 26 = .ok (.istore_n 1, 1) := by decide +kernel
theorem dX11_text_27 : decode cX11_text 27 = .ok (.iload_n 1, 1) := by decide +kernel
theorem dX11_text_28 : decode cX11_text 28 = .ok (.aload_n 0, 1) := by decide +kernel
theorem dX11_text_29 : decode cX11_text 29 = .ok (.getfield 103, 3) := by decide +kernel
theorem dX11_text_32 : decode cX11_text 32 = .ok (.if_icmp .ge 29, 3) := by decide +kernel
theorem dX11_text_35 : decode cX11_text 35 = .ok (.aload_n 0, 1) := by decide +kernel
theorem dX11_text_36 : decode cX11_text 36 = .ok (.getfield 30, 3) := by decide +kernel
theorem dX11_text_39 : decode cX11_text 39 = .ok (.bipush 24, 2) := by decide +kernel
theorem dX11_text_41 : decode cX11_text 41 = .ok (.aload_n 0, 1) := by decide +kernel
theorem dX11_text_42 : decode cX11_text 42 = .ok (.getfield 88, 3) := by decide +kernel
theorem dX11_text_45 : decode cX11_text 45 = .ok (.imul, 1) := by decide +kernel
theorem dX11_text_46 : decode cX11_text 46 = .ok (.iload_n 1, 1) := by decide +kernel
theorem dX11_text_47 : decode cX11_text 47 = .ok (.iadd, 1) := by decide +kernel
theorem dX11_text_48 : decode cX11_text 48 = .ok (.aload_n 0, 1) := by decide +kernel
theorem dX11_text_49 : decode cX11_text 49 = .ok (.getfield 39, 3) := by decide +kernel
theorem dX11_text_52 : decode cX11_text 52 = .ok (.iload_n 1, 1) := by decide +kernel
theorem dX11_text_53 : decode cX11_text 53 = .ok (.baload, 1) := by decide +kernel
theorem dX11_text_54 : decode cX11_text 54 = .ok (.bastore, 1) := by decide +kernel
theorem dX11_text_55 : decode cX11_text 55 = .ok (.iinc 1 1, 3) := by decide +kernel
theorem dX11_text_58 : decode cX11_text 58 = .ok (.goto (-31), 3) := by decide +kernel
theorem dX11_text_61 : decode cX11_text 61 = .ok (.aload_n 0, 1) := by decide +kernel
theorem dX11_text_62 : decode cX11_text 62 = .ok (.getfield 33, 3) := by decide +kernel
theorem dX11_text_65 : decode cX11_text 65 = .ok (.aload_n 0, 1) := by decide +kernel
theorem dX11_text_66 : decode cX11_text 66 = .ok (.getfield 88, 3) := by decide +kernel
theorem dX11_text_69 : decode cX11_text 69 = .ok (.aload_n 0, 1) := by decide +kernel
theorem dX11_text_70 : decode cX11_text 70 = .ok (.getfield 103, 3) := by decide +kernel
theorem dX11_text_73 : decode cX11_text 73 = .ok (.iastore, 1) := by decide +kernel
theorem dX11_text_74 : decode cX11_text 74 = .ok (.aload_n 0, 1) := by decide +kernel
theorem dX11_text_75 : decode cX11_text 75 = .ok (.dup, 1) := by decide +kernel
theorem dX11_text_76 : decode cX11_text 76 = .ok (.getfield 88, 3) := by decide +kernel
theorem dX11_text_79 : decode cX11_text 79 = .ok (.iconst 1, 1) := by decide +kernel
theorem dX11_text_80 : decode cX11_text 80 = .ok (.iadd, 1) := by decide +kernel
theorem dX11_text_81 : decode cX11_text 81 = .ok (.putfield 88, 3) := by decide +kernel
theorem dX11_text_84 : decode cX11_text 84 = .ok (.aload_n 0, 1) := by decide +kernel
theorem dX11_text_85 : decode cX11_text 85 = .ok (.invokevirtual 91, 3) := by decide +kernel
theorem dX11_text_88 : decode cX11_text 88 = .ok (.aload_n 0, 1) := by decide +kernel
theorem dX11_text_89 : decode cX11_text 89 = .ok (.getfield 88, 3) := by decide +kernel
theorem dX11_text_92 : decode cX11_text 92 = .ok (.iconst 1, 1) := by decide +kernel
theorem dX11_text_93 : decode cX11_text 93 = .ok (.isub, 1) := by decide +kernel
theorem dX11_text_94 : decode cX11_text 94 = .ok (.ireturn, 1) := by decide +kernel
theorem dX11_isWord_0 : decode cX11_isWord 0 = .ok (.iload_n 1, 1) := by decide +kernel
theorem dX11_isWord_1 : decode cX11_isWord 1 = .ok (.ifCond .lt 15, 3) := by decide +kernel
theorem dX11_isWord_4 : decode cX11_isWord 4 = .ok (.iload_n 1, 1) := by decide +kernel
theorem dX11_isWord_5 : decode cX11_isWord 5 = .ok (.aload_n 0, 1) := by decide +kernel
theorem dX11_isWord_6 : decode cX11_isWord 6 = .ok (.getfield 85, 3) := by decide +kernel
theorem dX11_isWord_9 : decode cX11_isWord 9 = .ok (.if_icmp .ge 7, 3) := by decide +kernel
theorem dX11_isWord_12 : decode cX11_isWord 12 = .ok (.iconst 1, 1) := by decide +kernel
theorem dX11_isWord_13 : decode cX11_isWord 13 = .ok (.goto 4, 3) := by decide +kernel
theorem dX11_isWord_16 : decode cX11_isWord 16 = .ok (.iconst 0, 1) := by decide +kernel
theorem dX11_isWord_17 : decode cX11_isWord 17 = .ok (.ireturn, 1) := by decide +kernel
theorem dX11_part_0 : decode cX11_part 0 = .ok (.aload_n 0, 1) := by decide +kernel
theorem dX11_part_1 : decode cX11_part 1 = .ok (.iconst 0, 1) := by decide +kernel
theorem dX11_part_2 : decode cX11_part 2 = .ok (.putfield 1, 3) := by decide +kernel
theorem dX11_part_5 : decode cX11_part 5 = .ok (.aload_n 0, 1) := by decide +kernel
theorem dX11_part_6 : decode cX11_part 6 = .ok (.iload_n 1, 1) := by decide +kernel
theorem dX11_part_7 : decode cX11_part 7 = .ok (.invokevirtual 113, 3) := by decide +kernel
theorem dX11_part_10 : decode cX11_part 10 = .ok (.ifCond .eq 12, 3) := by decide +kernel
theorem dX11_part_13 : decode cX11_part 13 = .ok (.iload_n 2, 1) := by decide +kernel
theorem dX11_part_14 : decode cX11_part 14 = .ok (.iconst 0, 1) := by decide +kernel
theorem dX11_part_15 : decode cX11_part 15 = .ok (.iconst 2, 1) := by decide +kernel
theorem dX11_part_16 : decode cX11_part 16 = .ok (.invokestatic 81, 3) := by decide +kernel
theorem dX11_part_19 : decode cX11_part 19 = .ok (.ifCond .ne 5, 3) := by decide +kernel
theorem dX11_part_22 : decode cX11_part 22 = .ok (.iconst 0, 1) := by decide +kernel
theorem dX11_part_23 : decode cX11_part 23 = .ok (.ireturn, 1) := by decide +kernel
theorem dX11_part_24 : decode cX11_part 24 = .ok (.aload_n 0, 1) := by decide +kernel
theorem dX11_part_25 : decode cX11_part 25 = .ok (.getfield 27, 3) := by decide +kernel
theorem dX11_part_28 : decode cX11_part 28 = .ok (.iload_n 1, 1) := by decide +kernel
theorem dX11_part_29 : decode cX11_part 29 = .ok (.iload_n 2, 1) := by decide +kernel
theorem dX11_part_30 : decode cX11_part 30 = .ok (.iastore, 1) := by decide +kernel
theorem dX11_part_31 : decode cX11_part 31 = .ok (.aload_n 0, 1) := by decide +kernel
theorem dX11_part_32 : decode cX11_part 32 = .ok (.iconst 0, 1) := by decide +kernel
theorem dX11_part_33 : decode cX11_part 33 = .ok (.putfield 75, 3) := by decide +kernel
theorem dX11_part_36 : decode cX11_part 36 = .ok (.iconst 1, 1) := by decide +kernel
theorem dX11_part_37 : decode cX11_part 37 = .ok (.ireturn, 1) := by decide +kernel
theorem dX11_distance_0 : decode cX11_distance 0 = .ok (.aload_n 0, 1) := by decide +kernel
theorem dX11_distance_1 : decode cX11_distance 1 = .ok (.getfield 42, 3) := by decide +kernel
theorem dX11_distance_4 : decode cX11_distance 4 = .ok (.iconst 0, 1) := by decide +kernel
theorem dX11_distance_5 : decode cX11_distance 5 = .ok (.iconst 0, 1) := by decide +kernel
theorem dX11_distance_6 : decode cX11_distance 6 = .ok (.iastore, 1) := by decide +kernel
theorem dX11_distance_7 : decode cX11_distance 7 = .ok (.iconst 1, 1) := by decide +kernel
theorem dX11_distance_8 : decode cX11_distance 8 = .ok (.istore 6, 2) := by decide +kernel
theorem dX11_distance_10 : decode cX11_distance 10 = .ok (.iload 6, 2) := by decide +kernel
theorem dX11_distance_12 : decode cX11_distance 12 = .ok (.iload 5, 2) := by decide +kernel
theorem dX11_distance_14 : decode cX11_distance 14 = .ok (.if_icmp .gt 147, 3) := by decide +kernel
theorem dX11_distance_17 : decode cX11_distance 17 = .ok (.aload_n 0, 1) := by decide +kernel
theorem dX11_distance_18 : decode cX11_distance 18 = .ok (.getfield 42, 3) := by decide +kernel
theorem dX11_distance_21 : decode cX11_distance 21 = .ok (.iload 6, 2) := by decide +kernel
theorem dX11_distance_23 : decode cX11_distance 23 = .ok (.aload_n 0, 1) := by decide +kernel
theorem dX11_distance_24 : decode cX11_distance 24 = .ok (.getfield 42, 3) := by decide +kernel
theorem dX11_distance_27 : decode cX11_distance 27 = .ok (.iload 6, 2) := by decide +kernel
theorem dX11_distance_29 : decode cX11_distance 29 = .ok (.iconst 1, 1) := by decide +kernel
theorem dX11_distance_30 : decode cX11_distance 30 = .ok (.isub, 1) := by decide +kernel
theorem dX11_distance_31 : decode cX11_distance 31 = .ok (.iaload, 1) := by decide +kernel
theorem dX11_distance_32 : decode cX11_distance 32 = .ok (.aload_n 0, 1) := by decide +kernel
theorem dX11_distance_33 : decode cX11_distance 33 = .ok (.getfield 16, 3) := by decide +kernel
theorem dX11_distance_36 : decode cX11_distance 36 = .ok (.iconst 4, 1) := by decide +kernel
theorem dX11_distance_37 : decode cX11_distance 37 = .ok (.aload_n 1, 1) := by decide +kernel
theorem dX11_distance_38 : decode cX11_distance 38 = .ok (.iload_n 2, 1) := by decide +kernel
theorem dX11_distance_39 : decode cX11_distance 39 = .ok (.iload 6, 2) := by decide +kernel
theorem dX11_distance_41 : decode cX11_distance 41 = .ok (.iadd, 1) := by decide +kernel
theorem dX11_distance_42 : decode cX11_distance 42 = .ok (.iconst 1, 1) := by decide +kernel
theorem dX11_distance_43 : decode cX11_distance 43 = .ok (.isub, 1) := by decide +kernel
theorem dX11_distance_44 : decode cX11_distance 44 = .ok (.baload, 1) := by decide +kernel
theorem dX11_distance_45 : decode cX11_distance 45 = .ok (.imul, 1) := by decide +kernel
theorem dX11_distance_46 : decode cX11_distance 46 = .ok (.aload_n 3, 1) := by decide +kernel
theorem dX11_distance_47 : decode cX11_distance 47 = .ok (.iload 4, 2) := by decide +kernel
theorem dX11_distance_49 : decode cX11_distance 49 = .ok (.iload 6, 2) := by decide +kernel
theorem dX11_distance_51 : decode cX11_distance 51 = .ok (.iadd, 1) := by decide +kernel
theorem dX11_distance_52 : decode cX11_distance 52 = .ok (.iconst 1, 1) := by decide +kernel
theorem dX11_distance_53 : decode cX11_distance 53 = .ok (.isub, 1) := by decide +kernel
theorem dX11_distance_54 : decode cX11_distance 54 = .ok (.baload, 1) := by decide +kernel
theorem dX11_distance_55 : decode cX11_distance 55 = .ok (.iadd, 1) := by decide +kernel
theorem dX11_distance_56 : decode cX11_distance 56 = .ok (.iaload, 1) := by decide +kernel
theorem dX11_distance_57 : decode cX11_distance 57 = .ok (.iadd, 1) := by decide +kernel
theorem dX11_distance_58 : decode cX11_distance 58 = .ok (.iastore, 1) := by decide +kernel
theorem dX11_distance_59 : decode cX11_distance 59 = .ok (.iload 6, 2) := by decide +kernel
theorem dX11_distance_61 : decode cX11_distance 61 = .ok (.iconst 1, 1) := by decide +kernel
theorem dX11_distance_62 : decode cX11_distance 62 = .ok (.if_icmp .le 54, 3) := by decide +kernel
theorem dX11_distance_65 : decode cX11_distance 65 = .ok (.aload_n 0, 1) := by decide +kernel
theorem dX11_distance_66 : decode cX11_distance 66 = .ok (.getfield 94, 3) := by decide +kernel
theorem dX11_distance_69 : decode cX11_distance 69 = .ok (.ifCond .le 47, 3) := by decide +kernel
theorem dX11_distance_72 : decode cX11_distance 72 = .ok (.aload_n 1, 1) := by decide +kernel
theorem dX11_distance_73 : decode cX11_distance 73 = .ok (.iload_n 2, 1) := by decide +kernel
theorem dX11_distance_74 : decode cX11_distance 74 = .ok (.iload 6, 2) := by decide +kernel
theorem dX11_distance_76 : decode cX11_distance 76 = .ok (.iadd, 1) := by decide +kernel
theorem dX11_distance_77 : decode cX11_distance 77 = .ok (.iconst 1, 1) := by decide +kernel
theorem dX11_distance_78 : decode cX11_distance 78 = .ok (.isub, 1) := by decide +kernel
theorem dX11_distance_79 : decode cX11_distance 79 = .ok (.baload, 1) := by decide +kernel
theorem dX11_distance_80 : decode cX11_distance 80 = .ok (.aload_n 3, 1) := by decide +kernel
theorem dX11_distance_81 : decode cX11_distance 81 = .ok (.iload 4, 2) := by decide +kernel
theorem dX11_distance_83 : decode cX11_distance 83 = .ok (.iload 6, 2) := by decide +kernel
theorem dX11_distance_85 : decode cX11_distance 85 = .ok (.iadd, 1) := by decide +kernel
theorem dX11_distance_86 : decode cX11_distance 86 = .ok (.iconst 2, 1) := by decide +kernel
theorem dX11_distance_87 : decode cX11_distance 87 = .ok (.isub, 1) := by decide +kernel
theorem dX11_distance_88 : decode cX11_distance 88 = .ok (.baload, 1) := by decide +kernel
theorem dX11_distance_89 : decode cX11_distance 89 = .ok (.if_icmp .ne 27, 3) := by decide +kernel
theorem dX11_distance_92 : decode cX11_distance 92 = .ok (.aload_n 1, 1) := by decide +kernel
theorem dX11_distance_93 : decode cX11_distance 93 = .ok (.iload_n 2, 1) := by decide +kernel
theorem dX11_distance_94 : decode cX11_distance 94 = .ok (.iload 6, 2) := by decide +kernel
theorem dX11_distance_96 : decode cX11_distance 96 = .ok (.iadd, 1) := by decide +kernel
theorem dX11_distance_97 : decode cX11_distance 97 = .ok (.iconst 2, 1) := by decide +kernel
theorem dX11_distance_98 : decode cX11_distance 98 = .ok (.isub, 1) := by decide +kernel
theorem dX11_distance_99 : decode cX11_distance 99 = .ok (.baload, 1) := by decide +kernel
theorem dX11_distance_100 : decode cX11_distance 100 = .ok (.aload_n 3, 1) := by decide +kernel
theorem dX11_distance_101 : decode cX11_distance 101 = .ok (.iload 4, 2) := by decide +kernel
theorem dX11_distance_103 : decode cX11_distance 103 = .ok (.iload 6, 2) := by decide +kernel
theorem dX11_distance_105 : decode cX11_distance 105 = .ok (.iadd, 1) := by decide +kernel
theorem dX11_distance_106 : decode cX11_distance 106 = .ok (.iconst 1, 1) := by decide +kernel
theorem dX11_distance_107 : decode cX11_distance 107 = .ok (.isub, 1) := by decide +kernel
theorem dX11_distance_108 : decode cX11_distance 108 = .ok (.baload, 1) := by decide +kernel
theorem dX11_distance_109 : decode cX11_distance 109 = .ok (.if_icmp .ne 7, 3) := by decide +kernel
theorem dX11_distance_112 : decode cX11_distance 112 = .ok (.iconst 1, 1) := by decide +kernel
theorem dX11_distance_113 : decode cX11_distance 113 = .ok (.goto 4, 3) := by decide +kernel
theorem dX11_distance_116 : decode cX11_distance 116 = .ok (.iconst 0, 1) := by decide +kernel
theorem dX11_distance_117 : decode cX11_distance 117 = .ok (.istore 7, 2) := by decide +kernel
theorem dX11_distance_119 : decode cX11_distance 119 = .ok (.iload 7, 2) := by decide +kernel
theorem dX11_distance_121 : decode cX11_distance 121 = .ok (.ifCond .eq 34, 3) := by decide +kernel
theorem dX11_distance_124 : decode cX11_distance 124 = .ok (.aload_n 0, 1) := by decide +kernel
theorem dX11_distance_125 : decode cX11_distance 125 = .ok (.getfield 42, 3) := by decide +kernel
theorem dX11_distance_128 : decode cX11_distance 128 = .ok (.iload 6, 2) := by decide +kernel
theorem dX11_distance_130 : decode cX11_distance 130 = .ok (.aload_n 0, 1) := by decide +kernel
theorem dX11_distance_131 : decode cX11_distance 131 = .ok (.getfield 42, 3) := by decide +kernel
theorem dX11_distance_134 : decode cX11_distance 134 = .ok (.iload 6, 2) := by decide +kernel
theorem dX11_distance_136 : decode cX11_distance 136 = .ok (.iaload, 1) := by decide +kernel
theorem dX11_distance_137 : decode cX11_distance 137 = .ok (.aload_n 0, 1) := by decide +kernel
theorem dX11_distance_138 : decode cX11_distance 138 = .ok (.getfield 42, 3) := by decide +kernel
theorem dX11_distance_141 : decode cX11_distance 141 = .ok (.iload 6, 2) := by decide +kernel
theorem dX11_distance_143 : decode cX11_distance 143 = .ok (.iconst 2, 1) := by decide +kernel
theorem dX11_distance_144 : decode cX11_distance 144 = .ok (.isub, 1) := by decide +kernel
theorem dX11_distance_145 : decode cX11_distance 145 = .ok (.iaload, 1) := by decide +kernel
theorem dX11_distance_146 : decode cX11_distance 146 = .ok (.aload_n 0, 1) := by decide +kernel
theorem dX11_distance_147 : decode cX11_distance 147 = .ok (.getfield 94, 3) := by decide +kernel
theorem dX11_distance_150 : decode cX11_distance 150 = .ok (.iadd, 1) := by decide +kernel
theorem dX11_distance_151 : decode cX11_distance 151 = .ok (.invokestatic 117, 3) := by decide +kernel
theorem dX11_distance_154 : decode cX11_distance 154 = .ok (.iastore, 1) := by decide +kernel
theorem dX11_distance_155 : decode cX11_distance 155 = .ok (.iinc 6 1, 3) := by decide +kernel
theorem dX11_distance_158 : decode cX11_distance 158 = .ok (.goto (-148), 3) := by decide +kernel
theorem dX11_distance_161 : decode cX11_distance 161 = .ok (.aload_n 0, 1) := by decide +kernel
theorem dX11_distance_162 : decode cX11_distance 162 = .ok (.getfield 42, 3) := by decide +kernel
theorem dX11_distance_165 : decode cX11_distance 165 = .ok (.iload 5, 2) := by decide +kernel
theorem dX11_distance_167 : decode cX11_distance 167 = .ok (.iaload, 1) := by decide +kernel
theorem dX11_distance_168 : decode cX11_distance 168 = .ok (.ireturn, 1) := by decide +kernel
theorem dX11_apart_0 : decode cX11_apart 0 = .ok (.aload_n 0, 1) := by decide +kernel
theorem dX11_apart_1 : decode cX11_apart 1 = .ok (.iconst 0, 1) := by decide +kernel
theorem dX11_apart_2 : decode cX11_apart 2 = .ok (.putfield 1, 3) := by decide +kernel
theorem dX11_apart_5 : decode cX11_apart 5 = .ok (.aload_n 0, 1) := by decide +kernel
theorem dX11_apart_6 : decode cX11_apart 6 = .ok (.iload_n 1, 1) := by decide +kernel
theorem dX11_apart_7 : decode cX11_apart 7 = .ok (.invokevirtual 113, 3) := by decide +kernel
theorem dX11_apart_10 : decode cX11_apart 10 = .ok (.ifCond .eq 38, 3) := by decide +kernel
theorem dX11_apart_13 : decode cX11_apart 13 = .ok (.aload_n 0, 1) := by decide +kernel
theorem dX11_apart_14 : decode cX11_apart 14 = .ok (.iload_n 2, 1) := by decide +kernel
theorem dX11_apart_15 : decode cX11_apart 15 = .ok (.invokevirtual 113, 3) := by decide +kernel
theorem dX11_apart_18 : decode cX11_apart 18 = .ok (.ifCond .eq 30, 3) := by decide +kernel
theorem dX11_apart_21 : decode cX11_apart 21 = .ok (.aload_n 0, 1) := by decide +kernel
theorem dX11_apart_22 : decode cX11_apart 22 = .ok (.aload_n 0, 1) := by decide +kernel
theorem dX11_apart_23 : decode cX11_apart 23 = .ok (.getfield 23, 3) := by decide +kernel
theorem dX11_apart_26 : decode cX11_apart 26 = .ok (.bipush 7, 2) := by decide +kernel
theorem dX11_apart_28 : decode cX11_apart 28 = .ok (.iload_n 1, 1) := by decide +kernel
theorem dX11_apart_29 : decode cX11_apart 29 = .ok (.imul, 1) := by decide +kernel
theorem dX11_apart_30 : decode cX11_apart 30 = .ok (.aload_n 0, 1) := by decide +kernel
theorem dX11_apart_31 : decode cX11_apart 31 = .ok (.getfield 23, 3) := by decide +kernel
theorem dX11_apart_34 : decode cX11_apart 34 = .ok (.bipush 7, 2) := by decide +kernel
theorem dX11_apart_36 : decode cX11_apart 36 = .ok (.iload_n 2, 1) := by decide +kernel
theorem dX11_apart_37 : decode cX11_apart 37 = .ok (.imul, 1) := by decide +kernel
theorem dX11_apart_38 : decode cX11_apart 38 = .ok (.aload_n 0, 1) := by decide +kernel
theorem dX11_apart_39 : decode cX11_apart 39 = .ok (.getfield 110, 3) := by decide +kernel
theorem dX11_apart_42 : decode cX11_apart 42 = .ok (.invokevirtual 123, 3) := by decide +kernel
theorem dX11_apart_45 : decode cX11_apart 45 = .ok (.goto 4, 3) := by decide +kernel
theorem dX11_apart_48 : decode cX11_apart 48 = .ok (.iconst (-1), 1) := by decide +kernel
theorem dX11_apart_49 : decode cX11_apart 49 = .ok (.ireturn, 1) := by decide +kernel
theorem dX11_from_0 : decode cX11_from 0 = .ok (.aload_n 0, 1) := by decide +kernel
theorem dX11_from_1 : decode cX11_from 1 = .ok (.iconst 0, 1) := by decide +kernel
theorem dX11_from_2 : decode cX11_from 2 = .ok (.putfield 1, 3) := by decide +kernel
theorem dX11_from_5 : decode cX11_from 5 = .ok (.aload_n 0, 1) := by decide +kernel
theorem dX11_from_6 : decode cX11_from 6 = .ok (.aload_n 0, 1) := by decide +kernel
theorem dX11_from_7 : decode cX11_from 7 = .ok (.getfield 85, 3) := by decide +kernel
theorem dX11_from_10 : decode cX11_from 10 = .ok (.ifCond .ne 8, 3) := by decide +kernel
theorem dX11_from_13 : decode cX11_from 13 = .ok (.bipush 41, 2) := by decide +kernel
theorem dX11_from_15 : decode cX11_from 15 = .ok (.goto 7, 3) := by decide +kernel
theorem dX11_from_18 : decode cX11_from 18 = .ok (.aload_n 0, 1) := by decide +kernel
theorem dX11_from_19 : decode cX11_from 19 = .ok (.getfield 110, 3) := by decide +kernel
theorem dX11_from_22 : decode cX11_from 22 = .ok (.aload_n 0, 1) := by decide +kernel
theorem dX11_from_23 : decode cX11_from 23 = .ok (.getfield 110, 3) := by decide +kernel
theorem dX11_from_26 : decode cX11_from 26 = .ok (.invokevirtual 106, 3) := by decide +kernel
theorem dX11_from_29 : decode cX11_from 29 = .ok (.istore_n 2, 1) := by decide +kernel
theorem dX11_from_30 : decode cX11_from 30 = .ok (.iload_n 2, 1) := by decide +kernel
theorem dX11_from_31 : decode cX11_from 31 = .ok (.ifCond .eq 35, 3) := by decide +kernel
theorem dX11_from_34 : decode cX11_from 34 = .ok (.aload_n 0, 1) := by decide +kernel
theorem dX11_from_35 : decode cX11_from 35 = .ok (.iload_n 1, 1) := by decide +kernel
theorem dX11_from_36 : decode cX11_from 36 = .ok (.invokevirtual 113, 3) := by decide +kernel
theorem dX11_from_39 : decode cX11_from 39 = .ok (.ifCond .eq 27, 3) := by decide +kernel
theorem dX11_from_42 : decode cX11_from 42 = .ok (.aload_n 0, 1) := by decide +kernel
theorem dX11_from_43 : decode cX11_from 43 = .ok (.aload_n 0, 1) := by decide +kernel
theorem dX11_from_44 : decode cX11_from 44 = .ok (.getfield 39, 3) := by decide +kernel
theorem dX11_from_47 : decode cX11_from 47 = .ok (.iconst 0, 1) := by decide +kernel
theorem dX11_from_48 : decode cX11_from 48 = .ok (.aload_n 0, 1) := by decide +kernel
theorem dX11_from_49 : decode cX11_from 49 = .ok (.getfield 23, 3) := by decide +kernel
theorem dX11_from_52 : decode cX11_from 52 = .ok (.bipush 7, 2) := by decide +kernel
theorem dX11_from_54 : decode cX11_from 54 = .ok (.iload_n 1, 1) := by decide +kernel
theorem dX11_from_55 : decode cX11_from 55 = .ok (.imul, 1) := by decide +kernel
theorem dX11_from_56 : decode cX11_from 56 = .ok (.aload_n 0, 1) := by decide +kernel
theorem dX11_from_57 : decode cX11_from 57 = .ok (.getfield 110, 3) := by decide +kernel
theorem dX11_from_60 : decode cX11_from 60 = .ok (.invokevirtual 123, 3) := by decide +kernel
theorem dX11_from_63 : decode cX11_from 63 = .ok (.goto 4, 3) := by decide +kernel
theorem dX11_from_66 : decode cX11_from 66 = .ok (.iconst (-1), 1) := by decide +kernel
theorem dX11_from_67 : decode cX11_from 67 = .ok (.ireturn, 1) := by decide +kernel
theorem dX11_power_0 : decode cX11_power 0 = .ok (.iconst 1, 1) := by decide +kernel
theorem dX11_power_1 : decode cX11_power 1 = .ok (.istore_n 2, 1) := by decide +kernel
theorem dX11_power_2 : decode cX11_power 2 = .ok (.iconst 0, 1) := by decide +kernel
theorem dX11_power_3 : decode cX11_power 3 = .ok (.istore_n 3, 1) := by decide +kernel
theorem dX11_power_4 : decode cX11_power 4 = .ok (.iload_n 3, 1) := by decide +kernel
theorem dX11_power_5 : decode cX11_power 5 = .ok (.iload_n 1, 1) := by decide +kernel
theorem dX11_power_6 : decode cX11_power 6 = .ok (.if_icmp .ge 13, 3) := by decide +kernel
theorem dX11_power_9 : decode cX11_power 9 = .ok (.iload_n 2, 1) := by decide +kernel
theorem dX11_power_10 : decode cX11_power 10 = .ok (.iload_n 0, 1) := by decide +kernel
theorem dX11_power_11 : decode cX11_power 11 = .ok (.imul, 1) := by decide +kernel
theorem dX11_power_12 : decode cX11_power 12 = .ok (.istore_n 2, 1) := by decide +kernel
theorem dX11_power_13 : decode cX11_power 13 = .ok (.iinc 3 1, 3) := by decide +kernel
theorem dX11_power_16 : decode cX11_power 16 = .ok (.goto (-12), 3) := by decide +kernel
theorem dX11_power_19 : decode cX11_power 19 = .ok (.iload_n 2, 1) := by decide +kernel
theorem dX11_power_20 : decode cX11_power 20 = .ok (.ireturn, 1) := by decide +kernel
theorem dX11_lays_0 : decode cX11_lays 0 = .ok (.iload_n 1, 1) := by decide +kernel
theorem dX11_lays_1 : decode cX11_lays 1 = .ok (.istore_n 3, 1) := by decide +kernel
theorem dX11_lays_2 : decode cX11_lays 2 = .ok (.iload_n 2, 1) := by decide +kernel
theorem dX11_lays_3 : decode cX11_lays 3 = .ok (.iconst 1, 1) := by decide +kernel
theorem dX11_lays_4 : decode cX11_lays 4 = .ok (.isub, 1) := by decide +kernel
theorem dX11_lays_5 : decode cX11_lays 5 = .ok (.istore 4, 2) := by decide +kernel
theorem dX11_lays_7 : decode cX11_lays 7 = .ok (.iload 4, 2) := by decide +kernel
theorem dX11_lays_9 : decode cX11_lays 9 = .ok (.ifCond .lt 30, 3) := by decide +kernel
theorem dX11_lays_12 : decode cX11_lays 12 = .ok (.aload_n 0, 1) := by decide +kernel
theorem dX11_lays_13 : decode cX11_lays 13 = .ok (.getfield 49, 3) := by decide +kernel
theorem dX11_lays_16 : decode cX11_lays 16 = .ok (.iload 4, 2) := by decide +kernel
theorem dX11_lays_18 : decode cX11_lays 18 = .ok (.iload_n 3, 1) := by decide +kernel
theorem dX11_lays_19 : decode cX11_lays 19 = .ok (.aload_n 0, 1) := by decide +kernel
theorem dX11_lays_20 : decode cX11_lays 20 = .ok (.getfield 13, 3) := by decide +kernel
theorem dX11_lays_23 : decode cX11_lays 23 = .ok (.irem, 1) := by decide +kernel
theorem dX11_lays_24 : decode cX11_lays 24 = .ok (.i2b, 1) := by decide +kernel
theorem dX11_lays_25 : decode cX11_lays 25 = .ok (.bastore, 1) := by decide +kernel
theorem dX11_lays_26 : decode cX11_lays 26 = .ok (.iload_n 3, 1) := by decide +kernel
theorem dX11_lays_27 : decode cX11_lays 27 = .ok (.aload_n 0, 1) := by decide +kernel
theorem dX11_lays_28 : decode cX11_lays 28 = .ok (.getfield 13, 3) := by decide +kernel
theorem dX11_lays_31 : decode cX11_lays 31 = .ok (.idiv, 1) := by decide +kernel
theorem dX11_lays_32 : decode cX11_lays 32 = .ok (.istore_n 3, 1) := by decide +kernel
theorem dX11_lays_33 : decode cX11_lays 33 = .ok (.iinc 4 (-1), 3) := by decide +kernel
theorem dX11_lays_36 : decode cX11_lays 36 = .ok (.goto (-29), 3) := by decide +kernel
theorem dX11_lays_39 : decode cX11_lays 39 = .ok (.return_, 1) := by decide +kernel
theorem dX11_rows_0 : decode cX11_rows 0 = .ok (.aload_n 0, 1) := by decide +kernel
theorem dX11_rows_1 : decode cX11_rows 1 = .ok (.getfield 13, 3) := by decide +kernel
theorem dX11_rows_4 : decode cX11_rows 4 = .ok (.aload_n 0, 1) := by decide +kernel
theorem dX11_rows_5 : decode cX11_rows 5 = .ok (.getfield 110, 3) := by decide +kernel
theorem dX11_rows_8 : decode cX11_rows 8 = .ok (.invokestatic 127, 3) := by decide +kernel
theorem dX11_rows_11 : decode cX11_rows 11 = .ok (.ireturn, 1) := by decide +kernel
theorem dX11_knows_0 : decode cX11_knows 0 = .ok (.aload_n 0, 1) := by decide +kernel
theorem dX11_knows_1 : decode cX11_knows 1 = .ok (.getfield 71, 3) := by decide +kernel
theorem dX11_knows_4 : decode cX11_knows 4 = .ok (.ifCond .eq 4, 3) := by decide +kernel
theorem dX11_knows_7 : decode cX11_knows 7 = .ok (.return_, 1) := by decide +kernel
theorem dX11_knows_8 : decode cX11_knows 8 = .ok (.iconst 0, 1) := by decide +kernel
theorem dX11_knows_9 : decode cX11_knows 9 = .ok (.istore_n 1, 1) := by decide +kernel
theorem dX11_knows_10 : decode cX11_knows 10 = .ok (.iload_n 1, 1) := by decide +kernel
theorem dX11_knows_11 : decode cX11_knows 11 = .ok (.aload_n 0, 1) := by decide +kernel
theorem dX11_knows_12 : decode cX11_knows 12 = .ok (.invokevirtual 130, 3) := by decide +kernel
theorem dX11_knows_15 : decode cX11_knows 15 = .ok (.if_icmp .ge 67, 3) := by decide +kernel
theorem dX11_knows_18 : decode cX11_knows 18 = .ok (.aload_n 0, 1) := by decide +kernel
theorem dX11_knows_19 : decode cX11_knows 19 = .ok (.iload_n 1, 1) := by decide +kernel
theorem dX11_knows_20 : decode cX11_knows 20 = .ok (.aload_n 0, 1) := by decide +kernel
theorem dX11_knows_21 : decode cX11_knows 21 = .ok (.getfield 110, 3) := by decide +kernel
theorem dX11_knows_24 : decode cX11_knows 24 = .ok (.invokevirtual 134, 3) := by decide +kernel
theorem dX11_knows_27 : decode cX11_knows 27 = .ok (.iconst 0, 1) := by decide +kernel
theorem dX11_knows_28 : decode cX11_knows 28 = .ok (.istore_n 2, 1) := by decide +kernel
theorem dX11_knows_29 : decode cX11_knows 29 = .ok (.iload_n 2, 1) := by decide +kernel
theorem dX11_knows_30 : decode cX11_knows 30 = .ok (.aload_n 0, 1) := by decide +kernel
theorem dX11_knows_31 : decode cX11_knows 31 = .ok (.getfield 85, 3) := by decide +kernel
theorem dX11_knows_34 : decode cX11_knows 34 = .ok (.if_icmp .ge 42, 3) := by decide +kernel
theorem dX11_knows_37 : decode cX11_knows 37 = .ok (.aload_n 0, 1) := by decide +kernel
theorem dX11_knows_38 : decode cX11_knows 38 = .ok (.getfield 46, 3) := by decide +kernel
end
section
theorem dX11_knows_41 : decode cX11_knows 41 = .ok (.bipush 8, 2) := by decide +kernel
theorem dX11_knows_43 : decode cX11_knows 43 = .ok (.iload_n 1, 1) := by decide +kernel
theorem dX11_knows_44 : decode cX11_knows 44 = .ok (.imul, 1) := by decide +kernel
theorem dX11_knows_45 : decode cX11_knows 45 = .ok (.iload_n 2, 1) := by decide +kernel
theorem dX11_knows_46 : decode cX11_knows 46 = .ok (.iadd, 1) := by decide +kernel
theorem dX11_knows_47 : decode cX11_knows 47 = .ok (.aload_n 0, 1) := by decide +kernel
theorem dX11_knows_48 : decode cX11_knows 48 = .ok (.aload_n 0, 1) := by decide +kernel
theorem dX11_knows_49 : decode cX11_knows 49 = .ok (.getfield 49, 3) := by decide +kernel
theorem dX11_knows_52 : decode cX11_knows 52 = .ok (.iconst 0, 1) := by decide +kernel
theorem dX11_knows_53 : decode cX11_knows 53 = .ok (.aload_n 0, 1) := by decide +kernel
theorem dX11_knows_54 : decode cX11_knows 54 = .ok (.getfield 23, 3) := by decide +kernel
theorem dX11_knows_57 : decode cX11_knows 57 = .ok (.bipush 7, 2) := by decide +kernel
theorem dX11_knows_59 : decode cX11_knows 59 = .ok (.iload_n 2, 1) := by decide +kernel
theorem dX11_knows_60 : decode cX11_knows 60 = .ok (.imul, 1) := by decide +kernel
theorem dX11_knows_61 : decode cX11_knows 61 = .ok (.aload_n 0, 1) := by decide +kernel
theorem dX11_knows_62 : decode cX11_knows 62 = .ok (.getfield 110, 3) := by decide +kernel
theorem dX11_knows_65 : decode cX11_knows 65 = .ok (.invokevirtual 123, 3) := by decide +kernel
theorem dX11_knows_68 : decode cX11_knows 68 = .ok (.i2b, 1) := by decide +kernel
theorem dX11_knows_69 : decode cX11_knows 69 = .ok (.bastore, 1) := by decide +kernel
theorem dX11_knows_70 : decode cX11_knows 70 = .ok (.iinc 2 1, 3) := by decide +kernel
theorem dX11_knows_73 : decode cX11_knows 73 = .ok (.goto (-44), 3) := by decide +kernel
theorem dX11_knows_76 : decode cX11_knows 76 = .ok (.iinc 1 1, 3) := by decide +kernel
theorem dX11_knows_79 : decode cX11_knows 79 = .ok (.goto (-69), 3) := by decide +kernel
theorem dX11_knows_82 : decode cX11_knows 82 = .ok (.aload_n 0, 1) := by decide +kernel
theorem dX11_knows_83 : decode cX11_knows 83 = .ok (.iconst 1, 1) := by decide +kernel
theorem dX11_knows_84 : decode cX11_knows 84 = .ok (.putfield 71, 3) := by decide +kernel
theorem dX11_knows_87 : decode cX11_knows 87 = .ok (.return_, 1) := by decide +kernel
theorem dX11_isCandidate_0 : decode cX11_isCandidate 0 = .ok (.iconst 0, 1) := by decide +kernel
theorem dX11_isCandidate_1 : decode cX11_isCandidate 1 = .ok (.istore_n 2, 1) := by decide +kernel
theorem dX11_isCandidate_2 : decode cX11_isCandidate 2 = .ok (.iload_n 2, 1) := by decide +kernel
theorem dX11_isCandidate_3 : decode cX11_isCandidate 3 = .ok (.aload_n 0, 1) := by decide +kernel
theorem dX11_isCandidate_4 : decode cX11_isCandidate 4 = .ok (.getfield 85, 3) := by decide +kernel
theorem dX11_isCandidate_7 : decode cX11_isCandidate 7 = .ok (.if_icmp .ge 39, 3) := by decide +kernel
theorem dX11_isCandidate_10 : decode cX11_isCandidate 10 = .ok (.aload_n 0, 1) := by decide +kernel
theorem dX11_isCandidate_11 : decode cX11_isCandidate 11 = .ok (.getfield 27, 3) := by decide +kernel
theorem dX11_isCandidate_14 : decode cX11_isCandidate 14 = .ok (.iload_n 2, 1) := by decide +kernel
theorem dX11_isCandidate_15 : decode cX11_isCandidate 15 = .ok (.iaload, 1) := by decide +kernel
theorem dX11_isCandidate_16 : decode cX11_isCandidate 16 = .ok (.iconst 2, 1) := by decide +kernel
theorem dX11_isCandidate_17 : decode cX11_isCandidate 17 = .ok (.if_icmp .ne 23, 3) := by decide +kernel
theorem dX11_isCandidate_20 : decode cX11_isCandidate 20 = .ok (.aload_n 0, 1) := by decide +kernel
theorem dX11_isCandidate_21 : decode cX11_isCandidate 21 = .ok (.getfield 46, 3) := by decide +kernel
theorem dX11_isCandidate_24 : decode cX11_isCandidate 24 = .ok (.bipush 8, 2) := by decide +kernel
theorem dX11_isCandidate_26 : decode cX11_isCandidate 26 = .ok (.iload_n 1, 1) := by decide +kernel
theorem dX11_isCandidate_27 : decode cX11_isCandidate 27 = .ok (.imul, 1) := by decide +kernel
theorem dX11_isCandidate_28 : decode cX11_isCandidate 28 = .ok (.iload_n 2, 1) := by decide +kernel
theorem dX11_isCandidate_29 : decode cX11_isCandidate 29 = .ok (.iadd, 1) := by decide +kernel
theorem dX11_isCandidate_30 : decode cX11_isCandidate 30 = .ok (.baload, 1) := by decide +kernel
theorem dX11_isCandidate_31 : decode cX11_isCandidate 31 = .ok (.aload_n 0, 1) := by decide +kernel
theorem dX11_isCandidate_32 : decode cX11_isCandidate 32 = .ok (.getfield 97, 3) := by decide +kernel
theorem dX11_isCandidate_35 : decode cX11_isCandidate 35 = .ok (.if_icmp .ge 5, 3) := by decide +kernel
theorem dX11_isCandidate_38 : decode cX11_isCandidate 38 = .ok (.iconst 0, 1) := by decide +kernel
theorem dX11_isCandidate_39 : decode cX11_isCandidate 39 = .ok (.ireturn, 1) := by decide +kernel
theorem dX11_isCandidate_40 : decode cX11_isCandidate 40 = .ok (.iinc 2 1, 3) := by decide +kernel
theorem dX11_isCandidate_43 : decode cX11_isCandidate 43 = .ok (.goto (-41), 3) := by decide +kernel
theorem dX11_isCandidate_46 : decode cX11_isCandidate 46 = .ok (.iconst 1, 1) := by decide +kernel
theorem dX11_isCandidate_47 : decode cX11_isCandidate 47 = .ok (.ireturn, 1) := by decide +kernel
theorem dX11_many_0 : decode cX11_many 0 = .ok (.iconst 0, 1) := by decide +kernel
theorem dX11_many_1 : decode cX11_many 1 = .ok (.istore_n 2, 1) := by decide +kernel
theorem dX11_many_2 : decode cX11_many 2 = .ok (.iconst 0, 1) := by decide +kernel
theorem dX11_many_3 : decode cX11_many 3 = .ok (.istore_n 3, 1) := by decide +kernel
theorem dX11_many_4 : decode cX11_many 4 = .ok (.iload_n 3, 1) := by decide +kernel
theorem dX11_many_5 : decode cX11_many 5 = .ok (.aload_n 0, 1) := by decide +kernel
theorem dX11_many_6 : decode cX11_many 6 = .ok (.getfield 85, 3) := by decide +kernel
theorem dX11_many_9 : decode cX11_many 9 = .ok (.if_icmp .ge 22, 3) := by decide +kernel
theorem dX11_many_12 : decode cX11_many 12 = .ok (.aload_n 0, 1) := by decide +kernel
theorem dX11_many_13 : decode cX11_many 13 = .ok (.getfield 27, 3) := by decide +kernel
theorem dX11_many_16 : decode cX11_many 16 = .ok (.iload_n 3, 1) := by decide +kernel
theorem dX11_many_17 : decode cX11_many 17 = .ok (.iaload, 1) := by decide +kernel
theorem dX11_many_18 : decode cX11_many 18 = .ok (.iload_n 1, 1) := by decide +kernel
theorem dX11_many_19 : decode cX11_many 19 = .ok (.if_icmp .ne 6, 3) := by decide +kernel
theorem dX11_many_22 : decode cX11_many 22 = .ok (.iinc 2 1, 3) := by decide +kernel
theorem dX11_many_25 : decode cX11_many 25 = .ok (.iinc 3 1, 3) := by decide +kernel
theorem dX11_many_28 : decode cX11_many 28 = .ok (.goto (-24), 3) := by decide +kernel
theorem dX11_many_31 : decode cX11_many 31 = .ok (.iload_n 2, 1) := by decide +kernel
theorem dX11_many_32 : decode cX11_many 32 = .ok (.ireturn, 1) := by decide +kernel
theorem dX11_radius_0 : decode cX11_radius 0 = .ok (.iconst 0, 1) := by decide +kernel
theorem dX11_radius_1 : decode cX11_radius 1 = .ok (.istore_n 2, 1) := by decide +kernel
theorem dX11_radius_2 : decode cX11_radius 2 = .ok (.iconst 0, 1) := by decide +kernel
theorem dX11_radius_3 : decode cX11_radius 3 = .ok (.istore_n 3, 1) := by decide +kernel
theorem dX11_radius_4 : decode cX11_radius 4 = .ok (.iload_n 3, 1) := by decide +kernel
theorem dX11_radius_5 : decode cX11_radius 5 = .ok (.aload_n 0, 1) := by decide +kernel
theorem dX11_radius_6 : decode cX11_radius 6 = .ok (.getfield 85, 3) := by decide +kernel
theorem dX11_radius_9 : decode cX11_radius 9 = .ok (.if_icmp .ge 35, 3) := by decide +kernel
theorem dX11_radius_12 : decode cX11_radius 12 = .ok (.aload_n 0, 1) := by decide +kernel
theorem dX11_radius_13 : decode cX11_radius 13 = .ok (.getfield 27, 3) := by decide +kernel
theorem dX11_radius_16 : decode cX11_radius 16 = .ok (.iload_n 3, 1) := by decide +kernel
theorem dX11_radius_17 : decode cX11_radius 17 = .ok (.iaload, 1) := by decide +kernel
theorem dX11_radius_18 : decode cX11_radius 18 = .ok (.iconst 1, 1) := by decide +kernel
theorem dX11_radius_19 : decode cX11_radius 19 = .ok (.if_icmp .ne 19, 3) := by decide +kernel
theorem dX11_radius_22 : decode cX11_radius 22 = .ok (.iload_n 2, 1) := by decide +kernel
theorem dX11_radius_23 : decode cX11_radius 23 = .ok (.aload_n 0, 1) := by decide +kernel
theorem dX11_radius_24 : decode cX11_radius 24 = .ok (.getfield 46, 3) := by decide +kernel
theorem dX11_radius_27 : decode cX11_radius 27 = .ok (.bipush 8, 2) := by decide +kernel
theorem dX11_radius_29 : decode cX11_radius 29 = .ok (.iload_n 1, 1) := by decide +kernel
theorem dX11_radius_30 : decode cX11_radius 30 = .ok (.imul, 1) := by decide +kernel
theorem dX11_radius_31 : decode cX11_radius 31 = .ok (.iload_n 3, 1) := by decide +kernel
theorem dX11_radius_32 : decode cX11_radius 32 = .ok (.iadd, 1) := by decide +kernel
theorem dX11_radius_33 : decode cX11_radius 33 = .ok (.baload, 1) := by decide +kernel
theorem dX11_radius_34 : decode cX11_radius 34 = .ok (.invokestatic 138, 3) := by decide +kernel
theorem dX11_radius_37 : decode cX11_radius 37 = .ok (.istore_n 2, 1) := by decide +kernel
theorem dX11_radius_38 : decode cX11_radius 38 = .ok (.iinc 3 1, 3) := by decide +kernel
theorem dX11_radius_41 : decode cX11_radius 41 = .ok (.goto (-37), 3) := by decide +kernel
theorem dX11_radius_44 : decode cX11_radius 44 = .ok (.iload_n 2, 1) := by decide +kernel
theorem dX11_radius_45 : decode cX11_radius 45 = .ok (.ireturn, 1) := by decide +kernel
theorem dX11_radiusBut_0 : decode cX11_radiusBut 0 = .ok (.iconst 0, 1) := by decide +kernel
theorem dX11_radiusBut_1 : decode cX11_radiusBut 1 = .ok (.istore_n 3, 1) := by decide +kernel
theorem dX11_radiusBut_2 : decode cX11_radiusBut 2 = .ok (.iconst 0, 1) := by decide +kernel
theorem dX11_radiusBut_3 : decode cX11_radiusBut 3 = .ok (.istore 4, 2) := by decide +kernel
theorem dX11_radiusBut_5 : decode cX11_radiusBut 5 = .ok (.iload 4, 2) := by decide +kernel
theorem dX11_radiusBut_7 : decode cX11_radiusBut 7 = .ok (.aload_n 0, 1) := by decide +kernel
theorem dX11_radiusBut_8 : decode cX11_radiusBut 8 = .ok (.getfield 85, 3) := by decide +kernel
theorem dX11_radiusBut_11 : decode cX11_radiusBut 11 = .ok (.if_icmp .ge 150, 3) := by decide +kernel
theorem dX11_radiusBut_14 : decode cX11_radiusBut 14 = .ok (.aload_n 0, 1) := by decide +kernel
theorem dX11_radiusBut_15 : decode cX11_radiusBut 15 = .ok (.getfield 27, 3) := by decide +kernel
theorem dX11_radiusBut_18 : decode cX11_radiusBut 18 = .ok (.iload 4, 2) := by decide +kernel
theorem dX11_radiusBut_20 : decode cX11_radiusBut 20 = .ok (.iaload, 1) := by decide +kernel
theorem dX11_radiusBut_21 : decode cX11_radiusBut 21 = .ok (.iconst 1, 1) := by decide +kernel
theorem dX11_radiusBut_22 : decode cX11_radiusBut 22 = .ok (.if_icmp .eq 6, 3) := by decide +kernel
theorem dX11_radiusBut_25 : decode cX11_radiusBut 25 = .ok (.goto 130, 3) := by decide +kernel
theorem dX11_radiusBut_28 : decode cX11_radiusBut 28 = .ok (.iconst 0, 1) := by decide +kernel
theorem dX11_radiusBut_29 : decode cX11_radiusBut 29 = .ok (.istore 5, 2) := by decide +kernel
theorem dX11_radiusBut_31 : decode cX11_radiusBut 31 = .ok (.iconst 0, 1) := by decide +kernel
theorem dX11_radiusBut_32 : decode cX11_radiusBut 32 = .ok (.istore 6, 2) := by decide +kernel
theorem dX11_radiusBut_34 : decode cX11_radiusBut 34 = .ok (.iload 6, 2) := by decide +kernel
theorem dX11_radiusBut_36 : decode cX11_radiusBut 36 = .ok (.aload_n 0, 1) := by decide +kernel
theorem dX11_radiusBut_37 : decode cX11_radiusBut 37 = .ok (.getfield 85, 3) := by decide +kernel
theorem dX11_radiusBut_40 : decode cX11_radiusBut 40 = .ok (.if_icmp .ge 96, 3) := by decide +kernel
theorem dX11_radiusBut_43 : decode cX11_radiusBut 43 = .ok (.aload_n 0, 1) := by decide +kernel
theorem dX11_radiusBut_44 : decode cX11_radiusBut 44 = .ok (.getfield 27, 3) := by decide +kernel
theorem dX11_radiusBut_47 : decode cX11_radiusBut 47 = .ok (.iload 6, 2) := by decide +kernel
theorem dX11_radiusBut_49 : decode cX11_radiusBut 49 = .ok (.iaload, 1) := by decide +kernel
theorem dX11_radiusBut_50 : decode cX11_radiusBut 50 = .ok (.iconst 1, 1) := by decide +kernel
theorem dX11_radiusBut_51 : decode cX11_radiusBut 51 = .ok (.if_icmp .ne 68, 3) := by decide +kernel
theorem dX11_radiusBut_54 : decode cX11_radiusBut 54 = .ok (.aload_n 0, 1) := by decide +kernel
theorem dX11_radiusBut_55 : decode cX11_radiusBut 55 = .ok (.getfield 46, 3) := by decide +kernel
theorem dX11_radiusBut_58 : decode cX11_radiusBut 58 = .ok (.bipush 8, 2) := by decide +kernel
theorem dX11_radiusBut_60 : decode cX11_radiusBut 60 = .ok (.iload_n 1, 1) := by decide +kernel
theorem dX11_radiusBut_61 : decode cX11_radiusBut 61 = .ok (.imul, 1) := by decide +kernel
theorem dX11_radiusBut_62 : decode cX11_radiusBut 62 = .ok (.iload 6, 2) := by decide +kernel
theorem dX11_radiusBut_64 : decode cX11_radiusBut 64 = .ok (.iadd, 1) := by decide +kernel
theorem dX11_radiusBut_65 : decode cX11_radiusBut 65 = .ok (.baload, 1) := by decide +kernel
theorem dX11_radiusBut_66 : decode cX11_radiusBut 66 = .ok (.aload_n 0, 1) := by decide +kernel
theorem dX11_radiusBut_67 : decode cX11_radiusBut 67 = .ok (.getfield 46, 3) := by decide +kernel
theorem dX11_radiusBut_70 : decode cX11_radiusBut 70 = .ok (.bipush 8, 2) := by decide +kernel
theorem dX11_radiusBut_72 : decode cX11_radiusBut 72 = .ok (.iload_n 1, 1) := by decide +kernel
theorem dX11_radiusBut_73 : decode cX11_radiusBut 73 = .ok (.imul, 1) := by decide +kernel
theorem dX11_radiusBut_74 : decode cX11_radiusBut 74 = .ok (.iload 4, 2) := by decide +kernel
theorem dX11_radiusBut_76 : decode cX11_radiusBut 76 = .ok (.iadd, 1) := by decide +kernel
theorem dX11_radiusBut_77 : decode cX11_radiusBut 77 = .ok (.baload, 1) := by decide +kernel
theorem dX11_radiusBut_78 : decode cX11_radiusBut 78 = .ok (.if_icmp .gt 37, 3) := by decide +kernel
theorem dX11_radiusBut_81 : decode cX11_radiusBut 81 = .ok (.aload_n 0, 1) := by decide +kernel
theorem dX11_radiusBut_82 : decode cX11_radiusBut 82 = .ok (.getfield 46, 3) := by decide +kernel
theorem dX11_radiusBut_85 : decode cX11_radiusBut 85 = .ok (.bipush 8, 2) := by decide +kernel
theorem dX11_radiusBut_87 : decode cX11_radiusBut 87 = .ok (.iload_n 1, 1) := by decide +kernel
theorem dX11_radiusBut_88 : decode cX11_radiusBut 88 = .ok (.imul, 1) := by decide +kernel
theorem dX11_radiusBut_89 : decode cX11_radiusBut 89 = .ok (.iload 6, 2) := by decide +kernel
theorem dX11_radiusBut_91 : decode cX11_radiusBut 91 = .ok (.iadd, 1) := by decide +kernel
theorem dX11_radiusBut_92 : decode cX11_radiusBut 92 = .ok (.baload, 1) := by decide +kernel
theorem dX11_radiusBut_93 : decode cX11_radiusBut 93 = .ok (.aload_n 0, 1) := by decide +kernel
theorem dX11_radiusBut_94 : decode cX11_radiusBut 94 = .ok (.getfield 46, 3) := by decide +kernel
theorem dX11_radiusBut_97 : decode cX11_radiusBut 97 = .ok (.bipush 8, 2) := by decide +kernel
theorem dX11_radiusBut_99 : decode cX11_radiusBut 99 = .ok (.iload_n 1, 1) := by decide +kernel
theorem dX11_radiusBut_100 : decode cX11_radiusBut 100 = .ok (.imul, 1) := by decide +kernel
theorem dX11_radiusBut_101 : decode cX11_radiusBut 101 = .ok (.iload 4, 2) := by decide +kernel
theorem dX11_radiusBut_103 : decode cX11_radiusBut 103 = .ok (.iadd, 1) := by decide +kernel
theorem dX11_radiusBut_104 : decode cX11_radiusBut 104 = .ok (.baload, 1) := by decide +kernel
theorem dX11_radiusBut_105 : decode cX11_radiusBut 105 = .ok (.if_icmp .ne 14, 3) := by decide +kernel
theorem dX11_radiusBut_108 : decode cX11_radiusBut 108 = .ok (.iload 6, 2) := by decide +kernel
theorem dX11_radiusBut_110 : decode cX11_radiusBut 110 = .ok (.iload 4, 2) := by decide +kernel
theorem dX11_radiusBut_112 : decode cX11_radiusBut 112 = .ok (.if_icmp .ge 7, 3) := by decide +kernel
theorem dX11_radiusBut_115 : decode cX11_radiusBut 115 = .ok (.iconst 1, 1) := by decide +kernel
theorem dX11_radiusBut_116 : decode cX11_radiusBut 116 = .ok (.goto 4, 3) := by decide +kernel
theorem dX11_radiusBut_119 : decode cX11_radiusBut 119 = .ok (.iconst 0, 1) := by decide +kernel
theorem dX11_radiusBut_120 : decode cX11_radiusBut 120 = .ok (.istore 7, 2) := by decide +kernel
theorem dX11_radiusBut_122 : decode cX11_radiusBut 122 = .ok (.iload 7, 2) := by decide +kernel
theorem dX11_radiusBut_124 : decode cX11_radiusBut 124 = .ok (.ifCond .eq 6, 3) := by decide +kernel
theorem dX11_radiusBut_127 : decode cX11_radiusBut 127 = .ok (.iinc 5 1, 3) := by decide +kernel
theorem dX11_radiusBut_130 : decode cX11_radiusBut 130 = .ok (.iinc 6 1, 3) := by decide +kernel
theorem dX11_radiusBut_133 : decode cX11_radiusBut 133 = .ok (.goto (-99), 3) := by decide +kernel
theorem dX11_radiusBut_136 : decode cX11_radiusBut 136 = .ok (.iload 5, 2) := by decide +kernel
theorem dX11_radiusBut_138 : decode cX11_radiusBut 138 = .ok (.iload_n 2, 1) := by decide +kernel
theorem dX11_radiusBut_139 : decode cX11_radiusBut 139 = .ok (.if_icmp .ne 16, 3) := by decide +kernel
theorem dX11_radiusBut_142 : decode cX11_radiusBut 142 = .ok (.aload_n 0, 1) := by decide +kernel
theorem dX11_radiusBut_143 : decode cX11_radiusBut 143 = .ok (.getfield 46, 3) := by decide +kernel
theorem dX11_radiusBut_146 : decode cX11_radiusBut 146 = .ok (.bipush 8, 2) := by decide +kernel
theorem dX11_radiusBut_148 : decode cX11_radiusBut 148 = .ok (.iload_n 1, 1) := by decide +kernel
theorem dX11_radiusBut_149 : decode cX11_radiusBut 149 = .ok (.imul, 1) := by decide +kernel
theorem dX11_radiusBut_150 : decode cX11_radiusBut 150 = .ok (.iload 4, 2) := by decide +kernel
theorem dX11_radiusBut_152 : decode cX11_radiusBut 152 = .ok (.iadd, 1) := by decide +kernel
theorem dX11_radiusBut_153 : decode cX11_radiusBut 153 = .ok (.baload, 1) := by decide +kernel
theorem dX11_radiusBut_154 : decode cX11_radiusBut 154 = .ok (.istore_n 3, 1) := by decide +kernel
theorem dX11_radiusBut_155 : decode cX11_radiusBut 155 = .ok (.iinc 4 1, 3) := by decide +kernel
theorem dX11_radiusBut_158 : decode cX11_radiusBut 158 = .ok (.goto (-153), 3) := by decide +kernel
theorem dX11_radiusBut_161 : decode cX11_radiusBut 161 = .ok (.iload_n 3, 1) := by decide +kernel
theorem dX11_radiusBut_162 : decode cX11_radiusBut 162 = .ok (.ireturn, 1) := by decide +kernel
theorem dX11_nearest_0 : decode cX11_nearest 0 = .ok (.aload_n 0, 1) := by decide +kernel
theorem dX11_nearest_1 : decode cX11_nearest 1 = .ok (.iconst 1, 1) := by decide +kernel
theorem dX11_nearest_2 : decode cX11_nearest 2 = .ok (.invokevirtual 141, 3) := by decide +kernel
theorem dX11_nearest_5 : decode cX11_nearest 5 = .ok (.ifCond .ne 5, 3) := by decide +kernel
theorem dX11_nearest_8 : decode cX11_nearest 8 = .ok (.iconst (-1), 1) := by decide +kernel
theorem dX11_nearest_9 : decode cX11_nearest 9 = .ok (.ireturn, 1) := by decide +kernel
theorem dX11_nearest_10 : decode cX11_nearest 10 = .ok (.aload_n 0, 1) := by decide +kernel
theorem dX11_nearest_11 : decode cX11_nearest 11 = .ok (.invokevirtual 145, 3) := by decide +kernel
theorem dX11_nearest_14 : decode cX11_nearest 14 = .ok (.iconst (-1), 1) := by decide +kernel
theorem dX11_nearest_15 : decode cX11_nearest 15 = .ok (.istore_n 2, 1) := by decide +kernel
theorem dX11_nearest_16 : decode cX11_nearest 16 = .ok (.iconst 0, 1) := by decide +kernel
theorem dX11_nearest_17 : decode cX11_nearest 17 = .ok (.istore_n 3, 1) := by decide +kernel
theorem dX11_nearest_18 : decode cX11_nearest 18 = .ok (.iconst 0, 1) := by decide +kernel
theorem dX11_nearest_19 : decode cX11_nearest 19 = .ok (.istore 4, 2) := by decide +kernel
theorem dX11_nearest_21 : decode cX11_nearest 21 = .ok (.iload 4, 2) := by decide +kernel
theorem dX11_nearest_23 : decode cX11_nearest 23 = .ok (.aload_n 0, 1) := by decide +kernel
theorem dX11_nearest_24 : decode cX11_nearest 24 = .ok (.invokevirtual 130, 3) := by decide +kernel
theorem dX11_nearest_27 : decode cX11_nearest 27 = .ok (.if_icmp .ge 63, 3) := by decide +kernel
theorem dX11_nearest_30 : decode cX11_nearest 30 = .ok (.aload_n 0, 1) := by decide +kernel
theorem dX11_nearest_31 : decode cX11_nearest 31 = .ok (.iload 4, 2) := by decide +kernel
theorem dX11_nearest_33 : decode cX11_nearest 33 = .ok (.invokevirtual 148, 3) := by decide +kernel
theorem dX11_nearest_36 : decode cX11_nearest 36 = .ok (.ifCond .ne 6, 3) := by decide +kernel
theorem dX11_nearest_39 : decode cX11_nearest 39 = .ok (.goto 45, 3) := by decide +kernel
theorem dX11_nearest_42 : decode cX11_nearest 42 = .ok (.iload_n 1, 1) := by decide +kernel
theorem dX11_nearest_43 : decode cX11_nearest 43 = .ok (.ifCond .ne 12, 3) := by decide +kernel
theorem dX11_nearest_46 : decode cX11_nearest 46 = .ok (.aload_n 0, 1) := by decide +kernel
theorem dX11_nearest_47 : decode cX11_nearest 47 = .ok (.iload 4, 2) := by decide +kernel
theorem dX11_nearest_49 : decode cX11_nearest 49 = .ok (.invokevirtual 151, 3) := by decide +kernel
theorem dX11_nearest_52 : decode cX11_nearest 52 = .ok (.goto 10, 3) := by decide +kernel
theorem dX11_nearest_55 : decode cX11_nearest 55 = .ok (.aload_n 0, 1) := by decide +kernel
theorem dX11_nearest_56 : decode cX11_nearest 56 = .ok (.iload 4, 2) := by decide +kernel
theorem dX11_nearest_58 : decode cX11_nearest 58 = .ok (.iload_n 1, 1) := by decide +kernel
theorem dX11_nearest_59 : decode cX11_nearest 59 = .ok (.invokevirtual 154, 3) := by decide +kernel
theorem dX11_nearest_62 : decode cX11_nearest 62 = .ok (.istore 5, 2) := by decide +kernel
theorem dX11_nearest_64 : decode cX11_nearest 64 = .ok (.iload_n 2, 1) := by decide +kernel
theorem dX11_nearest_65 : decode cX11_nearest 65 = .ok (.iconst (-1), 1) := by decide +kernel
theorem dX11_nearest_66 : decode cX11_nearest 66 = .ok (.if_icmp .eq 12, 3) := by decide +kernel
theorem dX11_nearest_69 : decode cX11_nearest 69 = .ok (.iload 5, 2) := by decide +kernel
theorem dX11_nearest_71 : decode cX11_nearest 71 = .ok (.iload_n 3, 1) := by decide +kernel
theorem dX11_nearest_72 : decode cX11_nearest 72 = .ok (.if_icmp .lt 6, 3) := by decide +kernel
theorem dX11_nearest_75 : decode cX11_nearest 75 = .ok (.goto 9, 3) := by decide +kernel
theorem dX11_nearest_78 : decode cX11_nearest 78 = .ok (.iload 4, 2) := by decide +kernel
theorem dX11_nearest_80 : decode cX11_nearest 80 = .ok (.istore_n 2, 1) := by decide +kernel
theorem dX11_nearest_81 : decode cX11_nearest 81 = .ok (.iload 5, 2) := by decide +kernel
theorem dX11_nearest_83 : decode cX11_nearest 83 = .ok (.istore_n 3, 1) := by decide +kernel
theorem dX11_nearest_84 : decode cX11_nearest 84 = .ok (.iinc 4 1, 3) := by decide +kernel
theorem dX11_nearest_87 : decode cX11_nearest 87 = .ok (.goto (-66), 3) := by decide +kernel
theorem dX11_nearest_90 : decode cX11_nearest 90 = .ok (.iload_n 2, 1) := by decide +kernel
theorem dX11_nearest_91 : decode cX11_nearest 91 = .ok (.ireturn, 1) := by decide +kernel
theorem dX11_letterOf_0 : decode cX11_letterOf 0 = .ok (.iload_n 1, 1) := by decide +kernel
theorem dX11_letterOf_1 : decode cX11_letterOf 1 = .ok (.iconst (-1), 1) := by decide +kernel
theorem dX11_letterOf_2 : decode cX11_letterOf 2 = .ok (.if_icmp .eq 15, 3) := by decide +kernel
theorem dX11_letterOf_5 : decode cX11_letterOf 5 = .ok (.iload_n 2, 1) := by decide +kernel
theorem dX11_letterOf_6 : decode cX11_letterOf 6 = .ok (.ifCond .lt 11, 3) := by decide +kernel
theorem dX11_letterOf_9 : decode cX11_letterOf 9 = .ok (.iload_n 2, 1) := by decide +kernel
theorem dX11_letterOf_10 : decode cX11_letterOf 10 = .ok (.aload_n 0, 1) := by decide +kernel
theorem dX11_letterOf_11 : decode cX11_letterOf 11 = .ok (.getfield 110, 3) := by decide +kernel
theorem dX11_letterOf_14 : decode cX11_letterOf 14 = .ok (.if_icmp .lt 5, 3) := by decide +kernel
theorem dX11_letterOf_17 : decode cX11_letterOf 17 = .ok (.iconst (-1), 1) := by decide +kernel
theorem dX11_letterOf_18 : decode cX11_letterOf 18 = .ok (.ireturn, 1) := by decide +kernel
theorem dX11_letterOf_19 : decode cX11_letterOf 19 = .ok (.aload_n 0, 1) := by decide +kernel
theorem dX11_letterOf_20 : decode cX11_letterOf 20 = .ok (.iload_n 1, 1) := by decide +kernel
theorem dX11_letterOf_21 : decode cX11_letterOf 21 = .ok (.aload_n 0, 1) := by decide +kernel
theorem dX11_letterOf_22 : decode cX11_letterOf 22 = .ok (.getfield 110, 3) := by decide +kernel
theorem dX11_letterOf_25 : decode cX11_letterOf 25 = .ok (.invokevirtual 134, 3) := by decide +kernel
theorem dX11_letterOf_28 : decode cX11_letterOf 28 = .ok (.aload_n 0, 1) := by decide +kernel
theorem dX11_letterOf_29 : decode cX11_letterOf 29 = .ok (.getfield 49, 3) := by decide +kernel
theorem dX11_letterOf_32 : decode cX11_letterOf 32 = .ok (.iload_n 2, 1) := by decide +kernel
theorem dX11_letterOf_33 : decode cX11_letterOf 33 = .ok (.baload, 1) := by decide +kernel
theorem dX11_letterOf_34 : decode cX11_letterOf 34 = .ok (.ireturn, 1) := by decide +kernel
theorem dX11_centre_0 : decode cX11_centre 0 = .ok (.aload_n 0, 1) := by decide +kernel
theorem dX11_centre_1 : decode cX11_centre 1 = .ok (.iconst 0, 1) := by decide +kernel
theorem dX11_centre_2 : decode cX11_centre 2 = .ok (.putfield 1, 3) := by decide +kernel
theorem dX11_centre_5 : decode cX11_centre 5 = .ok (.aload_n 0, 1) := by decide +kernel
theorem dX11_centre_6 : decode cX11_centre 6 = .ok (.iconst 0, 1) := by decide +kernel
theorem dX11_centre_7 : decode cX11_centre 7 = .ok (.invokevirtual 157, 3) := by decide +kernel
theorem dX11_centre_10 : decode cX11_centre 10 = .ok (.istore_n 1, 1) := by decide +kernel
theorem dX11_centre_11 : decode cX11_centre 11 = .ok (.iload_n 1, 1) := by decide +kernel
theorem dX11_centre_12 : decode cX11_centre 12 = .ok (.iconst (-1), 1) := by decide +kernel
theorem dX11_centre_13 : decode cX11_centre 13 = .ok (.if_icmp .ne 7, 3) := by decide +kernel
theorem dX11_centre_16 : decode cX11_centre 16 = .ok (.iconst (-1), 1) := by decide +kernel
theorem dX11_centre_17 : decode cX11_centre 17 = .ok (.goto 8, 3) := by decide +kernel
theorem dX11_centre_20 : decode cX11_centre 20 = .ok (.aload_n 0, 1) := by decide +kernel
theorem dX11_centre_21 : decode cX11_centre 21 = .ok (.iload_n 1, 1) := by decide +kernel
theorem dX11_centre_22 : decode cX11_centre 22 = .ok (.invokevirtual 151, 3) := by decide +kernel
theorem dX11_centre_25 : decode cX11_centre 25 = .ok (.ireturn, 1) := by decide +kernel
theorem dX11_centreAt_0 : decode cX11_centreAt 0 = .ok (.aload_n 0, 1) := by decide +kernel
theorem dX11_centreAt_1 : decode cX11_centreAt 1 = .ok (.iconst 0, 1) := by decide +kernel
theorem dX11_centreAt_2 : decode cX11_centreAt 2 = .ok (.putfield 1, 3) := by decide +kernel
theorem dX11_centreAt_5 : decode cX11_centreAt 5 = .ok (.aload_n 0, 1) := by decide +kernel
theorem dX11_centreAt_6 : decode cX11_centreAt 6 = .ok (.aload_n 0, 1) := by decide +kernel
theorem dX11_centreAt_7 : decode cX11_centreAt 7 = .ok (.iconst 0, 1) := by decide +kernel
theorem dX11_centreAt_8 : decode cX11_centreAt 8 = .ok (.invokevirtual 157, 3) := by decide +kernel
theorem dX11_centreAt_11 : decode cX11_centreAt 11 = .ok (.iload_n 1, 1) := by decide +kernel
theorem dX11_centreAt_12 : decode cX11_centreAt 12 = .ok (.invokevirtual 160, 3) := by decide +kernel
theorem dX11_centreAt_15 : decode cX11_centreAt 15 = .ok (.ireturn, 1) := by decide +kernel
theorem dX11_without_0 : decode cX11_without 0 = .ok (.aload_n 0, 1) := by decide +kernel
theorem dX11_without_1 : decode cX11_without 1 = .ok (.iconst 0, 1) := by decide +kernel
theorem dX11_without_2 : decode cX11_without 2 = .ok (.putfield 1, 3) := by decide +kernel
theorem dX11_without_5 : decode cX11_without 5 = .ok (.iload_n 1, 1) := by decide +kernel
theorem dX11_without_6 : decode cX11_without 6 = .ok (.iconst 0, 1) := by decide +kernel
theorem dX11_without_7 : decode cX11_without 7 = .ok (.bipush 7, 2) := by decide +kernel
theorem dX11_without_9 : decode cX11_without 9 = .ok (.invokestatic 81, 3) := by decide +kernel
theorem dX11_without_12 : decode cX11_without 12 = .ok (.ifCond .eq 11, 3) := by decide +kernel
theorem dX11_without_15 : decode cX11_without 15 = .ok (.aload_n 0, 1) := by decide +kernel
theorem dX11_without_16 : decode cX11_without 16 = .ok (.iload_n 1, 1) := by decide +kernel
theorem dX11_without_17 : decode cX11_without 17 = .ok (.invokevirtual 157, 3) := by decide +kernel
theorem dX11_without_20 : decode cX11_without 20 = .ok (.goto 4, 3) := by decide +kernel
theorem dX11_without_23 : decode cX11_without 23 = .ok (.iconst (-1), 1) := by decide +kernel
theorem dX11_without_24 : decode cX11_without 24 = .ok (.istore_n 2, 1) := by decide +kernel
theorem dX11_without_25 : decode cX11_without 25 = .ok (.iload_n 2, 1) := by decide +kernel
theorem dX11_without_26 : decode cX11_without 26 = .ok (.iconst (-1), 1) := by decide +kernel
theorem dX11_without_27 : decode cX11_without 27 = .ok (.if_icmp .ne 7, 3) := by decide +kernel
theorem dX11_without_30 : decode cX11_without 30 = .ok (.iconst (-1), 1) := by decide +kernel
theorem dX11_without_31 : decode cX11_without 31 = .ok (.goto 9, 3) := by decide +kernel
theorem dX11_without_34 : decode cX11_without 34 = .ok (.aload_n 0, 1) := by decide +kernel
theorem dX11_without_35 : decode cX11_without 35 = .ok (.iload_n 2, 1) := by decide +kernel
theorem dX11_without_36 : decode cX11_without 36 = .ok (.iload_n 1, 1) := by decide +kernel
theorem dX11_without_37 : decode cX11_without 37 = .ok (.invokevirtual 154, 3) := by decide +kernel
theorem dX11_without_40 : decode cX11_without 40 = .ok (.ireturn, 1) := by decide +kernel
theorem dX11_leftOut_0 : decode cX11_leftOut 0 = .ok (.aload_n 0, 1) := by decide +kernel
theorem dX11_leftOut_1 : decode cX11_leftOut 1 = .ok (.iconst 0, 1) := by decide +kernel
theorem dX11_leftOut_2 : decode cX11_leftOut 2 = .ok (.putfield 1, 3) := by decide +kernel
theorem dX11_leftOut_5 : decode cX11_leftOut 5 = .ok (.iload_n 1, 1) := by decide +kernel
theorem dX11_leftOut_6 : decode cX11_leftOut 6 = .ok (.iconst 0, 1) := by decide +kernel
theorem dX11_leftOut_7 : decode cX11_leftOut 7 = .ok (.bipush 7, 2) := by decide +kernel
theorem dX11_leftOut_9 : decode cX11_leftOut 9 = .ok (.invokestatic 81, 3) := by decide +kernel
theorem dX11_leftOut_12 : decode cX11_leftOut 12 = .ok (.ifCond .eq 11, 3) := by decide +kernel
theorem dX11_leftOut_15 : decode cX11_leftOut 15 = .ok (.aload_n 0, 1) := by decide +kernel
theorem dX11_leftOut_16 : decode cX11_leftOut 16 = .ok (.iload_n 1, 1) := by decide +kernel
theorem dX11_leftOut_17 : decode cX11_leftOut 17 = .ok (.invokevirtual 157, 3) := by decide +kernel
theorem dX11_leftOut_20 : decode cX11_leftOut 20 = .ok (.goto 4, 3) := by decide +kernel
theorem dX11_leftOut_23 : decode cX11_leftOut 23 = .ok (.iconst (-1), 1) := by decide +kernel
theorem dX11_leftOut_24 : decode cX11_leftOut 24 = .ok (.istore_n 2, 1) := by decide +kernel
theorem dX11_leftOut_25 : decode cX11_leftOut 25 = .ok (.iload_n 2, 1) := by decide +kernel
theorem dX11_leftOut_26 : decode cX11_leftOut 26 = .ok (.iconst (-1), 1) := by decide +kernel
theorem dX11_leftOut_27 : decode cX11_leftOut 27 = .ok (.if_icmp .ne 5, 3) := by decide +kernel
theorem dX11_leftOut_30 : decode cX11_leftOut 30 = .ok (.iconst (-1), 1) := by decide +kernel
theorem dX11_leftOut_31 : decode cX11_leftOut 31 = .ok (.ireturn, 1) := by decide +kernel
theorem dX11_leftOut_32 : decode cX11_leftOut 32 = .ok (.aload_n 0, 1) := by decide +kernel
theorem dX11_leftOut_33 : decode cX11_leftOut 33 = .ok (.iload_n 2, 1) := by decide +kernel
theorem dX11_leftOut_34 : decode cX11_leftOut 34 = .ok (.iload_n 1, 1) := by decide +kernel
theorem dX11_leftOut_35 : decode cX11_leftOut 35 = .ok (.invokevirtual 154, 3) := by decide +kernel
theorem dX11_leftOut_38 : decode cX11_leftOut 38 = .ok (.istore_n 3, 1) := by decide +kernel
theorem dX11_leftOut_39 : decode cX11_leftOut 39 = .ok (.iconst 0, 1) := by decide +kernel
theorem dX11_leftOut_40 : decode cX11_leftOut 40 = .ok (.istore 4, 2) := by decide +kernel
theorem dX11_leftOut_42 : decode cX11_leftOut 42 = .ok (.iconst 0, 1) := by decide +kernel
theorem dX11_leftOut_43 : decode cX11_leftOut 43 = .ok (.istore 5, 2) := by decide +kernel
theorem dX11_leftOut_45 : decode cX11_leftOut 45 = .ok (.iload 5, 2) := by decide +kernel
theorem dX11_leftOut_47 : decode cX11_leftOut 47 = .ok (.aload_n 0, 1) := by decide +kernel
theorem dX11_leftOut_48 : decode cX11_leftOut 48 = .ok (.getfield 85, 3) := by decide +kernel
theorem dX11_leftOut_51 : decode cX11_leftOut 51 = .ok (.if_icmp .ge 45, 3) := by decide +kernel
theorem dX11_leftOut_54 : decode cX11_leftOut 54 = .ok (.aload_n 0, 1) := by decide +kernel
theorem dX11_leftOut_55 : decode cX11_leftOut 55 = .ok (.getfield 27, 3) := by decide +kernel
theorem dX11_leftOut_58 : decode cX11_leftOut 58 = .ok (.iload 5, 2) := by decide +kernel
theorem dX11_leftOut_60 : decode cX11_leftOut 60 = .ok (.iaload, 1) := by decide +kernel
theorem dX11_leftOut_61 : decode cX11_leftOut 61 = .ok (.iconst 1, 1) := by decide +kernel
theorem dX11_leftOut_62 : decode cX11_leftOut 62 = .ok (.if_icmp .ne 28, 3) := by decide +kernel
theorem dX11_leftOut_65 : decode cX11_leftOut 65 = .ok (.aload_n 0, 1) := by decide +kernel
theorem dX11_leftOut_66 : decode cX11_leftOut 66 = .ok (.getfield 46, 3) := by decide +kernel
theorem dX11_leftOut_69 : decode cX11_leftOut 69 = .ok (.bipush 8, 2) := by decide +kernel
theorem dX11_leftOut_71 : decode cX11_leftOut 71 = .ok (.iload_n 2, 1) := by decide +kernel
theorem dX11_leftOut_72 : decode cX11_leftOut 72 = .ok (.imul, 1) := by decide +kernel
theorem dX11_leftOut_73 : decode cX11_leftOut 73 = .ok (.iload 5, 2) := by decide +kernel
theorem dX11_leftOut_75 : decode cX11_leftOut 75 = .ok (.iadd, 1) := by decide +kernel
theorem dX11_leftOut_76 : decode cX11_leftOut 76 = .ok (.baload, 1) := by decide +kernel
theorem dX11_leftOut_77 : decode cX11_leftOut 77 = .ok (.iload_n 3, 1) := by decide +kernel
theorem dX11_leftOut_78 : decode cX11_leftOut 78 = .ok (.if_icmp .le 12, 3) := by decide +kernel
theorem dX11_leftOut_81 : decode cX11_leftOut 81 = .ok (.iload 4, 2) := by decide +kernel
theorem dX11_leftOut_83 : decode cX11_leftOut 83 = .ok (.iconst 1, 1) := by decide +kernel
theorem dX11_leftOut_84 : decode cX11_leftOut 84 = .ok (.iload 5, 2) := by decide +kernel
theorem dX11_leftOut_86 : decode cX11_leftOut 86 = .ok (.ishl, 1) := by decide +kernel
theorem dX11_leftOut_87 : decode cX11_leftOut 87 = .ok (.ior, 1) := by decide +kernel
theorem dX11_leftOut_88 : decode cX11_leftOut 88 = .ok (.istore 4, 2) := by decide +kernel
theorem dX11_leftOut_90 : decode cX11_leftOut 90 = .ok (.iinc 5 1, 3) := by decide +kernel
theorem dX11_leftOut_93 : decode cX11_leftOut 93 = .ok (.goto (-48), 3) := by decide +kernel
theorem dX11_leftOut_96 : decode cX11_leftOut 96 = .ok (.iload 4, 2) := by decide +kernel
theorem dX11_leftOut_98 : decode cX11_leftOut 98 = .ok (.ireturn, 1) := by decide +kernel
theorem dX11_isAsked_0 : decode cX11_isAsked 0 = .ok (.iload_n 1, 1) := by decide +kernel
theorem dX11_isAsked_1 : decode cX11_isAsked 1 = .ok (.iconst 0, 1) := by decide +kernel
theorem dX11_isAsked_2 : decode cX11_isAsked 2 = .ok (.bipush 63, 2) := by decide +kernel
theorem dX11_isAsked_4 : decode cX11_isAsked 4 = .ok (.invokestatic 81, 3) := by decide +kernel
theorem dX11_isAsked_7 : decode cX11_isAsked 7 = .ok (.ifCond .eq 15, 3) := by decide +kernel
theorem dX11_isAsked_10 : decode cX11_isAsked 10 = .ok (.aload_n 0, 1) := by decide +kernel
theorem dX11_isAsked_11 : decode cX11_isAsked 11 = .ok (.iconst 1, 1) := by decide +kernel
theorem dX11_isAsked_12 : decode cX11_isAsked 12 = .ok (.invokevirtual 141, 3) := by decide +kernel
theorem dX11_isAsked_15 : decode cX11_isAsked 15 = .ok (.ifCond .le 7, 3) := by decide +kernel
theorem dX11_isAsked_18 : decode cX11_isAsked 18 = .ok (.iconst 1, 1) := by decide +kernel
theorem dX11_isAsked_19 : decode cX11_isAsked 19 = .ok (.goto 4, 3) := by decide +kernel
theorem dX11_isAsked_22 : decode cX11_isAsked 22 = .ok (.iconst 0, 1) := by decide +kernel
theorem dX11_isAsked_23 : decode cX11_isAsked 23 = .ok (.ireturn, 1) := by decide +kernel
theorem dX11_within__0 : decode cX11_within_ 0 = .ok (.aload_n 0, 1) := by decide +kernel
theorem dX11_within__1 : decode cX11_within_ 1 = .ok (.iconst 0, 1) := by decide +kernel
theorem dX11_within__2 : decode cX11_within_ 2 = .ok (.putfield 1, 3) := by decide +kernel
theorem dX11_within__5 : decode cX11_within_ 5 = .ok (.aload_n 0, 1) := by decide +kernel
theorem dX11_within__6 : decode cX11_within_ 6 = .ok (.iload_n 1, 1) := by decide +kernel
theorem dX11_within__7 : decode cX11_within_ 7 = .ok (.invokevirtual 163, 3) := by decide +kernel
theorem dX11_within__10 : decode cX11_within_ 10 = .ok (.ifCond .ne 5, 3) := by decide +kernel
theorem dX11_within__13 : decode cX11_within_ 13 = .ok (.iconst (-1), 1) := by decide +kernel
theorem dX11_within__14 : decode cX11_within_ 14 = .ok (.ireturn, 1) := by decide +kernel
theorem dX11_within__15 : decode cX11_within_ 15 = .ok (.aload_n 0, 1) := by decide +kernel
theorem dX11_within__16 : decode cX11_within_ 16 = .ok (.invokevirtual 145, 3) := by decide +kernel
theorem dX11_within__19 : decode cX11_within_ 19 = .ok (.iconst 0, 1) := by decide +kernel
theorem dX11_within__20 : decode cX11_within_ 20 = .ok (.istore_n 2, 1) := by decide +kernel
theorem dX11_within__21 : decode cX11_within_ 21 = .ok (.iconst 0, 1) := by decide +kernel
theorem dX11_within__22 : decode cX11_within_ 22 = .ok (.istore_n 3, 1) := by decide +kernel
theorem dX11_within__23 : decode cX11_within_ 23 = .ok (.iload_n 3, 1) := by decide +kernel
theorem dX11_within__24 : decode cX11_within_ 24 = .ok (.aload_n 0, 1) := by decide +kernel
theorem dX11_within__25 : decode cX11_within_ 25 = .ok (.invokevirtual 130, 3) := by decide +kernel
theorem dX11_within__28 : decode cX11_within_ 28 = .ok (.if_icmp .ge 29, 3) := by decide +kernel
theorem dX11_within__31 : decode cX11_within_ 31 = .ok (.aload_n 0, 1) := by decide +kernel
theorem dX11_within__32 : decode cX11_within_ 32 = .ok (.iload_n 3, 1) := by decide +kernel
theorem dX11_within__33 : decode cX11_within_ 33 = .ok (.invokevirtual 148, 3) := by decide +kernel
theorem dX11_within__36 : decode cX11_within_ 36 = .ok (.ifCond .eq 15, 3) := by decide +kernel
theorem dX11_within__39 : decode cX11_within_ 39 = .ok (.aload_n 0, 1) := by decide +kernel
theorem dX11_within__40 : decode cX11_within_ 40 = .ok (.iload_n 3, 1) := by decide +kernel
theorem dX11_within__41 : decode cX11_within_ 41 = .ok (.invokevirtual 151, 3) := by decide +kernel
theorem dX11_within__44 : decode cX11_within_ 44 = .ok (.iload_n 1, 1) := by decide +kernel
theorem dX11_within__45 : decode cX11_within_ 45 = .ok (.if_icmp .gt 6, 3) := by decide +kernel
theorem dX11_within__48 : decode cX11_within_ 48 = .ok (.iinc 2 1, 3) := by decide +kernel
theorem dX11_within__51 : decode cX11_within_ 51 = .ok (.iinc 3 1, 3) := by decide +kernel
theorem dX11_within__54 : decode cX11_within_ 54 = .ok (.goto (-31), 3) := by decide +kernel
theorem dX11_within__57 : decode cX11_within_ 57 = .ok (.iload_n 2, 1) := by decide +kernel
theorem dX11_within__58 : decode cX11_within_ 58 = .ok (.ireturn, 1) := by decide +kernel
theorem dX11_lettersAt_0 : decode cX11_lettersAt 0 = .ok (.aload_n 0, 1) := by decide +kernel
theorem dX11_lettersAt_1 : decode cX11_lettersAt 1 = .ok (.iconst 0, 1) := by decide +kernel
theorem dX11_lettersAt_2 : decode cX11_lettersAt 2 = .ok (.putfield 1, 3) := by decide +kernel
theorem dX11_lettersAt_5 : decode cX11_lettersAt 5 = .ok (.aload_n 0, 1) := by decide +kernel
theorem dX11_lettersAt_6 : decode cX11_lettersAt 6 = .ok (.iload_n 1, 1) := by decide +kernel
theorem dX11_lettersAt_7 : decode cX11_lettersAt 7 = .ok (.invokevirtual 163, 3) := by decide +kernel
theorem dX11_lettersAt_10 : decode cX11_lettersAt 10 = .ok (.ifCond .eq 15, 3) := by decide +kernel
theorem dX11_lettersAt_13 : decode cX11_lettersAt 13 = .ok (.iload_n 2, 1) := by decide +kernel
theorem dX11_lettersAt_14 : decode cX11_lettersAt 14 = .ok (.ifCond .lt 11, 3) := by decide +kernel
theorem dX11_lettersAt_17 : decode cX11_lettersAt 17 = .ok (.iload_n 2, 1) := by decide +kernel
theorem dX11_lettersAt_18 : decode cX11_lettersAt 18 = .ok (.aload_n 0, 1) := by decide +kernel
theorem dX11_lettersAt_19 : decode cX11_lettersAt 19 = .ok (.getfield 110, 3) := by decide +kernel
theorem dX11_lettersAt_22 : decode cX11_lettersAt 22 = .ok (.if_icmp .lt 5, 3) := by decide +kernel
theorem dX11_lettersAt_25 : decode cX11_lettersAt 25 = .ok (.iconst (-1), 1) := by decide +kernel
theorem dX11_lettersAt_26 : decode cX11_lettersAt 26 = .ok (.ireturn, 1) := by decide +kernel
theorem dX11_lettersAt_27 : decode cX11_lettersAt 27 = .ok (.aload_n 0, 1) := by decide +kernel
theorem dX11_lettersAt_28 : decode cX11_lettersAt 28 = .ok (.invokevirtual 145, 3) := by decide +kernel
theorem dX11_lettersAt_31 : decode cX11_lettersAt 31 = .ok (.iconst 0, 1) := by decide +kernel
theorem dX11_lettersAt_32 : decode cX11_lettersAt 32 = .ok (.istore_n 3, 1) := by decide +kernel
theorem dX11_lettersAt_33 : decode cX11_lettersAt 33 = .ok (.iconst 0, 1) := by decide +kernel
theorem dX11_lettersAt_34 : decode cX11_lettersAt 34 = .ok (.istore 4, 2) := by decide +kernel
theorem dX11_lettersAt_36 : decode cX11_lettersAt 36 = .ok (.iload 4, 2) := by decide +kernel
theorem dX11_lettersAt_38 : decode cX11_lettersAt 38 = .ok (.aload_n 0, 1) := by decide +kernel
theorem dX11_lettersAt_39 : decode cX11_lettersAt 39 = .ok (.invokevirtual 130, 3) := by decide +kernel
theorem dX11_lettersAt_42 : decode cX11_lettersAt 42 = .ok (.if_icmp .ge 40, 3) := by decide +kernel
theorem dX11_lettersAt_45 : decode cX11_lettersAt 45 = .ok (.aload_n 0, 1) := by decide +kernel
theorem dX11_lettersAt_46 : decode cX11_lettersAt 46 = .ok (.iload 4, 2) := by decide +kernel
theorem dX11_lettersAt_48 : decode cX11_lettersAt 48 = .ok (.invokevirtual 148, 3) := by decide +kernel
theorem dX11_lettersAt_51 : decode cX11_lettersAt 51 = .ok (.ifCond .eq 25, 3) := by decide +kernel
theorem dX11_lettersAt_54 : decode cX11_lettersAt 54 = .ok (.aload_n 0, 1) := by decide +kernel
theorem dX11_lettersAt_55 : decode cX11_lettersAt 55 = .ok (.iload 4, 2) := by decide +kernel
theorem dX11_lettersAt_57 : decode cX11_lettersAt 57 = .ok (.invokevirtual 151, 3) := by decide +kernel
theorem dX11_lettersAt_60 : decode cX11_lettersAt 60 = .ok (.iload_n 1, 1) := by decide +kernel
theorem dX11_lettersAt_61 : decode cX11_lettersAt 61 = .ok (.if_icmp .gt 15, 3) := by decide +kernel
theorem dX11_lettersAt_64 : decode cX11_lettersAt 64 = .ok (.iload_n 3, 1) := by decide +kernel
theorem dX11_lettersAt_65 : decode cX11_lettersAt 65 = .ok (.iconst 1, 1) := by decide +kernel
theorem dX11_lettersAt_66 : decode cX11_lettersAt 66 = .ok (.aload_n 0, 1) := by decide +kernel
theorem dX11_lettersAt_67 : decode cX11_lettersAt 67 = .ok (.iload 4, 2) := by decide +kernel
theorem dX11_lettersAt_69 : decode cX11_lettersAt 69 = .ok (.iload_n 2, 1) := by decide +kernel
theorem dX11_lettersAt_70 : decode cX11_lettersAt 70 = .ok (.invokevirtual 160, 3) := by decide +kernel
theorem dX11_lettersAt_73 : decode cX11_lettersAt 73 = .ok (.ishl, 1) := by decide +kernel
theorem dX11_lettersAt_74 : decode cX11_lettersAt 74 = .ok (.ior, 1) := by decide +kernel
theorem dX11_lettersAt_75 : decode cX11_lettersAt 75 = .ok (.istore_n 3, 1) := by decide +kernel
theorem dX11_lettersAt_76 : decode cX11_lettersAt 76 = .ok (.iinc 4 1, 3) := by decide +kernel
theorem dX11_lettersAt_79 : decode cX11_lettersAt 79 = .ok (.goto (-43), 3) := by decide +kernel
theorem dX11_lettersAt_82 : decode cX11_lettersAt 82 = .ok (.iload_n 3, 1) := by decide +kernel
theorem dX11_lettersAt_83 : decode cX11_lettersAt 83 = .ok (.ireturn, 1) := by decide +kernel
theorem dX11_nearBits_0 : decode cX11_nearBits 0 = .ok (.iconst 0, 1) := by decide +kernel
theorem dX11_nearBits_1 : decode cX11_nearBits 1 = .ok (.istore_n 1, 1) := by decide +kernel
theorem dX11_nearBits_2 : decode cX11_nearBits 2 = .ok (.iconst 0, 1) := by decide +kernel
theorem dX11_nearBits_3 : decode cX11_nearBits 3 = .ok (.istore_n 2, 1) := by decide +kernel
theorem dX11_nearBits_4 : decode cX11_nearBits 4 = .ok (.iload_n 2, 1) := by decide +kernel
theorem dX11_nearBits_5 : decode cX11_nearBits 5 = .ok (.aload_n 0, 1) := by decide +kernel
theorem dX11_nearBits_6 : decode cX11_nearBits 6 = .ok (.getfield 85, 3) := by decide +kernel
theorem dX11_nearBits_9 : decode cX11_nearBits 9 = .ok (.if_icmp .ge 25, 3) := by decide +kernel
theorem dX11_nearBits_12 : decode cX11_nearBits 12 = .ok (.aload_n 0, 1) := by decide +kernel
theorem dX11_nearBits_13 : decode cX11_nearBits 13 = .ok (.getfield 27, 3) := by decide +kernel
theorem dX11_nearBits_16 : decode cX11_nearBits 16 = .ok (.iload_n 2, 1) := by decide +kernel
theorem dX11_nearBits_17 : decode cX11_nearBits 17 = .ok (.iaload, 1) := by decide +kernel
theorem dX11_nearBits_18 : decode cX11_nearBits 18 = .ok (.iconst 1, 1) := by decide +kernel
theorem dX11_nearBits_19 : decode cX11_nearBits 19 = .ok (.if_icmp .ne 9, 3) := by decide +kernel
theorem dX11_nearBits_22 : decode cX11_nearBits 22 = .ok (.iload_n 1, 1) := by decide +kernel
theorem dX11_nearBits_23 : decode cX11_nearBits 23 = .ok (.iconst 1, 1) := by decide +kernel
theorem dX11_nearBits_24 : decode cX11_nearBits 24 = .ok (.iload_n 2, 1) := by decide +kernel
theorem dX11_nearBits_25 : decode cX11_nearBits 25 = .ok (.ishl, 1) := by decide +kernel
theorem dX11_nearBits_26 : decode cX11_nearBits 26 = .ok (.ior, 1) := by decide +kernel
theorem dX11_nearBits_27 : decode cX11_nearBits 27 = .ok (.istore_n 1, 1) := by decide +kernel
theorem dX11_nearBits_28 : decode cX11_nearBits 28 = .ok (.iinc 2 1, 3) := by decide +kernel
theorem dX11_nearBits_31 : decode cX11_nearBits 31 = .ok (.goto (-27), 3) := by decide +kernel
theorem dX11_nearBits_34 : decode cX11_nearBits 34 = .ok (.iload_n 1, 1) := by decide +kernel
theorem dX11_nearBits_35 : decode cX11_nearBits 35 = .ok (.ireturn, 1) := by decide +kernel
theorem dX11_holds_0 : decode cX11_holds 0 = .ok (.aload_n 0, 1) := by decide +kernel
theorem dX11_holds_1 : decode cX11_holds 1 = .ok (.invokevirtual 145, 3) := by decide +kernel
theorem dX11_holds_4 : decode cX11_holds 4 = .ok (.iconst 0, 1) := by decide +kernel
theorem dX11_holds_5 : decode cX11_holds 5 = .ok (.istore_n 2, 1) := by decide +kernel
theorem dX11_holds_6 : decode cX11_holds 6 = .ok (.iload_n 2, 1) := by decide +kernel
theorem dX11_holds_7 : decode cX11_holds 7 = .ok (.sipush 256, 3) := by decide +kernel
theorem dX11_holds_10 : decode cX11_holds 10 = .ok (.if_icmp .ge 16, 3) := by decide +kernel
theorem dX11_holds_13 : decode cX11_holds 13 = .ok (.aload_n 0, 1) := by decide +kernel
theorem dX11_holds_14 : decode cX11_holds 14 = .ok (.getfield 52, 3) := by decide +kernel
theorem dX11_holds_17 : decode cX11_holds 17 = .ok (.iload_n 2, 1) := by decide +kernel
theorem dX11_holds_18 : decode cX11_holds 18 = .ok (.iconst 0, 1) := by decide +kernel
theorem dX11_holds_19 : decode cX11_holds 19 = .ok (.bastore, 1) := by decide +kernel
theorem dX11_holds_20 : decode cX11_holds 20 = .ok (.iinc 2 1, 3) := by decide +kernel
theorem dX11_holds_23 : decode cX11_holds 23 = .ok (.goto (-17), 3) := by decide +kernel
theorem dX11_holds_26 : decode cX11_holds 26 = .ok (.iconst 0, 1) := by decide +kernel
theorem dX11_holds_27 : decode cX11_holds 27 = .ok (.istore_n 2, 1) := by decide +kernel
theorem dX11_holds_28 : decode cX11_holds 28 = .ok (.iload_n 2, 1) := by decide +kernel
theorem dX11_holds_29 : decode cX11_holds 29 = .ok (.aload_n 0, 1) := by decide +kernel
theorem dX11_holds_30 : decode cX11_holds 30 = .ok (.invokevirtual 130, 3) := by decide +kernel
theorem dX11_holds_33 : decode cX11_holds 33 = .ok (.if_icmp .ge 81, 3) := by decide +kernel
theorem dX11_holds_36 : decode cX11_holds 36 = .ok (.aload_n 0, 1) := by decide +kernel
theorem dX11_holds_37 : decode cX11_holds 37 = .ok (.iload_n 2, 1) := by decide +kernel
theorem dX11_holds_38 : decode cX11_holds 38 = .ok (.invokevirtual 148, 3) := by decide +kernel
theorem dX11_holds_41 : decode cX11_holds 41 = .ok (.ifCond .ne 6, 3) := by decide +kernel
theorem dX11_holds_44 : decode cX11_holds 44 = .ok (.goto 64, 3) := by decide +kernel
theorem dX11_holds_47 : decode cX11_holds 47 = .ok (.iconst 0, 1) := by decide +kernel
theorem dX11_holds_48 : decode cX11_holds 48 = .ok (.istore_n 3, 1) := by decide +kernel
theorem dX11_holds_49 : decode cX11_holds 49 = .ok (.iconst 0, 1) := by decide +kernel
theorem dX11_holds_50 : decode cX11_holds 50 = .ok (.istore 4, 2) := by decide +kernel
theorem dX11_holds_52 : decode cX11_holds 52 = .ok (.iload 4, 2) := by decide +kernel
theorem dX11_holds_54 : decode cX11_holds 54 = .ok (.aload_n 0, 1) := by decide +kernel
theorem dX11_holds_55 : decode cX11_holds 55 = .ok (.getfield 85, 3) := by decide +kernel
theorem dX11_holds_58 : decode cX11_holds 58 = .ok (.if_icmp .ge 43, 3) := by decide +kernel
theorem dX11_holds_61 : decode cX11_holds 61 = .ok (.aload_n 0, 1) := by decide +kernel
theorem dX11_holds_62 : decode cX11_holds 62 = .ok (.getfield 27, 3) := by decide +kernel
theorem dX11_holds_65 : decode cX11_holds 65 = .ok (.iload 4, 2) := by decide +kernel
theorem dX11_holds_67 : decode cX11_holds 67 = .ok (.iaload, 1) := by decide +kernel
theorem dX11_holds_68 : decode cX11_holds 68 = .ok (.iconst 1, 1) := by decide +kernel
theorem dX11_holds_69 : decode cX11_holds 69 = .ok (.if_icmp .ne 26, 3) := by decide +kernel
theorem dX11_holds_72 : decode cX11_holds 72 = .ok (.aload_n 0, 1) := by decide +kernel
theorem dX11_holds_73 : decode cX11_holds 73 = .ok (.getfield 46, 3) := by decide +kernel
theorem dX11_holds_76 : decode cX11_holds 76 = .ok (.bipush 8, 2) := by decide +kernel
theorem dX11_holds_78 : decode cX11_holds 78 = .ok (.iload_n 2, 1) := by decide +kernel
theorem dX11_holds_79 : decode cX11_holds 79 = .ok (.imul, 1) := by decide +kernel
theorem dX11_holds_80 : decode cX11_holds 80 = .ok (.iload 4, 2) := by decide +kernel
theorem dX11_holds_82 : decode cX11_holds 82 = .ok (.iadd, 1) := by decide +kernel
theorem dX11_holds_83 : decode cX11_holds 83 = .ok (.baload, 1) := by decide +kernel
theorem dX11_holds_84 : decode cX11_holds 84 = .ok (.iload_n 1, 1) := by decide +kernel
theorem dX11_holds_85 : decode cX11_holds 85 = .ok (.if_icmp .gt 10, 3) := by decide +kernel
theorem dX11_holds_88 : decode cX11_holds 88 = .ok (.iload_n 3, 1) := by decide +kernel
theorem dX11_holds_89 : decode cX11_holds 89 = .ok (.iconst 1, 1) := by decide +kernel
theorem dX11_holds_90 : decode cX11_holds 90 = .ok (.iload 4, 2) := by decide +kernel
theorem dX11_holds_92 : decode cX11_holds 92 = .ok (.ishl, 1) := by decide +kernel
theorem dX11_holds_93 : decode cX11_holds 93 = .ok (.ior, 1) := by decide +kernel
theorem dX11_holds_94 : decode cX11_holds 94 = .ok (.istore_n 3, 1) := by decide +kernel
theorem dX11_holds_95 : decode cX11_holds 95 = .ok (.iinc 4 1, 3) := by decide +kernel
theorem dX11_holds_98 : decode cX11_holds 98 = .ok (.goto (-46), 3) := by decide +kernel
theorem dX11_holds_101 : decode cX11_holds 101 = .ok (.aload_n 0, 1) := by decide +kernel
theorem dX11_holds_102 : decode cX11_holds 102 = .ok (.getfield 52, 3) := by decide +kernel
theorem dX11_holds_105 : decode cX11_holds 105 = .ok (.iload_n 3, 1) := by decide +kernel
theorem dX11_holds_106 : decode cX11_holds 106 = .ok (.iconst 1, 1) := by decide +kernel
theorem dX11_holds_107 : decode cX11_holds 107 = .ok (.bastore, 1) := by decide +kernel
theorem dX11_holds_108 : decode cX11_holds 108 = .ok (.iinc 2 1, 3) := by decide +kernel
theorem dX11_holds_111 : decode cX11_holds 111 = .ok (.goto (-83), 3) := by decide +kernel
theorem dX11_holds_114 : decode cX11_holds 114 = .ok (.iconst 0, 1) := by decide +kernel
theorem dX11_holds_115 : decode cX11_holds 115 = .ok (.istore_n 2, 1) := by decide +kernel
theorem dX11_holds_116 : decode cX11_holds 116 = .ok (.iload_n 2, 1) := by decide +kernel
theorem dX11_holds_117 : decode cX11_holds 117 = .ok (.aload_n 0, 1) := by decide +kernel
theorem dX11_holds_118 : decode cX11_holds 118 = .ok (.getfield 85, 3) := by decide +kernel
theorem dX11_holds_121 : decode cX11_holds 121 = .ok (.if_icmp .ge 55, 3) := by decide +kernel
theorem dX11_holds_124 : decode cX11_holds 124 = .ok (.iconst 0, 1) := by decide +kernel
theorem dX11_holds_125 : decode cX11_holds 125 = .ok (.istore_n 3, 1) := by decide +kernel
theorem dX11_holds_126 : decode cX11_holds 126 = .ok (.iload_n 3, 1) := by decide +kernel
theorem dX11_holds_127 : decode cX11_holds 127 = .ok (.sipush 256, 3) := by decide +kernel
theorem dX11_holds_130 : decode cX11_holds 130 = .ok (.if_icmp .ge 40, 3) := by decide +kernel
theorem dX11_holds_133 : decode cX11_holds 133 = .ok (.iload_n 3, 1) := by decide +kernel
theorem dX11_holds_134 : decode cX11_holds 134 = .ok (.iload_n 2, 1) := by decide +kernel
theorem dX11_holds_135 : decode cX11_holds 135 = .ok (.ishr, 1) := by decide +kernel
theorem dX11_holds_136 : decode cX11_holds 136 = .ok (.iconst 1, 1) := by decide +kernel
theorem dX11_holds_137 : decode cX11_holds 137 = .ok (.iand, 1) := by decide +kernel
theorem dX11_holds_138 : decode cX11_holds 138 = .ok (.iconst 1, 1) := by decide +kernel
theorem dX11_holds_139 : decode cX11_holds 139 = .ok (.if_icmp .ne 25, 3) := by decide +kernel
theorem dX11_holds_142 : decode cX11_holds 142 = .ok (.aload_n 0, 1) := by decide +kernel
theorem dX11_holds_143 : decode cX11_holds 143 = .ok (.getfield 52, 3) := by decide +kernel
theorem dX11_holds_146 : decode cX11_holds 146 = .ok (.iload_n 3, 1) := by decide +kernel
theorem dX11_holds_147 : decode cX11_holds 147 = .ok (.baload, 1) := by decide +kernel
theorem dX11_holds_148 : decode cX11_holds 148 = .ok (.ifCond .eq 16, 3) := by decide +kernel
theorem dX11_holds_151 : decode cX11_holds 151 = .ok (.aload_n 0, 1) := by decide +kernel
theorem dX11_holds_152 : decode cX11_holds 152 = .ok (.getfield 52, 3) := by decide +kernel
theorem dX11_holds_155 : decode cX11_holds 155 = .ok (.iload_n 3, 1) := by decide +kernel
theorem dX11_holds_156 : decode cX11_holds 156 = .ok (.iconst 1, 1) := by decide +kernel
theorem dX11_holds_157 : decode cX11_holds 157 = .ok (.iload_n 2, 1) := by decide +kernel
theorem dX11_holds_158 : decode cX11_holds 158 = .ok (.ishl, 1) := by decide +kernel
theorem dX11_holds_159 : decode cX11_holds 159 = .ok (.iconst (-1), 1) := by decide +kernel
theorem dX11_holds_160 : decode cX11_holds 160 = .ok (.ixor, 1) := by decide +kernel
theorem dX11_holds_161 : decode cX11_holds 161 = .ok (.iand, 1) := by decide +kernel
theorem dX11_holds_162 : decode cX11_holds 162 = .ok (.iconst 1, 1) := by decide +kernel
theorem dX11_holds_163 : decode cX11_holds 163 = .ok (.bastore, 1) := by decide +kernel
theorem dX11_holds_164 : decode cX11_holds 164 = .ok (.iinc 3 1, 3) := by decide +kernel
theorem dX11_holds_167 : decode cX11_holds 167 = .ok (.goto (-41), 3) := by decide +kernel
theorem dX11_holds_170 : decode cX11_holds 170 = .ok (.iinc 2 1, 3) := by decide +kernel
theorem dX11_holds_173 : decode cX11_holds 173 = .ok (.goto (-57), 3) := by decide +kernel
theorem dX11_holds_176 : decode cX11_holds 176 = .ok (.return_, 1) := by decide +kernel
theorem dX11_size_0 : decode cX11_size 0 = .ok (.iconst 0, 1) := by decide +kernel
theorem dX11_size_1 : decode cX11_size 1 = .ok (.istore_n 1, 1) := by decide +kernel
theorem dX11_size_2 : decode cX11_size 2 = .ok (.iconst 0, 1) := by decide +kernel
theorem dX11_size_3 : decode cX11_size 3 = .ok (.istore_n 2, 1) := by decide +kernel
theorem dX11_size_4 : decode cX11_size 4 = .ok (.iload_n 2, 1) := by decide +kernel
theorem dX11_size_5 : decode cX11_size 5 = .ok (.bipush 8, 2) := by decide +kernel
theorem dX11_size_7 : decode cX11_size 7 = .ok (.if_icmp .ge 17, 3) := by decide +kernel
theorem dX11_size_10 : decode cX11_size 10 = .ok (.iload_n 1, 1) := by decide +kernel
theorem dX11_size_11 : decode cX11_size 11 = .ok (.iload_n 0, 1) := by decide +kernel
theorem dX11_size_12 : decode cX11_size 12 = .ok (.iload_n 2, 1) := by decide +kernel
theorem dX11_size_13 : decode cX11_size 13 = .ok (.ishr, 1) := by decide +kernel
theorem dX11_size_14 : decode cX11_size 14 = .ok (.iconst 1, 1) := by decide +kernel
theorem dX11_size_15 : decode cX11_size 15 = .ok (.iand, 1) := by decide +kernel
theorem dX11_size_16 : decode cX11_size 16 = .ok (.iadd, 1) := by decide +kernel
theorem dX11_size_17 : decode cX11_size 17 = .ok (.istore_n 1, 1) := by decide +kernel
theorem dX11_size_18 : decode cX11_size 18 = .ok (.iinc 2 1, 3) := by decide +kernel
theorem dX11_size_21 : decode cX11_size 21 = .ok (.goto (-17), 3) := by decide +kernel
theorem dX11_size_24 : decode cX11_size 24 = .ok (.iload_n 1, 1) := by decide +kernel
theorem dX11_size_25 : decode cX11_size 25 = .ok (.ireturn, 1) := by decide +kernel
theorem dX11_coreOf_0 : decode cX11_coreOf 0 = .ok (.aload_n 0, 1) := by decide +kernel
theorem dX11_coreOf_1 : decode cX11_coreOf 1 = .ok (.iload_n 1, 1) := by decide +kernel
theorem dX11_coreOf_2 : decode cX11_coreOf 2 = .ok (.invokevirtual 166, 3) := by decide +kernel
theorem dX11_coreOf_5 : decode cX11_coreOf 5 = .ok (.aload_n 0, 1) := by decide +kernel
theorem dX11_coreOf_6 : decode cX11_coreOf 6 = .ok (.invokevirtual 170, 3) := by decide +kernel
theorem dX11_coreOf_9 : decode cX11_coreOf 9 = .ok (.istore_n 2, 1) := by decide +kernel
theorem dX11_coreOf_10 : decode cX11_coreOf 10 = .ok (.iconst 0, 1) := by decide +kernel
theorem dX11_coreOf_11 : decode cX11_coreOf 11 = .ok (.istore_n 3, 1) := by decide +kernel
theorem dX11_coreOf_12 : decode cX11_coreOf 12 = .ok (.iconst 1, 1) := by decide +kernel
theorem dX11_coreOf_13 : decode cX11_coreOf 13 = .ok (.istore 4, 2) := by decide +kernel
theorem dX11_coreOf_15 : decode cX11_coreOf 15 = .ok (.iload 4, 2) := by decide +kernel
theorem dX11_coreOf_17 : decode cX11_coreOf 17 = .ok (.sipush 256, 3) := by decide +kernel
theorem dX11_coreOf_20 : decode cX11_coreOf 20 = .ok (.if_icmp .ge 50, 3) := by decide +kernel
theorem dX11_coreOf_23 : decode cX11_coreOf 23 = .ok (.iload 4, 2) := by decide +kernel
theorem dX11_coreOf_25 : decode cX11_coreOf 25 = .ok (.iload_n 2, 1) := by decide +kernel
theorem dX11_coreOf_26 : decode cX11_coreOf 26 = .ok (.iconst (-1), 1) := by decide +kernel
theorem dX11_coreOf_27 : decode cX11_coreOf 27 = .ok (.ixor, 1) := by decide +kernel
theorem dX11_coreOf_28 : decode cX11_coreOf 28 = .ok (.iand, 1) := by decide +kernel
theorem dX11_coreOf_29 : decode cX11_coreOf 29 = .ok (.ifCond .ne 35, 3) := by decide +kernel
theorem dX11_coreOf_32 : decode cX11_coreOf 32 = .ok (.aload_n 0, 1) := by decide +kernel
theorem dX11_coreOf_33 : decode cX11_coreOf 33 = .ok (.getfield 52, 3) := by decide +kernel
theorem dX11_coreOf_36 : decode cX11_coreOf 36 = .ok (.iload 4, 2) := by decide +kernel
theorem dX11_coreOf_38 : decode cX11_coreOf 38 = .ok (.baload, 1) := by decide +kernel
theorem dX11_coreOf_39 : decode cX11_coreOf 39 = .ok (.ifCond .eq 6, 3) := by decide +kernel
theorem dX11_coreOf_42 : decode cX11_coreOf 42 = .ok (.goto 22, 3) := by decide +kernel
theorem dX11_coreOf_45 : decode cX11_coreOf 45 = .ok (.iload_n 3, 1) := by decide +kernel
theorem dX11_coreOf_46 : decode cX11_coreOf 46 = .ok (.ifCond .eq 15, 3) := by decide +kernel
theorem dX11_coreOf_49 : decode cX11_coreOf 49 = .ok (.iload 4, 2) := by decide +kernel
theorem dX11_coreOf_51 : decode cX11_coreOf 51 = .ok (.invokestatic 173, 3) := by decide +kernel
theorem dX11_coreOf_54 : decode cX11_coreOf 54 = .ok (.iload_n 3, 1) := by decide +kernel
theorem dX11_coreOf_55 : decode cX11_coreOf 55 = .ok (.invokestatic 173, 3) := by decide +kernel
theorem dX11_coreOf_58 : decode cX11_coreOf 58 = .ok (.if_icmp .ge 6, 3) := by decide +kernel
theorem dX11_coreOf_61 : decode cX11_coreOf 61 = .ok (.iload 4, 2) := by decide +kernel
theorem dX11_coreOf_63 : decode cX11_coreOf 63 = .ok (.istore_n 3, 1) := by decide +kernel
theorem dX11_coreOf_64 : decode cX11_coreOf 64 = .ok (.iinc 4 1, 3) := by decide +kernel
theorem dX11_coreOf_67 : decode cX11_coreOf 67 = .ok (.goto (-52), 3) := by decide +kernel
theorem dX11_coreOf_70 : decode cX11_coreOf 70 = .ok (.iload_n 3, 1) := by decide +kernel
theorem dX11_coreOf_71 : decode cX11_coreOf 71 = .ok (.ireturn, 1) := by decide +kernel
theorem dX11_core_0 : decode cX11_core 0 = .ok (.aload_n 0, 1) := by decide +kernel
theorem dX11_core_1 : decode cX11_core 1 = .ok (.iconst 0, 1) := by decide +kernel
theorem dX11_core_2 : decode cX11_core 2 = .ok (.putfield 1, 3) := by decide +kernel
theorem dX11_core_5 : decode cX11_core 5 = .ok (.aload_n 0, 1) := by decide +kernel
theorem dX11_core_6 : decode cX11_core 6 = .ok (.iload_n 1, 1) := by decide +kernel
theorem dX11_core_7 : decode cX11_core 7 = .ok (.invokevirtual 163, 3) := by decide +kernel
theorem dX11_core_10 : decode cX11_core 10 = .ok (.ifCond .eq 14, 3) := by decide +kernel
theorem dX11_core_13 : decode cX11_core 13 = .ok (.aload_n 0, 1) := by decide +kernel
theorem dX11_core_14 : decode cX11_core 14 = .ok (.iload_n 1, 1) := by decide +kernel
theorem dX11_core_15 : decode cX11_core 15 = .ok (.invokevirtual 176, 3) := by decide +kernel
theorem dX11_core_18 : decode cX11_core 18 = .ok (.invokestatic 173, 3) := by decide +kernel
theorem dX11_core_21 : decode cX11_core 21 = .ok (.goto 4, 3) := by decide +kernel
theorem dX11_core_24 : decode cX11_core 24 = .ok (.iconst (-1), 1) := by decide +kernel
theorem dX11_core_25 : decode cX11_core 25 = .ok (.ireturn, 1) := by decide +kernel
theorem dX11_coreSet_0 : decode cX11_coreSet 0 = .ok (.aload_n 0, 1) := by decide +kernel
theorem dX11_coreSet_1 : decode cX11_coreSet 1 = .ok (.iconst 0, 1) := by decide +kernel
theorem dX11_coreSet_2 : decode cX11_coreSet 2 = .ok (.putfield 1, 3) := by decide +kernel
theorem dX11_coreSet_5 : decode cX11_coreSet 5 = .ok (.aload_n 0, 1) := by decide +kernel
theorem dX11_coreSet_6 : decode cX11_coreSet 6 = .ok (.iload_n 1, 1) := by decide +kernel
theorem dX11_coreSet_7 : decode cX11_coreSet 7 = .ok (.invokevirtual 163, 3) := by decide +kernel
theorem dX11_coreSet_10 : decode cX11_coreSet 10 = .ok (.ifCond .eq 11, 3) := by decide +kernel
theorem dX11_coreSet_13 : decode cX11_coreSet 13 = .ok (.aload_n 0, 1) := by decide +kernel
theorem dX11_coreSet_14 : decode cX11_coreSet 14 = .ok (.iload_n 1, 1) := by decide +kernel
theorem dX11_coreSet_15 : decode cX11_coreSet 15 = .ok (.invokevirtual 176, 3) := by decide +kernel
theorem dX11_coreSet_18 : decode cX11_coreSet 18 = .ok (.goto 4, 3) := by decide +kernel
theorem dX11_coreSet_21 : decode cX11_coreSet 21 = .ok (.iconst (-1), 1) := by decide +kernel
theorem dX11_coreSet_22 : decode cX11_coreSet 22 = .ok (.ireturn, 1) := by decide +kernel
theorem dX11_coverOf_0 : decode cX11_coverOf 0 = .ok (.aload_n 0, 1) := by decide +kernel
theorem dX11_coverOf_1 : decode cX11_coverOf 1 = .ok (.iload_n 1, 1) := by decide +kernel
theorem dX11_coverOf_2 : decode cX11_coverOf 2 = .ok (.invokevirtual 166, 3) := by decide +kernel
theorem dX11_coverOf_5 : decode cX11_coverOf 5 = .ok (.aload_n 0, 1) := by decide +kernel
theorem dX11_coverOf_6 : decode cX11_coverOf 6 = .ok (.invokevirtual 170, 3) := by decide +kernel
theorem dX11_coverOf_9 : decode cX11_coverOf 9 = .ok (.istore_n 2, 1) := by decide +kernel
theorem dX11_coverOf_10 : decode cX11_coverOf 10 = .ok (.aload_n 0, 1) := by decide +kernel
theorem dX11_coverOf_11 : decode cX11_coverOf 11 = .ok (.getfield 56, 3) := by decide +kernel
theorem dX11_coverOf_14 : decode cX11_coverOf 14 = .ok (.iconst 0, 1) := by decide +kernel
theorem dX11_coverOf_15 : decode cX11_coverOf 15 = .ok (.iconst 0, 1) := by decide +kernel
theorem dX11_coverOf_16 : decode cX11_coverOf 16 = .ok (.iastore, 1) := by decide +kernel
theorem dX11_coverOf_17 : decode cX11_coverOf 17 = .ok (.iconst 1, 1) := by decide +kernel
theorem dX11_coverOf_18 : decode cX11_coverOf 18 = .ok (.istore_n 3, 1) := by decide +kernel
theorem dX11_coverOf_19 : decode cX11_coverOf 19 = .ok (.iload_n 3, 1) := by decide +kernel
theorem dX11_coverOf_20 : decode cX11_coverOf 20 = .ok (.sipush 256, 3) := by decide +kernel
theorem dX11_coverOf_23 : decode cX11_coverOf 23 = .ok (.if_icmp .ge 85, 3) := by decide +kernel
theorem dX11_coverOf_26 : decode cX11_coverOf 26 = .ok (.aload_n 0, 1) := by decide +kernel
theorem dX11_coverOf_27 : decode cX11_coverOf 27 = .ok (.getfield 56, 3) := by decide +kernel
theorem dX11_coverOf_30 : decode cX11_coverOf 30 = .ok (.iload_n 3, 1) := by decide +kernel
theorem dX11_coverOf_31 : decode cX11_coverOf 31 = .ok (.bipush 9, 2) := by decide +kernel
theorem dX11_coverOf_33 : decode cX11_coverOf 33 = .ok (.iastore, 1) := by decide +kernel
theorem dX11_coverOf_34 : decode cX11_coverOf 34 = .ok (.iload_n 3, 1) := by decide +kernel
theorem dX11_coverOf_35 : decode cX11_coverOf 35 = .ok (.iload_n 2, 1) := by decide +kernel
end
section
theorem dX11_coverOf_36 : decode cX11_coverOf 36 = .ok (.iconst (-1), 1) := by decide +kernel
theorem dX11_coverOf_37 : decode cX11_coverOf 37 = .ok (.ixor, 1) := by decide +kernel
theorem dX11_coverOf_38 : decode cX11_coverOf 38 = .ok (.iand, 1) := by decide +kernel
theorem dX11_coverOf_39 : decode cX11_coverOf 39 = .ok (.ifCond .eq 6, 3) := by decide +kernel
theorem dX11_coverOf_42 : decode cX11_coverOf 42 = .ok (.goto 60, 3) := by decide +kernel
theorem dX11_coverOf_45 : decode cX11_coverOf 45 = .ok (.iload_n 3, 1) := by decide +kernel
theorem dX11_coverOf_46 : decode cX11_coverOf 46 = .ok (.istore 4, 2) := by decide +kernel
theorem dX11_coverOf_48 : decode cX11_coverOf 48 = .ok (.iload 4, 2) := by decide +kernel
theorem dX11_coverOf_50 : decode cX11_coverOf 50 = .ok (.ifCond .le 52, 3) := by decide +kernel
theorem dX11_coverOf_53 : decode cX11_coverOf 53 = .ok (.aload_n 0, 1) := by decide +kernel
theorem dX11_coverOf_54 : decode cX11_coverOf 54 = .ok (.getfield 52, 3) := by decide +kernel
theorem dX11_coverOf_57 : decode cX11_coverOf 57 = .ok (.iload 4, 2) := by decide +kernel
theorem dX11_coverOf_59 : decode cX11_coverOf 59 = .ok (.baload, 1) := by decide +kernel
theorem dX11_coverOf_60 : decode cX11_coverOf 60 = .ok (.ifCond .eq 31, 3) := by decide +kernel
theorem dX11_coverOf_63 : decode cX11_coverOf 63 = .ok (.aload_n 0, 1) := by decide +kernel
theorem dX11_coverOf_64 : decode cX11_coverOf 64 = .ok (.getfield 56, 3) := by decide +kernel
theorem dX11_coverOf_67 : decode cX11_coverOf 67 = .ok (.iload_n 3, 1) := by decide +kernel
theorem dX11_coverOf_68 : decode cX11_coverOf 68 = .ok (.aload_n 0, 1) := by decide +kernel
theorem dX11_coverOf_69 : decode cX11_coverOf 69 = .ok (.getfield 56, 3) := by decide +kernel
theorem dX11_coverOf_72 : decode cX11_coverOf 72 = .ok (.iload_n 3, 1) := by decide +kernel
theorem dX11_coverOf_73 : decode cX11_coverOf 73 = .ok (.iaload, 1) := by decide +kernel
theorem dX11_coverOf_74 : decode cX11_coverOf 74 = .ok (.aload_n 0, 1) := by decide +kernel
theorem dX11_coverOf_75 : decode cX11_coverOf 75 = .ok (.getfield 56, 3) := by decide +kernel
theorem dX11_coverOf_78 : decode cX11_coverOf 78 = .ok (.iload_n 3, 1) := by decide +kernel
theorem dX11_coverOf_79 : decode cX11_coverOf 79 = .ok (.iload 4, 2) := by decide +kernel
theorem dX11_coverOf_81 : decode cX11_coverOf 81 = .ok (.iconst (-1), 1) := by decide +kernel
theorem dX11_coverOf_82 : decode cX11_coverOf 82 = .ok (.ixor, 1) := by decide +kernel
theorem dX11_coverOf_83 : decode cX11_coverOf 83 = .ok (.iand, 1) := by decide +kernel
theorem dX11_coverOf_84 : decode cX11_coverOf 84 = .ok (.iaload, 1) := by decide +kernel
theorem dX11_coverOf_85 : decode cX11_coverOf 85 = .ok (.iconst 1, 1) := by decide +kernel
theorem dX11_coverOf_86 : decode cX11_coverOf 86 = .ok (.iadd, 1) := by decide +kernel
theorem dX11_coverOf_87 : decode cX11_coverOf 87 = .ok (.invokestatic 117, 3) := by decide +kernel
theorem dX11_coverOf_90 : decode cX11_coverOf 90 = .ok (.iastore, 1) := by decide +kernel
theorem dX11_coverOf_91 : decode cX11_coverOf 91 = .ok (.iload 4, 2) := by decide +kernel
theorem dX11_coverOf_93 : decode cX11_coverOf 93 = .ok (.iconst 1, 1) := by decide +kernel
theorem dX11_coverOf_94 : decode cX11_coverOf 94 = .ok (.isub, 1) := by decide +kernel
theorem dX11_coverOf_95 : decode cX11_coverOf 95 = .ok (.iload_n 3, 1) := by decide +kernel
theorem dX11_coverOf_96 : decode cX11_coverOf 96 = .ok (.iand, 1) := by decide +kernel
theorem dX11_coverOf_97 : decode cX11_coverOf 97 = .ok (.istore 4, 2) := by decide +kernel
theorem dX11_coverOf_99 : decode cX11_coverOf 99 = .ok (.goto (-51), 3) := by decide +kernel
theorem dX11_coverOf_102 : decode cX11_coverOf 102 = .ok (.iinc 3 1, 3) := by decide +kernel
theorem dX11_coverOf_105 : decode cX11_coverOf 105 = .ok (.goto (-86), 3) := by decide +kernel
theorem dX11_coverOf_108 : decode cX11_coverOf 108 = .ok (.bipush 9, 2) := by decide +kernel
theorem dX11_coverOf_110 : decode cX11_coverOf 110 = .ok (.aload_n 0, 1) := by decide +kernel
theorem dX11_coverOf_111 : decode cX11_coverOf 111 = .ok (.getfield 56, 3) := by decide +kernel
theorem dX11_coverOf_114 : decode cX11_coverOf 114 = .ok (.iload_n 2, 1) := by decide +kernel
theorem dX11_coverOf_115 : decode cX11_coverOf 115 = .ok (.iaload, 1) := by decide +kernel
theorem dX11_coverOf_116 : decode cX11_coverOf 116 = .ok (.invokestatic 117, 3) := by decide +kernel
theorem dX11_coverOf_119 : decode cX11_coverOf 119 = .ok (.ireturn, 1) := by decide +kernel
theorem dX11_cover_0 : decode cX11_cover 0 = .ok (.aload_n 0, 1) := by decide +kernel
theorem dX11_cover_1 : decode cX11_cover 1 = .ok (.iconst 0, 1) := by decide +kernel
theorem dX11_cover_2 : decode cX11_cover 2 = .ok (.putfield 1, 3) := by decide +kernel
theorem dX11_cover_5 : decode cX11_cover 5 = .ok (.aload_n 0, 1) := by decide +kernel
theorem dX11_cover_6 : decode cX11_cover 6 = .ok (.iload_n 1, 1) := by decide +kernel
theorem dX11_cover_7 : decode cX11_cover 7 = .ok (.invokevirtual 163, 3) := by decide +kernel
theorem dX11_cover_10 : decode cX11_cover 10 = .ok (.ifCond .ne 5, 3) := by decide +kernel
theorem dX11_cover_13 : decode cX11_cover 13 = .ok (.iconst (-1), 1) := by decide +kernel
theorem dX11_cover_14 : decode cX11_cover 14 = .ok (.ireturn, 1) := by decide +kernel
theorem dX11_cover_15 : decode cX11_cover 15 = .ok (.aload_n 0, 1) := by decide +kernel
theorem dX11_cover_16 : decode cX11_cover 16 = .ok (.iload_n 1, 1) := by decide +kernel
theorem dX11_cover_17 : decode cX11_cover 17 = .ok (.invokevirtual 179, 3) := by decide +kernel
theorem dX11_cover_20 : decode cX11_cover 20 = .ok (.istore_n 2, 1) := by decide +kernel
theorem dX11_cover_21 : decode cX11_cover 21 = .ok (.iload_n 2, 1) := by decide +kernel
theorem dX11_cover_22 : decode cX11_cover 22 = .ok (.bipush 9, 2) := by decide +kernel
theorem dX11_cover_24 : decode cX11_cover 24 = .ok (.if_icmp .ne 8, 3) := by decide +kernel
theorem dX11_cover_27 : decode cX11_cover 27 = .ok (.bipush (-2), 2) := by decide +kernel
theorem dX11_cover_29 : decode cX11_cover 29 = .ok (.goto 4, 3) := by decide +kernel
theorem dX11_cover_32 : decode cX11_cover 32 = .ok (.iload_n 2, 1) := by decide +kernel
theorem dX11_cover_33 : decode cX11_cover 33 = .ok (.ireturn, 1) := by decide +kernel
theorem dX11_centres_0 : decode cX11_centres 0 = .ok (.aload_n 0, 1) := by decide +kernel
theorem dX11_centres_1 : decode cX11_centres 1 = .ok (.iconst 0, 1) := by decide +kernel
theorem dX11_centres_2 : decode cX11_centres 2 = .ok (.putfield 1, 3) := by decide +kernel
theorem dX11_centres_5 : decode cX11_centres 5 = .ok (.iload_n 1, 1) := by decide +kernel
theorem dX11_centres_6 : decode cX11_centres 6 = .ok (.iconst 1, 1) := by decide +kernel
theorem dX11_centres_7 : decode cX11_centres 7 = .ok (.bipush 8, 2) := by decide +kernel
theorem dX11_centres_9 : decode cX11_centres 9 = .ok (.invokestatic 81, 3) := by decide +kernel
theorem dX11_centres_12 : decode cX11_centres 12 = .ok (.ifCond .eq 11, 3) := by decide +kernel
theorem dX11_centres_15 : decode cX11_centres 15 = .ok (.aload_n 0, 1) := by decide +kernel
theorem dX11_centres_16 : decode cX11_centres 16 = .ok (.iconst 1, 1) := by decide +kernel
theorem dX11_centres_17 : decode cX11_centres 17 = .ok (.invokevirtual 141, 3) := by decide +kernel
theorem dX11_centres_20 : decode cX11_centres 20 = .ok (.ifCond .ne 5, 3) := by decide +kernel
theorem dX11_centres_23 : decode cX11_centres 23 = .ok (.iconst (-1), 1) := by decide +kernel
theorem dX11_centres_24 : decode cX11_centres 24 = .ok (.ireturn, 1) := by decide +kernel
theorem dX11_centres_25 : decode cX11_centres 25 = .ok (.iconst 0, 1) := by decide +kernel
theorem dX11_centres_26 : decode cX11_centres 26 = .ok (.istore_n 2, 1) := by decide +kernel
theorem dX11_centres_27 : decode cX11_centres 27 = .ok (.iload_n 2, 1) := by decide +kernel
theorem dX11_centres_28 : decode cX11_centres 28 = .ok (.bipush 64, 2) := by decide +kernel
theorem dX11_centres_30 : decode cX11_centres 30 = .ok (.if_icmp .ge 20, 3) := by decide +kernel
theorem dX11_centres_33 : decode cX11_centres 33 = .ok (.aload_n 0, 1) := by decide +kernel
theorem dX11_centres_34 : decode cX11_centres 34 = .ok (.iload_n 2, 1) := by decide +kernel
theorem dX11_centres_35 : decode cX11_centres 35 = .ok (.invokevirtual 179, 3) := by decide +kernel
theorem dX11_centres_38 : decode cX11_centres 38 = .ok (.iload_n 1, 1) := by decide +kernel
theorem dX11_centres_39 : decode cX11_centres 39 = .ok (.if_icmp .gt 5, 3) := by decide +kernel
theorem dX11_centres_42 : decode cX11_centres 42 = .ok (.iload_n 2, 1) := by decide +kernel
theorem dX11_centres_43 : decode cX11_centres 43 = .ok (.ireturn, 1) := by decide +kernel
theorem dX11_centres_44 : decode cX11_centres 44 = .ok (.iinc 2 1, 3) := by decide +kernel
theorem dX11_centres_47 : decode cX11_centres 47 = .ok (.goto (-20), 3) := by decide +kernel
theorem dX11_centres_50 : decode cX11_centres 50 = .ok (.iconst (-1), 1) := by decide +kernel
theorem dX11_centres_51 : decode cX11_centres 51 = .ok (.ireturn, 1) := by decide +kernel
theorem dX11_sumOf_0 : decode cX11_sumOf 0 = .ok (.iconst 0, 1) := by decide +kernel
theorem dX11_sumOf_1 : decode cX11_sumOf 1 = .ok (.istore_n 2, 1) := by decide +kernel
theorem dX11_sumOf_2 : decode cX11_sumOf 2 = .ok (.iconst 0, 1) := by decide +kernel
theorem dX11_sumOf_3 : decode cX11_sumOf 3 = .ok (.istore_n 3, 1) := by decide +kernel
theorem dX11_sumOf_4 : decode cX11_sumOf 4 = .ok (.iload_n 3, 1) := by decide +kernel
theorem dX11_sumOf_5 : decode cX11_sumOf 5 = .ok (.aload_n 0, 1) := by decide +kernel
theorem dX11_sumOf_6 : decode cX11_sumOf 6 = .ok (.getfield 85, 3) := by decide +kernel
theorem dX11_sumOf_9 : decode cX11_sumOf 9 = .ok (.if_icmp .ge 33, 3) := by decide +kernel
theorem dX11_sumOf_12 : decode cX11_sumOf 12 = .ok (.aload_n 0, 1) := by decide +kernel
theorem dX11_sumOf_13 : decode cX11_sumOf 13 = .ok (.getfield 27, 3) := by decide +kernel
theorem dX11_sumOf_16 : decode cX11_sumOf 16 = .ok (.iload_n 3, 1) := by decide +kernel
theorem dX11_sumOf_17 : decode cX11_sumOf 17 = .ok (.iaload, 1) := by decide +kernel
theorem dX11_sumOf_18 : decode cX11_sumOf 18 = .ok (.iconst 1, 1) := by decide +kernel
theorem dX11_sumOf_19 : decode cX11_sumOf 19 = .ok (.if_icmp .ne 17, 3) := by decide +kernel
theorem dX11_sumOf_22 : decode cX11_sumOf 22 = .ok (.iload_n 2, 1) := by decide +kernel
theorem dX11_sumOf_23 : decode cX11_sumOf 23 = .ok (.aload_n 0, 1) := by decide +kernel
theorem dX11_sumOf_24 : decode cX11_sumOf 24 = .ok (.getfield 46, 3) := by decide +kernel
theorem dX11_sumOf_27 : decode cX11_sumOf 27 = .ok (.bipush 8, 2) := by decide +kernel
theorem dX11_sumOf_29 : decode cX11_sumOf 29 = .ok (.iload_n 1, 1) := by decide +kernel
theorem dX11_sumOf_30 : decode cX11_sumOf 30 = .ok (.imul, 1) := by decide +kernel
theorem dX11_sumOf_31 : decode cX11_sumOf 31 = .ok (.iload_n 3, 1) := by decide +kernel
theorem dX11_sumOf_32 : decode cX11_sumOf 32 = .ok (.iadd, 1) := by decide +kernel
theorem dX11_sumOf_33 : decode cX11_sumOf 33 = .ok (.baload, 1) := by decide +kernel
theorem dX11_sumOf_34 : decode cX11_sumOf 34 = .ok (.iadd, 1) := by decide +kernel
theorem dX11_sumOf_35 : decode cX11_sumOf 35 = .ok (.istore_n 2, 1) := by decide +kernel
theorem dX11_sumOf_36 : decode cX11_sumOf 36 = .ok (.iinc 3 1, 3) := by decide +kernel
theorem dX11_sumOf_39 : decode cX11_sumOf 39 = .ok (.goto (-35), 3) := by decide +kernel
theorem dX11_sumOf_42 : decode cX11_sumOf 42 = .ok (.iload_n 2, 1) := by decide +kernel
theorem dX11_sumOf_43 : decode cX11_sumOf 43 = .ok (.ireturn, 1) := by decide +kernel
theorem dX11_leastSum_0 : decode cX11_leastSum 0 = .ok (.aload_n 0, 1) := by decide +kernel
theorem dX11_leastSum_1 : decode cX11_leastSum 1 = .ok (.iconst 1, 1) := by decide +kernel
theorem dX11_leastSum_2 : decode cX11_leastSum 2 = .ok (.invokevirtual 141, 3) := by decide +kernel
theorem dX11_leastSum_5 : decode cX11_leastSum 5 = .ok (.ifCond .ne 5, 3) := by decide +kernel
theorem dX11_leastSum_8 : decode cX11_leastSum 8 = .ok (.iconst (-1), 1) := by decide +kernel
theorem dX11_leastSum_9 : decode cX11_leastSum 9 = .ok (.ireturn, 1) := by decide +kernel
theorem dX11_leastSum_10 : decode cX11_leastSum 10 = .ok (.aload_n 0, 1) := by decide +kernel
theorem dX11_leastSum_11 : decode cX11_leastSum 11 = .ok (.invokevirtual 145, 3) := by decide +kernel
theorem dX11_leastSum_14 : decode cX11_leastSum 14 = .ok (.iconst (-1), 1) := by decide +kernel
theorem dX11_leastSum_15 : decode cX11_leastSum 15 = .ok (.istore_n 1, 1) := by decide +kernel
theorem dX11_leastSum_16 : decode cX11_leastSum 16 = .ok (.iconst 0, 1) := by decide +kernel
theorem dX11_leastSum_17 : decode cX11_leastSum 17 = .ok (.istore_n 2, 1) := by decide +kernel
theorem dX11_leastSum_18 : decode cX11_leastSum 18 = .ok (.aload_n 0, 1) := by decide +kernel
theorem dX11_leastSum_19 : decode cX11_leastSum 19 = .ok (.iconst 0, 1) := by decide +kernel
theorem dX11_leastSum_20 : decode cX11_leastSum 20 = .ok (.putfield 182, 3) := by decide +kernel
theorem dX11_leastSum_23 : decode cX11_leastSum 23 = .ok (.iconst 0, 1) := by decide +kernel
theorem dX11_leastSum_24 : decode cX11_leastSum 24 = .ok (.istore_n 3, 1) := by decide +kernel
theorem dX11_leastSum_25 : decode cX11_leastSum 25 = .ok (.iload_n 3, 1) := by decide +kernel
theorem dX11_leastSum_26 : decode cX11_leastSum 26 = .ok (.aload_n 0, 1) := by decide +kernel
theorem dX11_leastSum_27 : decode cX11_leastSum 27 = .ok (.invokevirtual 130, 3) := by decide +kernel
theorem dX11_leastSum_30 : decode cX11_leastSum 30 = .ok (.if_icmp .ge 64, 3) := by decide +kernel
theorem dX11_leastSum_33 : decode cX11_leastSum 33 = .ok (.aload_n 0, 1) := by decide +kernel
theorem dX11_leastSum_34 : decode cX11_leastSum 34 = .ok (.iload_n 3, 1) := by decide +kernel
theorem dX11_leastSum_35 : decode cX11_leastSum 35 = .ok (.invokevirtual 148, 3) := by decide +kernel
theorem dX11_leastSum_38 : decode cX11_leastSum 38 = .ok (.ifCond .ne 6, 3) := by decide +kernel
theorem dX11_leastSum_41 : decode cX11_leastSum 41 = .ok (.goto 47, 3) := by decide +kernel
theorem dX11_leastSum_44 : decode cX11_leastSum 44 = .ok (.aload_n 0, 1) := by decide +kernel
theorem dX11_leastSum_45 : decode cX11_leastSum 45 = .ok (.iload_n 3, 1) := by decide +kernel
theorem dX11_leastSum_46 : decode cX11_leastSum 46 = .ok (.invokevirtual 185, 3) := by decide +kernel
theorem dX11_leastSum_49 : decode cX11_leastSum 49 = .ok (.istore 4, 2) := by decide +kernel
theorem dX11_leastSum_51 : decode cX11_leastSum 51 = .ok (.iload_n 1, 1) := by decide +kernel
theorem dX11_leastSum_52 : decode cX11_leastSum 52 = .ok (.iconst (-1), 1) := by decide +kernel
theorem dX11_leastSum_53 : decode cX11_leastSum 53 = .ok (.if_icmp .eq 9, 3) := by decide +kernel
theorem dX11_leastSum_56 : decode cX11_leastSum 56 = .ok (.iload 4, 2) := by decide +kernel
theorem dX11_leastSum_58 : decode cX11_leastSum 58 = .ok (.iload_n 2, 1) := by decide +kernel
theorem dX11_leastSum_59 : decode cX11_leastSum 59 = .ok (.if_icmp .ge 13, 3) := by decide +kernel
theorem dX11_leastSum_62 : decode cX11_leastSum 62 = .ok (.iload_n 3, 1) := by decide +kernel
theorem dX11_leastSum_63 : decode cX11_leastSum 63 = .ok (.istore_n 1, 1) := by decide +kernel
theorem dX11_leastSum_64 : decode cX11_leastSum 64 = .ok (.iload 4, 2) := by decide +kernel
theorem dX11_leastSum_66 : decode cX11_leastSum 66 = .ok (.istore_n 2, 1) := by decide +kernel
theorem dX11_leastSum_67 : decode cX11_leastSum 67 = .ok (.aload_n 0, 1) := by decide +kernel
theorem dX11_leastSum_68 : decode cX11_leastSum 68 = .ok (.iconst 0, 1) := by decide +kernel
theorem dX11_leastSum_69 : decode cX11_leastSum 69 = .ok (.putfield 182, 3) := by decide +kernel
theorem dX11_leastSum_72 : decode cX11_leastSum 72 = .ok (.iload 4, 2) := by decide +kernel
theorem dX11_leastSum_74 : decode cX11_leastSum 74 = .ok (.iload_n 2, 1) := by decide +kernel
theorem dX11_leastSum_75 : decode cX11_leastSum 75 = .ok (.if_icmp .ne 13, 3) := by decide +kernel
theorem dX11_leastSum_78 : decode cX11_leastSum 78 = .ok (.aload_n 0, 1) := by decide +kernel
theorem dX11_leastSum_79 : decode cX11_leastSum 79 = .ok (.dup, 1) := by decide +kernel
theorem dX11_leastSum_80 : decode cX11_leastSum 80 = .ok (.getfield 182, 3) := by decide +kernel
theorem dX11_leastSum_83 : decode cX11_leastSum 83 = .ok (.iconst 1, 1) := by decide +kernel
theorem dX11_leastSum_84 : decode cX11_leastSum 84 = .ok (.iadd, 1) := by decide +kernel
theorem dX11_leastSum_85 : decode cX11_leastSum 85 = .ok (.putfield 182, 3) := by decide +kernel
theorem dX11_leastSum_88 : decode cX11_leastSum 88 = .ok (.iinc 3 1, 3) := by decide +kernel
theorem dX11_leastSum_91 : decode cX11_leastSum 91 = .ok (.goto (-66), 3) := by decide +kernel
theorem dX11_leastSum_94 : decode cX11_leastSum 94 = .ok (.iload_n 1, 1) := by decide +kernel
theorem dX11_leastSum_95 : decode cX11_leastSum 95 = .ok (.ireturn, 1) := by decide +kernel
theorem dX11_median_0 : decode cX11_median 0 = .ok (.aload_n 0, 1) := by decide +kernel
theorem dX11_median_1 : decode cX11_median 1 = .ok (.iconst 0, 1) := by decide +kernel
theorem dX11_median_2 : decode cX11_median 2 = .ok (.putfield 1, 3) := by decide +kernel
theorem dX11_median_5 : decode cX11_median 5 = .ok (.aload_n 0, 1) := by decide +kernel
theorem dX11_median_6 : decode cX11_median 6 = .ok (.invokevirtual 188, 3) := by decide +kernel
theorem dX11_median_9 : decode cX11_median 9 = .ok (.istore_n 1, 1) := by decide +kernel
theorem dX11_median_10 : decode cX11_median 10 = .ok (.iload_n 1, 1) := by decide +kernel
theorem dX11_median_11 : decode cX11_median 11 = .ok (.iconst (-1), 1) := by decide +kernel
theorem dX11_median_12 : decode cX11_median 12 = .ok (.if_icmp .ne 7, 3) := by decide +kernel
theorem dX11_median_15 : decode cX11_median 15 = .ok (.iconst (-1), 1) := by decide +kernel
theorem dX11_median_16 : decode cX11_median 16 = .ok (.goto 8, 3) := by decide +kernel
theorem dX11_median_19 : decode cX11_median 19 = .ok (.aload_n 0, 1) := by decide +kernel
theorem dX11_median_20 : decode cX11_median 20 = .ok (.iload_n 1, 1) := by decide +kernel
theorem dX11_median_21 : decode cX11_median 21 = .ok (.invokevirtual 185, 3) := by decide +kernel
theorem dX11_median_24 : decode cX11_median 24 = .ok (.ireturn, 1) := by decide +kernel
theorem dX11_medianAt_0 : decode cX11_medianAt 0 = .ok (.aload_n 0, 1) := by decide +kernel
theorem dX11_medianAt_1 : decode cX11_medianAt 1 = .ok (.iconst 0, 1) := by decide +kernel
theorem dX11_medianAt_2 : decode cX11_medianAt 2 = .ok (.putfield 1, 3) := by decide +kernel
theorem dX11_medianAt_5 : decode cX11_medianAt 5 = .ok (.aload_n 0, 1) := by decide +kernel
theorem dX11_medianAt_6 : decode cX11_medianAt 6 = .ok (.aload_n 0, 1) := by decide +kernel
theorem dX11_medianAt_7 : decode cX11_medianAt 7 = .ok (.invokevirtual 188, 3) := by decide +kernel
theorem dX11_medianAt_10 : decode cX11_medianAt 10 = .ok (.iload_n 1, 1) := by decide +kernel
theorem dX11_medianAt_11 : decode cX11_medianAt 11 = .ok (.invokevirtual 160, 3) := by decide +kernel
theorem dX11_medianAt_14 : decode cX11_medianAt 14 = .ok (.ireturn, 1) := by decide +kernel
theorem dX11_medians_0 : decode cX11_medians 0 = .ok (.aload_n 0, 1) := by decide +kernel
theorem dX11_medians_1 : decode cX11_medians 1 = .ok (.iconst 0, 1) := by decide +kernel
theorem dX11_medians_2 : decode cX11_medians 2 = .ok (.putfield 1, 3) := by decide +kernel
theorem dX11_medians_5 : decode cX11_medians 5 = .ok (.aload_n 0, 1) := by decide +kernel
theorem dX11_medians_6 : decode cX11_medians 6 = .ok (.invokevirtual 188, 3) := by decide +kernel
theorem dX11_medians_9 : decode cX11_medians 9 = .ok (.iconst (-1), 1) := by decide +kernel
theorem dX11_medians_10 : decode cX11_medians 10 = .ok (.if_icmp .ne 7, 3) := by decide +kernel
theorem dX11_medians_13 : decode cX11_medians 13 = .ok (.iconst (-1), 1) := by decide +kernel
theorem dX11_medians_14 : decode cX11_medians 14 = .ok (.goto 7, 3) := by decide +kernel
theorem dX11_medians_17 : decode cX11_medians 17 = .ok (.aload_n 0, 1) := by decide +kernel
theorem dX11_medians_18 : decode cX11_medians 18 = .ok (.getfield 182, 3) := by decide +kernel
theorem dX11_medians_21 : decode cX11_medians 21 = .ok (.ireturn, 1) := by decide +kernel
theorem dX11_edits_0 : decode cX11_edits 0 = .ok (.iconst 0, 1) := by decide +kernel
theorem dX11_edits_1 : decode cX11_edits 1 = .ok (.istore 7, 2) := by decide +kernel
theorem dX11_edits_3 : decode cX11_edits 3 = .ok (.iload 7, 2) := by decide +kernel
theorem dX11_edits_5 : decode cX11_edits 5 = .ok (.iload_n 3, 1) := by decide +kernel
theorem dX11_edits_6 : decode cX11_edits 6 = .ok (.if_icmp .gt 171, 3) := by decide +kernel
theorem dX11_edits_9 : decode cX11_edits 9 = .ok (.iconst 0, 1) := by decide +kernel
theorem dX11_edits_10 : decode cX11_edits 10 = .ok (.istore 8, 2) := by decide +kernel
theorem dX11_edits_12 : decode cX11_edits 12 = .ok (.iload 8, 2) := by decide +kernel
theorem dX11_edits_14 : decode cX11_edits 14 = .ok (.iload 6, 2) := by decide +kernel
theorem dX11_edits_16 : decode cX11_edits 16 = .ok (.if_icmp .gt 155, 3) := by decide +kernel
theorem dX11_edits_19 : decode cX11_edits 19 = .ok (.iload 7, 2) := by decide +kernel
theorem dX11_edits_21 : decode cX11_edits 21 = .ok (.ifCond .ne 13, 3) := by decide +kernel
theorem dX11_edits_24 : decode cX11_edits 24 = .ok (.aload_n 0, 1) := by decide +kernel
theorem dX11_edits_25 : decode cX11_edits 25 = .ok (.getfield 20, 3) := by decide +kernel
theorem dX11_edits_28 : decode cX11_edits 28 = .ok (.iload 8, 2) := by decide +kernel
theorem dX11_edits_30 : decode cX11_edits 30 = .ok (.imul, 1) := by decide +kernel
theorem dX11_edits_31 : decode cX11_edits 31 = .ok (.goto 62, 3) := by decide +kernel
theorem dX11_edits_34 : decode cX11_edits 34 = .ok (.iload 8, 2) := by decide +kernel
theorem dX11_edits_36 : decode cX11_edits 36 = .ok (.ifCond .ne 13, 3) := by decide +kernel
theorem dX11_edits_39 : decode cX11_edits 39 = .ok (.aload_n 0, 1) := by decide +kernel
theorem dX11_edits_40 : decode cX11_edits 40 = .ok (.getfield 20, 3) := by decide +kernel
theorem dX11_edits_43 : decode cX11_edits 43 = .ok (.iload 7, 2) := by decide +kernel
theorem dX11_edits_45 : decode cX11_edits 45 = .ok (.imul, 1) := by decide +kernel
theorem dX11_edits_46 : decode cX11_edits 46 = .ok (.goto 47, 3) := by decide +kernel
theorem dX11_edits_49 : decode cX11_edits 49 = .ok (.aload_n 0, 1) := by decide +kernel
theorem dX11_edits_50 : decode cX11_edits 50 = .ok (.getfield 59, 3) := by decide +kernel
theorem dX11_edits_53 : decode cX11_edits 53 = .ok (.bipush 9, 2) := by decide +kernel
theorem dX11_edits_55 : decode cX11_edits 55 = .ok (.iload 7, 2) := by decide +kernel
theorem dX11_edits_57 : decode cX11_edits 57 = .ok (.iconst 1, 1) := by decide +kernel
theorem dX11_edits_58 : decode cX11_edits 58 = .ok (.isub, 1) := by decide +kernel
theorem dX11_edits_59 : decode cX11_edits 59 = .ok (.imul, 1) := by decide +kernel
theorem dX11_edits_60 : decode cX11_edits 60 = .ok (.iload 8, 2) := by decide +kernel
theorem dX11_edits_62 : decode cX11_edits 62 = .ok (.iadd, 1) := by decide +kernel
theorem dX11_edits_63 : decode cX11_edits 63 = .ok (.iconst 1, 1) := by decide +kernel
theorem dX11_edits_64 : decode cX11_edits 64 = .ok (.isub, 1) := by decide +kernel
theorem dX11_edits_65 : decode cX11_edits 65 = .ok (.iaload, 1) := by decide +kernel
theorem dX11_edits_66 : decode cX11_edits 66 = .ok (.aload_n 0, 1) := by decide +kernel
theorem dX11_edits_67 : decode cX11_edits 67 = .ok (.getfield 16, 3) := by decide +kernel
theorem dX11_edits_70 : decode cX11_edits 70 = .ok (.iconst 4, 1) := by decide +kernel
theorem dX11_edits_71 : decode cX11_edits 71 = .ok (.aload_n 1, 1) := by decide +kernel
theorem dX11_edits_72 : decode cX11_edits 72 = .ok (.iload_n 2, 1) := by decide +kernel
theorem dX11_edits_73 : decode cX11_edits 73 = .ok (.iload 7, 2) := by decide +kernel
theorem dX11_edits_75 : decode cX11_edits 75 = .ok (.iadd, 1) := by decide +kernel
theorem dX11_edits_76 : decode cX11_edits 76 = .ok (.iconst 1, 1) := by decide +kernel
theorem dX11_edits_77 : decode cX11_edits 77 = .ok (.isub, 1) := by decide +kernel
theorem dX11_edits_78 : decode cX11_edits 78 = .ok (.baload, 1) := by decide +kernel
theorem dX11_edits_79 : decode cX11_edits 79 = .ok (.imul, 1) := by decide +kernel
theorem dX11_edits_80 : decode cX11_edits 80 = .ok (.aload 4, 2) := by decide +kernel
theorem dX11_edits_82 : decode cX11_edits 82 = .ok (.iload 5, 2) := by decide +kernel
theorem dX11_edits_84 : decode cX11_edits 84 = .ok (.iload 8, 2) := by decide +kernel
theorem dX11_edits_86 : decode cX11_edits 86 = .ok (.iadd, 1) := by decide +kernel
theorem dX11_edits_87 : decode cX11_edits 87 = .ok (.iconst 1, 1) := by decide +kernel
theorem dX11_edits_88 : decode cX11_edits 88 = .ok (.isub, 1) := by decide +kernel
theorem dX11_edits_89 : decode cX11_edits 89 = .ok (.baload, 1) := by decide +kernel
theorem dX11_edits_90 : decode cX11_edits 90 = .ok (.iadd, 1) := by decide +kernel
theorem dX11_edits_91 : decode cX11_edits 91 = .ok (.iaload, 1) := by decide +kernel
theorem dX11_edits_92 : decode cX11_edits 92 = .ok (.iadd, 1) := by decide +kernel
theorem dX11_edits_93 : decode cX11_edits 93 = .ok (.istore 9, 2) := by decide +kernel
theorem dX11_edits_95 : decode cX11_edits 95 = .ok (.iload 7, 2) := by decide +kernel
theorem dX11_edits_97 : decode cX11_edits 97 = .ok (.ifCond .le 53, 3) := by decide +kernel
theorem dX11_edits_100 : decode cX11_edits 100 = .ok (.iload 8, 2) := by decide +kernel
theorem dX11_edits_102 : decode cX11_edits 102 = .ok (.ifCond .le 48, 3) := by decide +kernel
theorem dX11_edits_105 : decode cX11_edits 105 = .ok (.iload 9, 2) := by decide +kernel
theorem dX11_edits_107 : decode cX11_edits 107 = .ok (.aload_n 0, 1) := by decide +kernel
theorem dX11_edits_108 : decode cX11_edits 108 = .ok (.getfield 20, 3) := by decide +kernel
theorem dX11_edits_111 : decode cX11_edits 111 = .ok (.aload_n 0, 1) := by decide +kernel
theorem dX11_edits_112 : decode cX11_edits 112 = .ok (.getfield 59, 3) := by decide +kernel
theorem dX11_edits_115 : decode cX11_edits 115 = .ok (.bipush 9, 2) := by decide +kernel
theorem dX11_edits_117 : decode cX11_edits 117 = .ok (.iload 7, 2) := by decide +kernel
theorem dX11_edits_119 : decode cX11_edits 119 = .ok (.iconst 1, 1) := by decide +kernel
theorem dX11_edits_120 : decode cX11_edits 120 = .ok (.isub, 1) := by decide +kernel
theorem dX11_edits_121 : decode cX11_edits 121 = .ok (.imul, 1) := by decide +kernel
theorem dX11_edits_122 : decode cX11_edits 122 = .ok (.iload 8, 2) := by decide +kernel
theorem dX11_edits_124 : decode cX11_edits 124 = .ok (.iadd, 1) := by decide +kernel
theorem dX11_edits_125 : decode cX11_edits 125 = .ok (.iaload, 1) := by decide +kernel
theorem dX11_edits_126 : decode cX11_edits 126 = .ok (.aload_n 0, 1) := by decide +kernel
theorem dX11_edits_127 : decode cX11_edits 127 = .ok (.getfield 59, 3) := by decide +kernel
theorem dX11_edits_130 : decode cX11_edits 130 = .ok (.bipush 9, 2) := by decide +kernel
theorem dX11_edits_132 : decode cX11_edits 132 = .ok (.iload 7, 2) := by decide +kernel
theorem dX11_edits_134 : decode cX11_edits 134 = .ok (.imul, 1) := by decide +kernel
theorem dX11_edits_135 : decode cX11_edits 135 = .ok (.iload 8, 2) := by decide +kernel
theorem dX11_edits_137 : decode cX11_edits 137 = .ok (.iadd, 1) := by decide +kernel
theorem dX11_edits_138 : decode cX11_edits 138 = .ok (.iconst 1, 1) := by decide +kernel
theorem dX11_edits_139 : decode cX11_edits 139 = .ok (.isub, 1) := by decide +kernel
theorem dX11_edits_140 : decode cX11_edits 140 = .ok (.iaload, 1) := by decide +kernel
theorem dX11_edits_141 : decode cX11_edits 141 = .ok (.invokestatic 117, 3) := by decide +kernel
theorem dX11_edits_144 : decode cX11_edits 144 = .ok (.iadd, 1) := by decide +kernel
theorem dX11_edits_145 : decode cX11_edits 145 = .ok (.invokestatic 117, 3) := by decide +kernel
theorem dX11_edits_148 : decode cX11_edits 148 = .ok (.istore 9, 2) := by decide +kernel
theorem dX11_edits_150 : decode cX11_edits 150 = .ok (.aload_n 0, 1) := by decide +kernel
theorem dX11_edits_151 : decode cX11_edits 151 = .ok (.getfield 59, 3) := by decide +kernel
theorem dX11_edits_154 : decode cX11_edits 154 = .ok (.bipush 9, 2) := by decide +kernel
theorem dX11_edits_156 : decode cX11_edits 156 = .ok (.iload 7, 2) := by decide +kernel
theorem dX11_edits_158 : decode cX11_edits 158 = .ok (.imul, 1) := by decide +kernel
theorem dX11_edits_159 : decode cX11_edits 159 = .ok (.iload 8, 2) := by decide +kernel
theorem dX11_edits_161 : decode cX11_edits 161 = .ok (.iadd, 1) := by decide +kernel
theorem dX11_edits_162 : decode cX11_edits 162 = .ok (.iload 9, 2) := by decide +kernel
theorem dX11_edits_164 : decode cX11_edits 164 = .ok (.iastore, 1) := by decide +kernel
theorem dX11_edits_165 : decode cX11_edits 165 = .ok (.iinc 8 1, 3) := by decide +kernel
theorem dX11_edits_168 : decode cX11_edits 168 = .ok (.goto (-156), 3) := by decide +kernel
theorem dX11_edits_171 : decode cX11_edits 171 = .ok (.iinc 7 1, 3) := by decide +kernel
theorem dX11_edits_174 : decode cX11_edits 174 = .ok (.goto (-171), 3) := by decide +kernel
theorem dX11_edits_177 : decode cX11_edits 177 = .ok (.aload_n 0, 1) := by decide +kernel
theorem dX11_edits_178 : decode cX11_edits 178 = .ok (.getfield 59, 3) := by decide +kernel
theorem dX11_edits_181 : decode cX11_edits 181 = .ok (.bipush 9, 2) := by decide +kernel
theorem dX11_edits_183 : decode cX11_edits 183 = .ok (.iload_n 3, 1) := by decide +kernel
theorem dX11_edits_184 : decode cX11_edits 184 = .ok (.imul, 1) := by decide +kernel
theorem dX11_edits_185 : decode cX11_edits 185 = .ok (.iload 6, 2) := by decide +kernel
theorem dX11_edits_187 : decode cX11_edits 187 = .ok (.iadd, 1) := by decide +kernel
theorem dX11_edits_188 : decode cX11_edits 188 = .ok (.iaload, 1) := by decide +kernel
theorem dX11_edits_189 : decode cX11_edits 189 = .ok (.ireturn, 1) := by decide +kernel
theorem dX11_edits__0 : decode cX11_edits_ 0 = .ok (.aload_n 0, 1) := by decide +kernel
theorem dX11_edits__1 : decode cX11_edits_ 1 = .ok (.iconst 0, 1) := by decide +kernel
theorem dX11_edits__2 : decode cX11_edits_ 2 = .ok (.putfield 1, 3) := by decide +kernel
theorem dX11_edits__5 : decode cX11_edits_ 5 = .ok (.aload_n 0, 1) := by decide +kernel
theorem dX11_edits__6 : decode cX11_edits_ 6 = .ok (.iload_n 1, 1) := by decide +kernel
theorem dX11_edits__7 : decode cX11_edits_ 7 = .ok (.invokevirtual 113, 3) := by decide +kernel
theorem dX11_edits__10 : decode cX11_edits_ 10 = .ok (.ifCond .eq 42, 3) := by decide +kernel
theorem dX11_edits__13 : decode cX11_edits_ 13 = .ok (.aload_n 0, 1) := by decide +kernel
theorem dX11_edits__14 : decode cX11_edits_ 14 = .ok (.iload_n 2, 1) := by decide +kernel
theorem dX11_edits__15 : decode cX11_edits_ 15 = .ok (.invokevirtual 113, 3) := by decide +kernel
theorem dX11_edits__18 : decode cX11_edits_ 18 = .ok (.ifCond .eq 34, 3) := by decide +kernel
theorem dX11_edits__21 : decode cX11_edits_ 21 = .ok (.aload_n 0, 1) := by decide +kernel
theorem dX11_edits__22 : decode cX11_edits_ 22 = .ok (.aload_n 0, 1) := by decide +kernel
theorem dX11_edits__23 : decode cX11_edits_ 23 = .ok (.getfield 23, 3) := by decide +kernel
theorem dX11_edits__26 : decode cX11_edits_ 26 = .ok (.bipush 7, 2) := by decide +kernel
theorem dX11_edits__28 : decode cX11_edits_ 28 = .ok (.iload_n 1, 1) := by decide +kernel
theorem dX11_edits__29 : decode cX11_edits_ 29 = .ok (.imul, 1) := by decide +kernel
theorem dX11_edits__30 : decode cX11_edits_ 30 = .ok (.aload_n 0, 1) := by decide +kernel
theorem dX11_edits__31 : decode cX11_edits_ 31 = .ok (.getfield 110, 3) := by decide +kernel
theorem dX11_edits__34 : decode cX11_edits_ 34 = .ok (.aload_n 0, 1) := by decide +kernel
theorem dX11_edits__35 : decode cX11_edits_ 35 = .ok (.getfield 23, 3) := by decide +kernel
theorem dX11_edits__38 : decode cX11_edits_ 38 = .ok (.bipush 7, 2) := by decide +kernel
theorem dX11_edits__40 : decode cX11_edits_ 40 = .ok (.iload_n 2, 1) := by decide +kernel
theorem dX11_edits__41 : decode cX11_edits_ 41 = .ok (.imul, 1) := by decide +kernel
theorem dX11_edits__42 : decode cX11_edits_ 42 = .ok (.aload_n 0, 1) := by decide +kernel
theorem dX11_edits__43 : decode cX11_edits_ 43 = .ok (.getfield 110, 3) := by decide +kernel
theorem dX11_edits__46 : decode cX11_edits_ 46 = .ok (.invokevirtual 191, 3) := by decide +kernel
theorem dX11_edits__49 : decode cX11_edits_ 49 = .ok (.goto 4, 3) := by decide +kernel
theorem dX11_edits__52 : decode cX11_edits_ 52 = .ok (.iconst (-1), 1) := by decide +kernel
theorem dX11_edits__53 : decode cX11_edits_ 53 = .ok (.ireturn, 1) := by decide +kernel
theorem dX11_editsFrom_0 : decode cX11_editsFrom 0 = .ok (.aload_n 0, 1) := by decide +kernel
theorem dX11_editsFrom_1 : decode cX11_editsFrom 1 = .ok (.iconst 0, 1) := by decide +kernel
theorem dX11_editsFrom_2 : decode cX11_editsFrom 2 = .ok (.putfield 1, 3) := by decide +kernel
theorem dX11_editsFrom_5 : decode cX11_editsFrom 5 = .ok (.aload_n 0, 1) := by decide +kernel
theorem dX11_editsFrom_6 : decode cX11_editsFrom 6 = .ok (.iconst 1, 1) := by decide +kernel
theorem dX11_editsFrom_7 : decode cX11_editsFrom 7 = .ok (.bipush 8, 2) := by decide +kernel
theorem dX11_editsFrom_9 : decode cX11_editsFrom 9 = .ok (.invokevirtual 106, 3) := by decide +kernel
theorem dX11_editsFrom_12 : decode cX11_editsFrom 12 = .ok (.istore_n 2, 1) := by decide +kernel
theorem dX11_editsFrom_13 : decode cX11_editsFrom 13 = .ok (.iload_n 2, 1) := by decide +kernel
theorem dX11_editsFrom_14 : decode cX11_editsFrom 14 = .ok (.ifCond .eq 39, 3) := by decide +kernel
theorem dX11_editsFrom_17 : decode cX11_editsFrom 17 = .ok (.aload_n 0, 1) := by decide +kernel
theorem dX11_editsFrom_18 : decode cX11_editsFrom 18 = .ok (.iload_n 1, 1) := by decide +kernel
theorem dX11_editsFrom_19 : decode cX11_editsFrom 19 = .ok (.invokevirtual 113, 3) := by decide +kernel
theorem dX11_editsFrom_22 : decode cX11_editsFrom 22 = .ok (.ifCond .eq 31, 3) := by decide +kernel
theorem dX11_editsFrom_25 : decode cX11_editsFrom 25 = .ok (.aload_n 0, 1) := by decide +kernel
theorem dX11_editsFrom_26 : decode cX11_editsFrom 26 = .ok (.aload_n 0, 1) := by decide +kernel
theorem dX11_editsFrom_27 : decode cX11_editsFrom 27 = .ok (.getfield 39, 3) := by decide +kernel
theorem dX11_editsFrom_30 : decode cX11_editsFrom 30 = .ok (.iconst 0, 1) := by decide +kernel
theorem dX11_editsFrom_31 : decode cX11_editsFrom 31 = .ok (.aload_n 0, 1) := by decide +kernel
theorem dX11_editsFrom_32 : decode cX11_editsFrom 32 = .ok (.getfield 103, 3) := by decide +kernel
theorem dX11_editsFrom_35 : decode cX11_editsFrom 35 = .ok (.aload_n 0, 1) := by decide +kernel
theorem dX11_editsFrom_36 : decode cX11_editsFrom 36 = .ok (.getfield 23, 3) := by decide +kernel
theorem dX11_editsFrom_39 : decode cX11_editsFrom 39 = .ok (.bipush 7, 2) := by decide +kernel
theorem dX11_editsFrom_41 : decode cX11_editsFrom 41 = .ok (.iload_n 1, 1) := by decide +kernel
theorem dX11_editsFrom_42 : decode cX11_editsFrom 42 = .ok (.imul, 1) := by decide +kernel
theorem dX11_editsFrom_43 : decode cX11_editsFrom 43 = .ok (.aload_n 0, 1) := by decide +kernel
theorem dX11_editsFrom_44 : decode cX11_editsFrom 44 = .ok (.getfield 110, 3) := by decide +kernel
theorem dX11_editsFrom_47 : decode cX11_editsFrom 47 = .ok (.invokevirtual 191, 3) := by decide +kernel
theorem dX11_editsFrom_50 : decode cX11_editsFrom 50 = .ok (.goto 4, 3) := by decide +kernel
theorem dX11_editsFrom_53 : decode cX11_editsFrom 53 = .ok (.iconst (-1), 1) := by decide +kernel
theorem dX11_editsFrom_54 : decode cX11_editsFrom 54 = .ok (.ireturn, 1) := by decide +kernel
theorem dX11_goesOn_0 : decode cX11_goesOn 0 = .ok (.bipush 81, 2) := by decide +kernel
theorem dX11_goesOn_2 : decode cX11_goesOn 2 = .ok (.iload_n 1, 1) := by decide +kernel
theorem dX11_goesOn_3 : decode cX11_goesOn 3 = .ok (.imul, 1) := by decide +kernel
theorem dX11_goesOn_4 : decode cX11_goesOn 4 = .ok (.bipush 9, 2) := by decide +kernel
theorem dX11_goesOn_6 : decode cX11_goesOn 6 = .ok (.iload_n 2, 1) := by decide +kernel
theorem dX11_goesOn_7 : decode cX11_goesOn 7 = .ok (.imul, 1) := by decide +kernel
theorem dX11_goesOn_8 : decode cX11_goesOn 8 = .ok (.iadd, 1) := by decide +kernel
theorem dX11_goesOn_9 : decode cX11_goesOn 9 = .ok (.istore_n 3, 1) := by decide +kernel
theorem dX11_goesOn_10 : decode cX11_goesOn 10 = .ok (.iload_n 3, 1) := by decide +kernel
theorem dX11_goesOn_11 : decode cX11_goesOn 11 = .ok (.bipush 9, 2) := by decide +kernel
theorem dX11_goesOn_13 : decode cX11_goesOn 13 = .ok (.isub, 1) := by decide +kernel
theorem dX11_goesOn_14 : decode cX11_goesOn 14 = .ok (.istore 4, 2) := by decide +kernel
theorem dX11_goesOn_16 : decode cX11_goesOn 16 = .ok (.aload_n 0, 1) := by decide +kernel
theorem dX11_goesOn_17 : decode cX11_goesOn 17 = .ok (.getfield 62, 3) := by decide +kernel
theorem dX11_goesOn_20 : decode cX11_goesOn 20 = .ok (.iload_n 3, 1) := by decide +kernel
theorem dX11_goesOn_21 : decode cX11_goesOn 21 = .ok (.aload_n 0, 1) := by decide +kernel
theorem dX11_goesOn_22 : decode cX11_goesOn 22 = .ok (.getfield 20, 3) := by decide +kernel
theorem dX11_goesOn_25 : decode cX11_goesOn 25 = .ok (.iload_n 2, 1) := by decide +kernel
theorem dX11_goesOn_26 : decode cX11_goesOn 26 = .ok (.imul, 1) := by decide +kernel
theorem dX11_goesOn_27 : decode cX11_goesOn 27 = .ok (.iastore, 1) := by decide +kernel
theorem dX11_goesOn_28 : decode cX11_goesOn 28 = .ok (.iconst 1, 1) := by decide +kernel
theorem dX11_goesOn_29 : decode cX11_goesOn 29 = .ok (.istore 5, 2) := by decide +kernel
theorem dX11_goesOn_31 : decode cX11_goesOn 31 = .ok (.iload 5, 2) := by decide +kernel
theorem dX11_goesOn_33 : decode cX11_goesOn 33 = .ok (.aload_n 0, 1) := by decide +kernel
theorem dX11_goesOn_34 : decode cX11_goesOn 34 = .ok (.getfield 110, 3) := by decide +kernel
theorem dX11_goesOn_37 : decode cX11_goesOn 37 = .ok (.if_icmp .gt 97, 3) := by decide +kernel
theorem dX11_goesOn_40 : decode cX11_goesOn 40 = .ok (.aload_n 0, 1) := by decide +kernel
theorem dX11_goesOn_41 : decode cX11_goesOn 41 = .ok (.getfield 62, 3) := by decide +kernel
theorem dX11_goesOn_44 : decode cX11_goesOn 44 = .ok (.iload 4, 2) := by decide +kernel
theorem dX11_goesOn_46 : decode cX11_goesOn 46 = .ok (.iload 5, 2) := by decide +kernel
theorem dX11_goesOn_48 : decode cX11_goesOn 48 = .ok (.iadd, 1) := by decide +kernel
theorem dX11_goesOn_49 : decode cX11_goesOn 49 = .ok (.iconst 1, 1) := by decide +kernel
theorem dX11_goesOn_50 : decode cX11_goesOn 50 = .ok (.isub, 1) := by decide +kernel
theorem dX11_goesOn_51 : decode cX11_goesOn 51 = .ok (.iaload, 1) := by decide +kernel
theorem dX11_goesOn_52 : decode cX11_goesOn 52 = .ok (.aload_n 0, 1) := by decide +kernel
theorem dX11_goesOn_53 : decode cX11_goesOn 53 = .ok (.getfield 16, 3) := by decide +kernel
theorem dX11_goesOn_56 : decode cX11_goesOn 56 = .ok (.iconst 4, 1) := by decide +kernel
theorem dX11_goesOn_57 : decode cX11_goesOn 57 = .ok (.aload_n 0, 1) := by decide +kernel
theorem dX11_goesOn_58 : decode cX11_goesOn 58 = .ok (.getfield 68, 3) := by decide +kernel
theorem dX11_goesOn_61 : decode cX11_goesOn 61 = .ok (.iload_n 2, 1) := by decide +kernel
theorem dX11_goesOn_62 : decode cX11_goesOn 62 = .ok (.iconst 1, 1) := by decide +kernel
theorem dX11_goesOn_63 : decode cX11_goesOn 63 = .ok (.isub, 1) := by decide +kernel
theorem dX11_goesOn_64 : decode cX11_goesOn 64 = .ok (.baload, 1) := by decide +kernel
theorem dX11_goesOn_65 : decode cX11_goesOn 65 = .ok (.imul, 1) := by decide +kernel
theorem dX11_goesOn_66 : decode cX11_goesOn 66 = .ok (.aload_n 0, 1) := by decide +kernel
theorem dX11_goesOn_67 : decode cX11_goesOn 67 = .ok (.getfield 23, 3) := by decide +kernel
theorem dX11_goesOn_70 : decode cX11_goesOn 70 = .ok (.bipush 7, 2) := by decide +kernel
theorem dX11_goesOn_72 : decode cX11_goesOn 72 = .ok (.iload_n 1, 1) := by decide +kernel
theorem dX11_goesOn_73 : decode cX11_goesOn 73 = .ok (.imul, 1) := by decide +kernel
theorem dX11_goesOn_74 : decode cX11_goesOn 74 = .ok (.iload 5, 2) := by decide +kernel
theorem dX11_goesOn_76 : decode cX11_goesOn 76 = .ok (.iadd, 1) := by decide +kernel
theorem dX11_goesOn_77 : decode cX11_goesOn 77 = .ok (.iconst 1, 1) := by decide +kernel
theorem dX11_goesOn_78 : decode cX11_goesOn 78 = .ok (.isub, 1) := by decide +kernel
theorem dX11_goesOn_79 : decode cX11_goesOn 79 = .ok (.baload, 1) := by decide +kernel
theorem dX11_goesOn_80 : decode cX11_goesOn 80 = .ok (.iadd, 1) := by decide +kernel
theorem dX11_goesOn_81 : decode cX11_goesOn 81 = .ok (.iaload, 1) := by decide +kernel
theorem dX11_goesOn_82 : decode cX11_goesOn 82 = .ok (.iadd, 1) := by decide +kernel
theorem dX11_goesOn_83 : decode cX11_goesOn 83 = .ok (.istore 6, 2) := by decide +kernel
theorem dX11_goesOn_85 : decode cX11_goesOn 85 = .ok (.aload_n 0, 1) := by decide +kernel
theorem dX11_goesOn_86 : decode cX11_goesOn 86 = .ok (.getfield 62, 3) := by decide +kernel
theorem dX11_goesOn_89 : decode cX11_goesOn 89 = .ok (.iload_n 3, 1) := by decide +kernel
theorem dX11_goesOn_90 : decode cX11_goesOn 90 = .ok (.iload 5, 2) := by decide +kernel
theorem dX11_goesOn_92 : decode cX11_goesOn 92 = .ok (.iadd, 1) := by decide +kernel
theorem dX11_goesOn_93 : decode cX11_goesOn 93 = .ok (.iload 6, 2) := by decide +kernel
theorem dX11_goesOn_95 : decode cX11_goesOn 95 = .ok (.aload_n 0, 1) := by decide +kernel
theorem dX11_goesOn_96 : decode cX11_goesOn 96 = .ok (.getfield 20, 3) := by decide +kernel
theorem dX11_goesOn_99 : decode cX11_goesOn 99 = .ok (.aload_n 0, 1) := by decide +kernel
theorem dX11_goesOn_100 : decode cX11_goesOn 100 = .ok (.getfield 62, 3) := by decide +kernel
theorem dX11_goesOn_103 : decode cX11_goesOn 103 = .ok (.iload 4, 2) := by decide +kernel
theorem dX11_goesOn_105 : decode cX11_goesOn 105 = .ok (.iload 5, 2) := by decide +kernel
theorem dX11_goesOn_107 : decode cX11_goesOn 107 = .ok (.iadd, 1) := by decide +kernel
theorem dX11_goesOn_108 : decode cX11_goesOn 108 = .ok (.iaload, 1) := by decide +kernel
theorem dX11_goesOn_109 : decode cX11_goesOn 109 = .ok (.aload_n 0, 1) := by decide +kernel
theorem dX11_goesOn_110 : decode cX11_goesOn 110 = .ok (.getfield 62, 3) := by decide +kernel
theorem dX11_goesOn_113 : decode cX11_goesOn 113 = .ok (.iload_n 3, 1) := by decide +kernel
theorem dX11_goesOn_114 : decode cX11_goesOn 114 = .ok (.iload 5, 2) := by decide +kernel
theorem dX11_goesOn_116 : decode cX11_goesOn 116 = .ok (.iadd, 1) := by decide +kernel
theorem dX11_goesOn_117 : decode cX11_goesOn 117 = .ok (.iconst 1, 1) := by decide +kernel
theorem dX11_goesOn_118 : decode cX11_goesOn 118 = .ok (.isub, 1) := by decide +kernel
theorem dX11_goesOn_119 : decode cX11_goesOn 119 = .ok (.iaload, 1) := by decide +kernel
theorem dX11_goesOn_120 : decode cX11_goesOn 120 = .ok (.invokestatic 117, 3) := by decide +kernel
theorem dX11_goesOn_123 : decode cX11_goesOn 123 = .ok (.iadd, 1) := by decide +kernel
theorem dX11_goesOn_124 : decode cX11_goesOn 124 = .ok (.invokestatic 117, 3) := by decide +kernel
theorem dX11_goesOn_127 : decode cX11_goesOn 127 = .ok (.iastore, 1) := by decide +kernel
theorem dX11_goesOn_128 : decode cX11_goesOn 128 = .ok (.iinc 5 1, 3) := by decide +kernel
theorem dX11_goesOn_131 : decode cX11_goesOn 131 = .ok (.goto (-100), 3) := by decide +kernel
theorem dX11_goesOn_134 : decode cX11_goesOn 134 = .ok (.return_, 1) := by decide +kernel
theorem dX11_tries_0 : decode cX11_tries 0 = .ok (.iload_n 1, 1) := by decide +kernel
theorem dX11_tries_1 : decode cX11_tries 1 = .ok (.iload_n 2, 1) := by decide +kernel
theorem dX11_tries_2 : decode cX11_tries 2 = .ok (.if_icmp .ne 113, 3) := by decide +kernel
theorem dX11_tries_5 : decode cX11_tries 5 = .ok (.iconst 0, 1) := by decide +kernel
theorem dX11_tries_6 : decode cX11_tries 6 = .ok (.istore_n 3, 1) := by decide +kernel
theorem dX11_tries_7 : decode cX11_tries 7 = .ok (.iconst 0, 1) := by decide +kernel
theorem dX11_tries_8 : decode cX11_tries 8 = .ok (.istore 4, 2) := by decide +kernel
theorem dX11_tries_10 : decode cX11_tries 10 = .ok (.iload 4, 2) := by decide +kernel
theorem dX11_tries_12 : decode cX11_tries 12 = .ok (.aload_n 0, 1) := by decide +kernel
theorem dX11_tries_13 : decode cX11_tries 13 = .ok (.getfield 85, 3) := by decide +kernel
theorem dX11_tries_16 : decode cX11_tries 16 = .ok (.if_icmp .ge 43, 3) := by decide +kernel
theorem dX11_tries_19 : decode cX11_tries 19 = .ok (.aload_n 0, 1) := by decide +kernel
theorem dX11_tries_20 : decode cX11_tries 20 = .ok (.getfield 27, 3) := by decide +kernel
theorem dX11_tries_23 : decode cX11_tries 23 = .ok (.iload 4, 2) := by decide +kernel
theorem dX11_tries_25 : decode cX11_tries 25 = .ok (.iaload, 1) := by decide +kernel
theorem dX11_tries_26 : decode cX11_tries 26 = .ok (.iconst 1, 1) := by decide +kernel
theorem dX11_tries_27 : decode cX11_tries 27 = .ok (.if_icmp .ne 26, 3) := by decide +kernel
theorem dX11_tries_30 : decode cX11_tries 30 = .ok (.iload_n 3, 1) := by decide +kernel
theorem dX11_tries_31 : decode cX11_tries 31 = .ok (.aload_n 0, 1) := by decide +kernel
theorem dX11_tries_32 : decode cX11_tries 32 = .ok (.getfield 62, 3) := by decide +kernel
theorem dX11_tries_35 : decode cX11_tries 35 = .ok (.bipush 81, 2) := by decide +kernel
theorem dX11_tries_37 : decode cX11_tries 37 = .ok (.iload 4, 2) := by decide +kernel
theorem dX11_tries_39 : decode cX11_tries 39 = .ok (.imul, 1) := by decide +kernel
theorem dX11_tries_40 : decode cX11_tries 40 = .ok (.bipush 9, 2) := by decide +kernel
theorem dX11_tries_42 : decode cX11_tries 42 = .ok (.iload_n 1, 1) := by decide +kernel
theorem dX11_tries_43 : decode cX11_tries 43 = .ok (.imul, 1) := by decide +kernel
theorem dX11_tries_44 : decode cX11_tries 44 = .ok (.iadd, 1) := by decide +kernel
theorem dX11_tries_45 : decode cX11_tries 45 = .ok (.aload_n 0, 1) := by decide +kernel
theorem dX11_tries_46 : decode cX11_tries 46 = .ok (.getfield 110, 3) := by decide +kernel
theorem dX11_tries_49 : decode cX11_tries 49 = .ok (.iadd, 1) := by decide +kernel
theorem dX11_tries_50 : decode cX11_tries 50 = .ok (.iaload, 1) := by decide +kernel
theorem dX11_tries_51 : decode cX11_tries 51 = .ok (.iadd, 1) := by decide +kernel
theorem dX11_tries_52 : decode cX11_tries 52 = .ok (.istore_n 3, 1) := by decide +kernel
theorem dX11_tries_53 : decode cX11_tries 53 = .ok (.iinc 4 1, 3) := by decide +kernel
theorem dX11_tries_56 : decode cX11_tries 56 = .ok (.goto (-46), 3) := by decide +kernel
theorem dX11_tries_59 : decode cX11_tries 59 = .ok (.aload_n 0, 1) := by decide +kernel
theorem dX11_tries_60 : decode cX11_tries 60 = .ok (.getfield 195, 3) := by decide +kernel
theorem dX11_tries_63 : decode cX11_tries 63 = .ok (.ifCond .eq 12, 3) := by decide +kernel
theorem dX11_tries_66 : decode cX11_tries 66 = .ok (.iload_n 3, 1) := by decide +kernel
theorem dX11_tries_67 : decode cX11_tries 67 = .ok (.aload_n 0, 1) := by decide +kernel
theorem dX11_tries_68 : decode cX11_tries 68 = .ok (.getfield 198, 3) := by decide +kernel
theorem dX11_tries_71 : decode cX11_tries 71 = .ok (.if_icmp .lt 4, 3) := by decide +kernel
theorem dX11_tries_74 : decode cX11_tries 74 = .ok (.return_, 1) := by decide +kernel
theorem dX11_tries_75 : decode cX11_tries 75 = .ok (.aload_n 0, 1) := by decide +kernel
theorem dX11_tries_76 : decode cX11_tries 76 = .ok (.iload_n 3, 1) := by decide +kernel
theorem dX11_tries_77 : decode cX11_tries 77 = .ok (.putfield 198, 3) := by decide +kernel
theorem dX11_tries_80 : decode cX11_tries 80 = .ok (.aload_n 0, 1) := by decide +kernel
theorem dX11_tries_81 : decode cX11_tries 81 = .ok (.iload_n 2, 1) := by decide +kernel
theorem dX11_tries_82 : decode cX11_tries 82 = .ok (.putfield 195, 3) := by decide +kernel
theorem dX11_tries_85 : decode cX11_tries 85 = .ok (.iconst 0, 1) := by decide +kernel
theorem dX11_tries_86 : decode cX11_tries 86 = .ok (.istore 4, 2) := by decide +kernel
theorem dX11_tries_88 : decode cX11_tries 88 = .ok (.iload 4, 2) := by decide +kernel
theorem dX11_tries_90 : decode cX11_tries 90 = .ok (.iload_n 2, 1) := by decide +kernel
theorem dX11_tries_91 : decode cX11_tries 91 = .ok (.if_icmp .ge 23, 3) := by decide +kernel
theorem dX11_tries_94 : decode cX11_tries 94 = .ok (.aload_n 0, 1) := by decide +kernel
theorem dX11_tries_95 : decode cX11_tries 95 = .ok (.getfield 65, 3) := by decide +kernel
theorem dX11_tries_98 : decode cX11_tries 98 = .ok (.iload 4, 2) := by decide +kernel
theorem dX11_tries_100 : decode cX11_tries 100 = .ok (.aload_n 0, 1) := by decide +kernel
theorem dX11_tries_101 : decode cX11_tries 101 = .ok (.getfield 68, 3) := by decide +kernel
theorem dX11_tries_104 : decode cX11_tries 104 = .ok (.iload 4, 2) := by decide +kernel
theorem dX11_tries_106 : decode cX11_tries 106 = .ok (.baload, 1) := by decide +kernel
theorem dX11_tries_107 : decode cX11_tries 107 = .ok (.bastore, 1) := by decide +kernel
theorem dX11_tries_108 : decode cX11_tries 108 = .ok (.iinc 4 1, 3) := by decide +kernel
theorem dX11_tries_111 : decode cX11_tries 111 = .ok (.goto (-23), 3) := by decide +kernel
theorem dX11_tries_114 : decode cX11_tries 114 = .ok (.return_, 1) := by decide +kernel
theorem dX11_tries_115 : decode cX11_tries 115 = .ok (.iconst 0, 1) := by decide +kernel
theorem dX11_tries_116 : decode cX11_tries 116 = .ok (.istore_n 3, 1) := by decide +kernel
theorem dX11_tries_117 : decode cX11_tries 117 = .ok (.iload_n 3, 1) := by decide +kernel
theorem dX11_tries_118 : decode cX11_tries 118 = .ok (.aload_n 0, 1) := by decide +kernel
theorem dX11_tries_119 : decode cX11_tries 119 = .ok (.getfield 13, 3) := by decide +kernel
theorem dX11_tries_122 : decode cX11_tries 122 = .ok (.if_icmp .ge 63, 3) := by decide +kernel
theorem dX11_tries_125 : decode cX11_tries 125 = .ok (.aload_n 0, 1) := by decide +kernel
theorem dX11_tries_126 : decode cX11_tries 126 = .ok (.getfield 68, 3) := by decide +kernel
theorem dX11_tries_129 : decode cX11_tries 129 = .ok (.iload_n 1, 1) := by decide +kernel
theorem dX11_tries_130 : decode cX11_tries 130 = .ok (.iload_n 3, 1) := by decide +kernel
theorem dX11_tries_131 : decode cX11_tries 131 = .ok (.i2b, 1) := by decide +kernel
theorem dX11_tries_132 : decode cX11_tries 132 = .ok (.bastore, 1) := by decide +kernel
theorem dX11_tries_133 : decode cX11_tries 133 = .ok (.iconst 0, 1) := by decide +kernel
theorem dX11_tries_134 : decode cX11_tries 134 = .ok (.istore 4, 2) := by decide +kernel
theorem dX11_tries_136 : decode cX11_tries 136 = .ok (.iload 4, 2) := by decide +kernel
theorem dX11_tries_138 : decode cX11_tries 138 = .ok (.aload_n 0, 1) := by decide +kernel
theorem dX11_tries_139 : decode cX11_tries 139 = .ok (.getfield 85, 3) := by decide +kernel
theorem dX11_tries_142 : decode cX11_tries 142 = .ok (.if_icmp .ge 29, 3) := by decide +kernel
theorem dX11_tries_145 : decode cX11_tries 145 = .ok (.aload_n 0, 1) := by decide +kernel
theorem dX11_tries_146 : decode cX11_tries 146 = .ok (.getfield 27, 3) := by decide +kernel
theorem dX11_tries_149 : decode cX11_tries 149 = .ok (.iload 4, 2) := by decide +kernel
theorem dX11_tries_151 : decode cX11_tries 151 = .ok (.iaload, 1) := by decide +kernel
theorem dX11_tries_152 : decode cX11_tries 152 = .ok (.iconst 1, 1) := by decide +kernel
theorem dX11_tries_153 : decode cX11_tries 153 = .ok (.if_icmp .ne 12, 3) := by decide +kernel
theorem dX11_tries_156 : decode cX11_tries 156 = .ok (.aload_n 0, 1) := by decide +kernel
theorem dX11_tries_157 : decode cX11_tries 157 = .ok (.iload 4, 2) := by decide +kernel
theorem dX11_tries_159 : decode cX11_tries 159 = .ok (.iload_n 1, 1) := by decide +kernel
theorem dX11_tries_160 : decode cX11_tries 160 = .ok (.iconst 1, 1) := by decide +kernel
theorem dX11_tries_161 : decode cX11_tries 161 = .ok (.iadd, 1) := by decide +kernel
theorem dX11_tries_162 : decode cX11_tries 162 = .ok (.invokevirtual 201, 3) := by decide +kernel
theorem dX11_tries_165 : decode cX11_tries 165 = .ok (.iinc 4 1, 3) := by decide +kernel
theorem dX11_tries_168 : decode cX11_tries 168 = .ok (.goto (-32), 3) := by decide +kernel
theorem dX11_tries_171 : decode cX11_tries 171 = .ok (.aload_n 0, 1) := by decide +kernel
theorem dX11_tries_172 : decode cX11_tries 172 = .ok (.iload_n 1, 1) := by decide +kernel
theorem dX11_tries_173 : decode cX11_tries 173 = .ok (.iconst 1, 1) := by decide +kernel
theorem dX11_tries_174 : decode cX11_tries 174 = .ok (.iadd, 1) := by decide +kernel
theorem dX11_tries_175 : decode cX11_tries 175 = .ok (.iload_n 2, 1) := by decide +kernel
theorem dX11_tries_176 : decode cX11_tries 176 = .ok (.invokevirtual 204, 3) := by decide +kernel
theorem dX11_tries_179 : decode cX11_tries 179 = .ok (.iinc 3 1, 3) := by decide +kernel
theorem dX11_tries_182 : decode cX11_tries 182 = .ok (.goto (-65), 3) := by decide +kernel
theorem dX11_tries_185 : decode cX11_tries 185 = .ok (.return_, 1) := by decide +kernel
theorem dX11_hasMiddle_0 : decode cX11_hasMiddle 0 = .ok (.aload_n 0, 1) := by decide +kernel
theorem dX11_hasMiddle_1 : decode cX11_hasMiddle 1 = .ok (.iconst 1, 1) := by decide +kernel
theorem dX11_hasMiddle_2 : decode cX11_hasMiddle 2 = .ok (.invokevirtual 141, 3) := by decide +kernel
theorem dX11_hasMiddle_5 : decode cX11_hasMiddle 5 = .ok (.ifCond .ne 5, 3) := by decide +kernel
theorem dX11_hasMiddle_8 : decode cX11_hasMiddle 8 = .ok (.iconst 0, 1) := by decide +kernel
theorem dX11_hasMiddle_9 : decode cX11_hasMiddle 9 = .ok (.ireturn, 1) := by decide +kernel
theorem dX11_hasMiddle_10 : decode cX11_hasMiddle 10 = .ok (.aload_n 0, 1) := by decide +kernel
theorem dX11_hasMiddle_11 : decode cX11_hasMiddle 11 = .ok (.getfield 75, 3) := by decide +kernel
theorem dX11_hasMiddle_14 : decode cX11_hasMiddle 14 = .ok (.ifCond .eq 5, 3) := by decide +kernel
theorem dX11_hasMiddle_17 : decode cX11_hasMiddle 17 = .ok (.iconst 1, 1) := by decide +kernel
theorem dX11_hasMiddle_18 : decode cX11_hasMiddle 18 = .ok (.ireturn, 1) := by decide +kernel
theorem dX11_hasMiddle_19 : decode cX11_hasMiddle 19 = .ok (.aload_n 0, 1) := by decide +kernel
theorem dX11_hasMiddle_20 : decode cX11_hasMiddle 20 = .ok (.iconst 0, 1) := by decide +kernel
theorem dX11_hasMiddle_21 : decode cX11_hasMiddle 21 = .ok (.putfield 195, 3) := by decide +kernel
theorem dX11_hasMiddle_24 : decode cX11_hasMiddle 24 = .ok (.iconst 0, 1) := by decide +kernel
theorem dX11_hasMiddle_25 : decode cX11_hasMiddle 25 = .ok (.istore_n 1, 1) := by decide +kernel
theorem dX11_hasMiddle_26 : decode cX11_hasMiddle 26 = .ok (.iload_n 1, 1) := by decide +kernel
theorem dX11_hasMiddle_27 : decode cX11_hasMiddle 27 = .ok (.aload_n 0, 1) := by decide +kernel
theorem dX11_hasMiddle_28 : decode cX11_hasMiddle 28 = .ok (.getfield 85, 3) := by decide +kernel
theorem dX11_hasMiddle_31 : decode cX11_hasMiddle 31 = .ok (.if_icmp .ge 42, 3) := by decide +kernel
theorem dX11_hasMiddle_34 : decode cX11_hasMiddle 34 = .ok (.iconst 0, 1) := by decide +kernel
theorem dX11_hasMiddle_35 : decode cX11_hasMiddle 35 = .ok (.istore_n 2, 1) := by decide +kernel
theorem dX11_hasMiddle_36 : decode cX11_hasMiddle 36 = .ok (.iload_n 2, 1) := by decide +kernel
theorem dX11_hasMiddle_37 : decode cX11_hasMiddle 37 = .ok (.aload_n 0, 1) := by decide +kernel
theorem dX11_hasMiddle_38 : decode cX11_hasMiddle 38 = .ok (.getfield 110, 3) := by decide +kernel
theorem dX11_hasMiddle_41 : decode cX11_hasMiddle 41 = .ok (.if_icmp .gt 26, 3) := by decide +kernel
theorem dX11_hasMiddle_44 : decode cX11_hasMiddle 44 = .ok (.aload_n 0, 1) := by decide +kernel
theorem dX11_hasMiddle_45 : decode cX11_hasMiddle 45 = .ok (.getfield 62, 3) := by decide +kernel
theorem dX11_hasMiddle_48 : decode cX11_hasMiddle 48 = .ok (.bipush 81, 2) := by decide +kernel
theorem dX11_hasMiddle_50 : decode cX11_hasMiddle 50 = .ok (.iload_n 1, 1) := by decide +kernel
theorem dX11_hasMiddle_51 : decode cX11_hasMiddle 51 = .ok (.imul, 1) := by decide +kernel
theorem dX11_hasMiddle_52 : decode cX11_hasMiddle 52 = .ok (.iload_n 2, 1) := by decide +kernel
theorem dX11_hasMiddle_53 : decode cX11_hasMiddle 53 = .ok (.iadd, 1) := by decide +kernel
theorem dX11_hasMiddle_54 : decode cX11_hasMiddle 54 = .ok (.aload_n 0, 1) := by decide +kernel
theorem dX11_hasMiddle_55 : decode cX11_hasMiddle 55 = .ok (.getfield 20, 3) := by decide +kernel
theorem dX11_hasMiddle_58 : decode cX11_hasMiddle 58 = .ok (.iload_n 2, 1) := by decide +kernel
theorem dX11_hasMiddle_59 : decode cX11_hasMiddle 59 = .ok (.imul, 1) := by decide +kernel
theorem dX11_hasMiddle_60 : decode cX11_hasMiddle 60 = .ok (.iastore, 1) := by decide +kernel
theorem dX11_hasMiddle_61 : decode cX11_hasMiddle 61 = .ok (.iinc 2 1, 3) := by decide +kernel
theorem dX11_hasMiddle_64 : decode cX11_hasMiddle 64 = .ok (.goto (-28), 3) := by decide +kernel
theorem dX11_hasMiddle_67 : decode cX11_hasMiddle 67 = .ok (.iinc 1 1, 3) := by decide +kernel
theorem dX11_hasMiddle_70 : decode cX11_hasMiddle 70 = .ok (.goto (-44), 3) := by decide +kernel
theorem dX11_hasMiddle_73 : decode cX11_hasMiddle 73 = .ok (.iconst 1, 1) := by decide +kernel
theorem dX11_hasMiddle_74 : decode cX11_hasMiddle 74 = .ok (.istore_n 1, 1) := by decide +kernel
theorem dX11_hasMiddle_75 : decode cX11_hasMiddle 75 = .ok (.iload_n 1, 1) := by decide +kernel
theorem dX11_hasMiddle_76 : decode cX11_hasMiddle 76 = .ok (.bipush 8, 2) := by decide +kernel
theorem dX11_hasMiddle_78 : decode cX11_hasMiddle 78 = .ok (.if_icmp .gt 15, 3) := by decide +kernel
theorem dX11_hasMiddle_81 : decode cX11_hasMiddle 81 = .ok (.aload_n 0, 1) := by decide +kernel
theorem dX11_hasMiddle_82 : decode cX11_hasMiddle 82 = .ok (.iconst 0, 1) := by decide +kernel
theorem dX11_hasMiddle_83 : decode cX11_hasMiddle 83 = .ok (.iload_n 1, 1) := by decide +kernel
theorem dX11_hasMiddle_84 : decode cX11_hasMiddle 84 = .ok (.invokevirtual 204, 3) := by decide +kernel
theorem dX11_hasMiddle_87 : decode cX11_hasMiddle 87 = .ok (.iinc 1 1, 3) := by decide +kernel
theorem dX11_hasMiddle_90 : decode cX11_hasMiddle 90 = .ok (.goto (-15), 3) := by decide +kernel
theorem dX11_hasMiddle_93 : decode cX11_hasMiddle 93 = .ok (.aload_n 0, 1) := by decide +kernel
theorem dX11_hasMiddle_94 : decode cX11_hasMiddle 94 = .ok (.iconst 1, 1) := by decide +kernel
theorem dX11_hasMiddle_95 : decode cX11_hasMiddle 95 = .ok (.putfield 75, 3) := by decide +kernel
theorem dX11_hasMiddle_98 : decode cX11_hasMiddle 98 = .ok (.iconst 1, 1) := by decide +kernel
theorem dX11_hasMiddle_99 : decode cX11_hasMiddle 99 = .ok (.ireturn, 1) := by decide +kernel
theorem dX11_middle_0 : decode cX11_middle 0 = .ok (.aload_n 0, 1) := by decide +kernel
theorem dX11_middle_1 : decode cX11_middle 1 = .ok (.iconst 0, 1) := by decide +kernel
theorem dX11_middle_2 : decode cX11_middle 2 = .ok (.putfield 1, 3) := by decide +kernel
theorem dX11_middle_5 : decode cX11_middle 5 = .ok (.aload_n 0, 1) := by decide +kernel
theorem dX11_middle_6 : decode cX11_middle 6 = .ok (.invokevirtual 207, 3) := by decide +kernel
theorem dX11_middle_9 : decode cX11_middle 9 = .ok (.ifCond .eq 10, 3) := by decide +kernel
theorem dX11_middle_12 : decode cX11_middle 12 = .ok (.aload_n 0, 1) := by decide +kernel
theorem dX11_middle_13 : decode cX11_middle 13 = .ok (.getfield 198, 3) := by decide +kernel
theorem dX11_middle_16 : decode cX11_middle 16 = .ok (.goto 4, 3) := by decide +kernel
theorem dX11_middle_19 : decode cX11_middle 19 = .ok (.iconst (-1), 1) := by decide +kernel
theorem dX11_middle_20 : decode cX11_middle 20 = .ok (.ireturn, 1) := by decide +kernel
theorem dX11_middleLength_0 : decode cX11_middleLength 0 = .ok (.aload_n 0, 1) := by decide +kernel
theorem dX11_middleLength_1 : decode cX11_middleLength 1 = .ok (.iconst 0, 1) := by decide +kernel
theorem dX11_middleLength_2 : decode cX11_middleLength 2 = .ok (.putfield 1, 3) := by decide +kernel
theorem dX11_middleLength_5 : decode cX11_middleLength 5 = .ok (.aload_n 0, 1) := by decide +kernel
theorem dX11_middleLength_6 : decode cX11_middleLength 6 = .ok (.invokevirtual 207, 3) := by decide +kernel
theorem dX11_middleLength_9 : decode cX11_middleLength 9 = .ok (.ifCond .eq 10, 3) := by decide +kernel
theorem dX11_middleLength_12 : decode cX11_middleLength 12 = .ok (.aload_n 0, 1) := by decide +kernel
theorem dX11_middleLength_13 : decode cX11_middleLength 13 = .ok (.getfield 195, 3) := by decide +kernel
theorem dX11_middleLength_16 : decode cX11_middleLength 16 = .ok (.goto 4, 3) := by decide +kernel
theorem dX11_middleLength_19 : decode cX11_middleLength 19 = .ok (.iconst (-1), 1) := by decide +kernel
theorem dX11_middleLength_20 : decode cX11_middleLength 20 = .ok (.ireturn, 1) := by decide +kernel
theorem dX11_middleAt_0 : decode cX11_middleAt 0 = .ok (.aload_n 0, 1) := by decide +kernel
theorem dX11_middleAt_1 : decode cX11_middleAt 1 = .ok (.iconst 0, 1) := by decide +kernel
theorem dX11_middleAt_2 : decode cX11_middleAt 2 = .ok (.putfield 1, 3) := by decide +kernel
theorem dX11_middleAt_5 : decode cX11_middleAt 5 = .ok (.aload_n 0, 1) := by decide +kernel
theorem dX11_middleAt_6 : decode cX11_middleAt 6 = .ok (.invokevirtual 207, 3) := by decide +kernel
theorem dX11_middleAt_9 : decode cX11_middleAt 9 = .ok (.ifCond .eq 24, 3) := by decide +kernel
theorem dX11_middleAt_12 : decode cX11_middleAt 12 = .ok (.iload_n 1, 1) := by decide +kernel
theorem dX11_middleAt_13 : decode cX11_middleAt 13 = .ok (.ifCond .lt 20, 3) := by decide +kernel
theorem dX11_middleAt_16 : decode cX11_middleAt 16 = .ok (.iload_n 1, 1) := by decide +kernel
theorem dX11_middleAt_17 : decode cX11_middleAt 17 = .ok (.aload_n 0, 1) := by decide +kernel
theorem dX11_middleAt_18 : decode cX11_middleAt 18 = .ok (.getfield 195, 3) := by decide +kernel
theorem dX11_middleAt_21 : decode cX11_middleAt 21 = .ok (.if_icmp .ge 12, 3) := by decide +kernel
theorem dX11_middleAt_24 : decode cX11_middleAt 24 = .ok (.aload_n 0, 1) := by decide +kernel
theorem dX11_middleAt_25 : decode cX11_middleAt 25 = .ok (.getfield 65, 3) := by decide +kernel
theorem dX11_middleAt_28 : decode cX11_middleAt 28 = .ok (.iload_n 1, 1) := by decide +kernel
theorem dX11_middleAt_29 : decode cX11_middleAt 29 = .ok (.baload, 1) := by decide +kernel
theorem dX11_middleAt_30 : decode cX11_middleAt 30 = .ok (.goto 4, 3) := by decide +kernel
theorem dX11_middleAt_33 : decode cX11_middleAt 33 = .ok (.iconst (-1), 1) := by decide +kernel
theorem dX11_middleAt_34 : decode cX11_middleAt 34 = .ok (.ireturn, 1) := by decide +kernel
theorem dX11_nearestPiece_0 : decode cX11_nearestPiece 0 = .ok (.iconst 0, 1) := by decide +kernel
theorem dX11_nearestPiece_1 : decode cX11_nearestPiece 1 = .ok (.istore_n 3, 1) := by decide +kernel
theorem dX11_nearestPiece_2 : decode cX11_nearestPiece 2 = .ok (.iconst 1, 1) := by decide +kernel
theorem dX11_nearestPiece_3 : decode cX11_nearestPiece 3 = .ok (.istore 4, 2) := by decide +kernel
theorem dX11_nearestPiece_5 : decode cX11_nearestPiece 5 = .ok (.iload 4, 2) := by decide +kernel
theorem dX11_nearestPiece_7 : decode cX11_nearestPiece 7 = .ok (.iload_n 2, 1) := by decide +kernel
theorem dX11_nearestPiece_8 : decode cX11_nearestPiece 8 = .ok (.iadd, 1) := by decide +kernel
theorem dX11_nearestPiece_9 : decode cX11_nearestPiece 9 = .ok (.aload_n 0, 1) := by decide +kernel
theorem dX11_nearestPiece_10 : decode cX11_nearestPiece 10 = .ok (.getfield 33, 3) := by decide +kernel
theorem dX11_nearestPiece_13 : decode cX11_nearestPiece 13 = .ok (.iload_n 1, 1) := by decide +kernel
theorem dX11_nearestPiece_14 : decode cX11_nearestPiece 14 = .ok (.iaload, 1) := by decide +kernel
theorem dX11_nearestPiece_15 : decode cX11_nearestPiece 15 = .ok (.if_icmp .gt 56, 3) := by decide +kernel
theorem dX11_nearestPiece_18 : decode cX11_nearestPiece 18 = .ok (.aload_n 0, 1) := by decide +kernel
theorem dX11_nearestPiece_19 : decode cX11_nearestPiece 19 = .ok (.aload_n 0, 1) := by decide +kernel
theorem dX11_nearestPiece_20 : decode cX11_nearestPiece 20 = .ok (.getfield 49, 3) := by decide +kernel
theorem dX11_nearestPiece_23 : decode cX11_nearestPiece 23 = .ok (.iconst 0, 1) := by decide +kernel
end
section
theorem dX11_nearestPiece_24 : decode cX11_nearestPiece 24 = .ok (.aload_n 0, 1) := by decide +kernel
theorem dX11_nearestPiece_25 : decode cX11_nearestPiece 25 = .ok (.getfield 30, 3) := by decide +kernel
theorem dX11_nearestPiece_28 : decode cX11_nearestPiece 28 = .ok (.bipush 24, 2) := by decide +kernel
theorem dX11_nearestPiece_30 : decode cX11_nearestPiece 30 = .ok (.iload_n 1, 1) := by decide +kernel
theorem dX11_nearestPiece_31 : decode cX11_nearestPiece 31 = .ok (.imul, 1) := by decide +kernel
theorem dX11_nearestPiece_32 : decode cX11_nearestPiece 32 = .ok (.iload 4, 2) := by decide +kernel
theorem dX11_nearestPiece_34 : decode cX11_nearestPiece 34 = .ok (.iadd, 1) := by decide +kernel
theorem dX11_nearestPiece_35 : decode cX11_nearestPiece 35 = .ok (.iload_n 2, 1) := by decide +kernel
theorem dX11_nearestPiece_36 : decode cX11_nearestPiece 36 = .ok (.invokevirtual 123, 3) := by decide +kernel
theorem dX11_nearestPiece_39 : decode cX11_nearestPiece 39 = .ok (.aload_n 0, 1) := by decide +kernel
theorem dX11_nearestPiece_40 : decode cX11_nearestPiece 40 = .ok (.aload_n 0, 1) := by decide +kernel
theorem dX11_nearestPiece_41 : decode cX11_nearestPiece 41 = .ok (.getfield 49, 3) := by decide +kernel
theorem dX11_nearestPiece_44 : decode cX11_nearestPiece 44 = .ok (.iconst 0, 1) := by decide +kernel
theorem dX11_nearestPiece_45 : decode cX11_nearestPiece 45 = .ok (.aload_n 0, 1) := by decide +kernel
theorem dX11_nearestPiece_46 : decode cX11_nearestPiece 46 = .ok (.getfield 30, 3) := by decide +kernel
theorem dX11_nearestPiece_49 : decode cX11_nearestPiece 49 = .ok (.bipush 24, 2) := by decide +kernel
theorem dX11_nearestPiece_51 : decode cX11_nearestPiece 51 = .ok (.iload_n 1, 1) := by decide +kernel
theorem dX11_nearestPiece_52 : decode cX11_nearestPiece 52 = .ok (.imul, 1) := by decide +kernel
theorem dX11_nearestPiece_53 : decode cX11_nearestPiece 53 = .ok (.iload_n 3, 1) := by decide +kernel
theorem dX11_nearestPiece_54 : decode cX11_nearestPiece 54 = .ok (.iadd, 1) := by decide +kernel
theorem dX11_nearestPiece_55 : decode cX11_nearestPiece 55 = .ok (.iload_n 2, 1) := by decide +kernel
theorem dX11_nearestPiece_56 : decode cX11_nearestPiece 56 = .ok (.invokevirtual 123, 3) := by decide +kernel
theorem dX11_nearestPiece_59 : decode cX11_nearestPiece 59 = .ok (.if_icmp .ge 6, 3) := by decide +kernel
theorem dX11_nearestPiece_62 : decode cX11_nearestPiece 62 = .ok (.iload 4, 2) := by decide +kernel
theorem dX11_nearestPiece_64 : decode cX11_nearestPiece 64 = .ok (.istore_n 3, 1) := by decide +kernel
theorem dX11_nearestPiece_65 : decode cX11_nearestPiece 65 = .ok (.iinc 4 1, 3) := by decide +kernel
theorem dX11_nearestPiece_68 : decode cX11_nearestPiece 68 = .ok (.goto (-63), 3) := by decide +kernel
theorem dX11_nearestPiece_71 : decode cX11_nearestPiece 71 = .ok (.iload_n 3, 1) := by decide +kernel
theorem dX11_nearestPiece_72 : decode cX11_nearestPiece 72 = .ok (.ireturn, 1) := by decide +kernel
theorem dX11_pieceFar_0 : decode cX11_pieceFar 0 = .ok (.bipush 100, 2) := by decide +kernel
theorem dX11_pieceFar_2 : decode cX11_pieceFar 2 = .ok (.istore_n 3, 1) := by decide +kernel
theorem dX11_pieceFar_3 : decode cX11_pieceFar 3 = .ok (.iconst 0, 1) := by decide +kernel
theorem dX11_pieceFar_4 : decode cX11_pieceFar 4 = .ok (.istore 4, 2) := by decide +kernel
theorem dX11_pieceFar_6 : decode cX11_pieceFar 6 = .ok (.iload 4, 2) := by decide +kernel
theorem dX11_pieceFar_8 : decode cX11_pieceFar 8 = .ok (.iload_n 2, 1) := by decide +kernel
theorem dX11_pieceFar_9 : decode cX11_pieceFar 9 = .ok (.iadd, 1) := by decide +kernel
theorem dX11_pieceFar_10 : decode cX11_pieceFar 10 = .ok (.aload_n 0, 1) := by decide +kernel
theorem dX11_pieceFar_11 : decode cX11_pieceFar 11 = .ok (.getfield 33, 3) := by decide +kernel
theorem dX11_pieceFar_14 : decode cX11_pieceFar 14 = .ok (.iload_n 1, 1) := by decide +kernel
theorem dX11_pieceFar_15 : decode cX11_pieceFar 15 = .ok (.iaload, 1) := by decide +kernel
theorem dX11_pieceFar_16 : decode cX11_pieceFar 16 = .ok (.if_icmp .gt 35, 3) := by decide +kernel
theorem dX11_pieceFar_19 : decode cX11_pieceFar 19 = .ok (.iload_n 3, 1) := by decide +kernel
theorem dX11_pieceFar_20 : decode cX11_pieceFar 20 = .ok (.aload_n 0, 1) := by decide +kernel
theorem dX11_pieceFar_21 : decode cX11_pieceFar 21 = .ok (.aload_n 0, 1) := by decide +kernel
theorem dX11_pieceFar_22 : decode cX11_pieceFar 22 = .ok (.getfield 49, 3) := by decide +kernel
theorem dX11_pieceFar_25 : decode cX11_pieceFar 25 = .ok (.iconst 0, 1) := by decide +kernel
theorem dX11_pieceFar_26 : decode cX11_pieceFar 26 = .ok (.aload_n 0, 1) := by decide +kernel
theorem dX11_pieceFar_27 : decode cX11_pieceFar 27 = .ok (.getfield 30, 3) := by decide +kernel
theorem dX11_pieceFar_30 : decode cX11_pieceFar 30 = .ok (.bipush 24, 2) := by decide +kernel
theorem dX11_pieceFar_32 : decode cX11_pieceFar 32 = .ok (.iload_n 1, 1) := by decide +kernel
theorem dX11_pieceFar_33 : decode cX11_pieceFar 33 = .ok (.imul, 1) := by decide +kernel
theorem dX11_pieceFar_34 : decode cX11_pieceFar 34 = .ok (.iload 4, 2) := by decide +kernel
theorem dX11_pieceFar_36 : decode cX11_pieceFar 36 = .ok (.iadd, 1) := by decide +kernel
theorem dX11_pieceFar_37 : decode cX11_pieceFar 37 = .ok (.iload_n 2, 1) := by decide +kernel
theorem dX11_pieceFar_38 : decode cX11_pieceFar 38 = .ok (.invokevirtual 123, 3) := by decide +kernel
theorem dX11_pieceFar_41 : decode cX11_pieceFar 41 = .ok (.invokestatic 117, 3) := by decide +kernel
theorem dX11_pieceFar_44 : decode cX11_pieceFar 44 = .ok (.istore_n 3, 1) := by decide +kernel
theorem dX11_pieceFar_45 : decode cX11_pieceFar 45 = .ok (.iinc 4 1, 3) := by decide +kernel
theorem dX11_pieceFar_48 : decode cX11_pieceFar 48 = .ok (.goto (-42), 3) := by decide +kernel
theorem dX11_pieceFar_51 : decode cX11_pieceFar 51 = .ok (.iload_n 3, 1) := by decide +kernel
theorem dX11_pieceFar_52 : decode cX11_pieceFar 52 = .ok (.ireturn, 1) := by decide +kernel
theorem dX11_hasMotif_0 : decode cX11_hasMotif 0 = .ok (.iload_n 1, 1) := by decide +kernel
theorem dX11_hasMotif_1 : decode cX11_hasMotif 1 = .ok (.iconst 1, 1) := by decide +kernel
theorem dX11_hasMotif_2 : decode cX11_hasMotif 2 = .ok (.bipush 6, 2) := by decide +kernel
theorem dX11_hasMotif_4 : decode cX11_hasMotif 4 = .ok (.invokestatic 81, 3) := by decide +kernel
theorem dX11_hasMotif_7 : decode cX11_hasMotif 7 = .ok (.ifCond .eq 10, 3) := by decide +kernel
theorem dX11_hasMotif_10 : decode cX11_hasMotif 10 = .ok (.aload_n 0, 1) := by decide +kernel
theorem dX11_hasMotif_11 : decode cX11_hasMotif 11 = .ok (.getfield 88, 3) := by decide +kernel
theorem dX11_hasMotif_14 : decode cX11_hasMotif 14 = .ok (.ifCond .ne 5, 3) := by decide +kernel
theorem dX11_hasMotif_17 : decode cX11_hasMotif 17 = .ok (.iconst 0, 1) := by decide +kernel
theorem dX11_hasMotif_18 : decode cX11_hasMotif 18 = .ok (.ireturn, 1) := by decide +kernel
theorem dX11_hasMotif_19 : decode cX11_hasMotif 19 = .ok (.iconst 0, 1) := by decide +kernel
theorem dX11_hasMotif_20 : decode cX11_hasMotif 20 = .ok (.istore_n 2, 1) := by decide +kernel
theorem dX11_hasMotif_21 : decode cX11_hasMotif 21 = .ok (.iload_n 2, 1) := by decide +kernel
theorem dX11_hasMotif_22 : decode cX11_hasMotif 22 = .ok (.aload_n 0, 1) := by decide +kernel
theorem dX11_hasMotif_23 : decode cX11_hasMotif 23 = .ok (.getfield 88, 3) := by decide +kernel
theorem dX11_hasMotif_26 : decode cX11_hasMotif 26 = .ok (.if_icmp .ge 21, 3) := by decide +kernel
theorem dX11_hasMotif_29 : decode cX11_hasMotif 29 = .ok (.aload_n 0, 1) := by decide +kernel
theorem dX11_hasMotif_30 : decode cX11_hasMotif 30 = .ok (.getfield 33, 3) := by decide +kernel
theorem dX11_hasMotif_33 : decode cX11_hasMotif 33 = .ok (.iload_n 2, 1) := by decide +kernel
theorem dX11_hasMotif_34 : decode cX11_hasMotif 34 = .ok (.iaload, 1) := by decide +kernel
theorem dX11_hasMotif_35 : decode cX11_hasMotif 35 = .ok (.iload_n 1, 1) := by decide +kernel
theorem dX11_hasMotif_36 : decode cX11_hasMotif 36 = .ok (.if_icmp .ge 5, 3) := by decide +kernel
theorem dX11_hasMotif_39 : decode cX11_hasMotif 39 = .ok (.iconst 0, 1) := by decide +kernel
theorem dX11_hasMotif_40 : decode cX11_hasMotif 40 = .ok (.ireturn, 1) := by decide +kernel
theorem dX11_hasMotif_41 : decode cX11_hasMotif 41 = .ok (.iinc 2 1, 3) := by decide +kernel
theorem dX11_hasMotif_44 : decode cX11_hasMotif 44 = .ok (.goto (-23), 3) := by decide +kernel
theorem dX11_hasMotif_47 : decode cX11_hasMotif 47 = .ok (.aload_n 0, 1) := by decide +kernel
theorem dX11_hasMotif_48 : decode cX11_hasMotif 48 = .ok (.getfield 78, 3) := by decide +kernel
theorem dX11_hasMotif_51 : decode cX11_hasMotif 51 = .ok (.iload_n 1, 1) := by decide +kernel
theorem dX11_hasMotif_52 : decode cX11_hasMotif 52 = .ok (.if_icmp .ne 5, 3) := by decide +kernel
theorem dX11_hasMotif_55 : decode cX11_hasMotif 55 = .ok (.iconst 1, 1) := by decide +kernel
theorem dX11_hasMotif_56 : decode cX11_hasMotif 56 = .ok (.ireturn, 1) := by decide +kernel
theorem dX11_hasMotif_57 : decode cX11_hasMotif 57 = .ok (.aload_n 0, 1) := by decide +kernel
theorem dX11_hasMotif_58 : decode cX11_hasMotif 58 = .ok (.iconst (-1), 1) := by decide +kernel
theorem dX11_hasMotif_59 : decode cX11_hasMotif 59 = .ok (.putfield 211, 3) := by decide +kernel
theorem dX11_hasMotif_62 : decode cX11_hasMotif 62 = .ok (.iconst 0, 1) := by decide +kernel
theorem dX11_hasMotif_63 : decode cX11_hasMotif 63 = .ok (.istore_n 2, 1) := by decide +kernel
theorem dX11_hasMotif_64 : decode cX11_hasMotif 64 = .ok (.iload_n 2, 1) := by decide +kernel
theorem dX11_hasMotif_65 : decode cX11_hasMotif 65 = .ok (.aload_n 0, 1) := by decide +kernel
theorem dX11_hasMotif_66 : decode cX11_hasMotif 66 = .ok (.getfield 13, 3) := by decide +kernel
theorem dX11_hasMotif_69 : decode cX11_hasMotif 69 = .ok (.iload_n 1, 1) := by decide +kernel
theorem dX11_hasMotif_70 : decode cX11_hasMotif 70 = .ok (.invokestatic 127, 3) := by decide +kernel
theorem dX11_hasMotif_73 : decode cX11_hasMotif 73 = .ok (.if_icmp .ge 76, 3) := by decide +kernel
theorem dX11_hasMotif_76 : decode cX11_hasMotif 76 = .ok (.aload_n 0, 1) := by decide +kernel
theorem dX11_hasMotif_77 : decode cX11_hasMotif 77 = .ok (.iload_n 2, 1) := by decide +kernel
theorem dX11_hasMotif_78 : decode cX11_hasMotif 78 = .ok (.iload_n 1, 1) := by decide +kernel
theorem dX11_hasMotif_79 : decode cX11_hasMotif 79 = .ok (.invokevirtual 134, 3) := by decide +kernel
theorem dX11_hasMotif_82 : decode cX11_hasMotif 82 = .ok (.iconst 0, 1) := by decide +kernel
theorem dX11_hasMotif_83 : decode cX11_hasMotif 83 = .ok (.istore_n 3, 1) := by decide +kernel
theorem dX11_hasMotif_84 : decode cX11_hasMotif 84 = .ok (.iconst 0, 1) := by decide +kernel
theorem dX11_hasMotif_85 : decode cX11_hasMotif 85 = .ok (.istore 4, 2) := by decide +kernel
theorem dX11_hasMotif_87 : decode cX11_hasMotif 87 = .ok (.iload 4, 2) := by decide +kernel
theorem dX11_hasMotif_89 : decode cX11_hasMotif 89 = .ok (.aload_n 0, 1) := by decide +kernel
theorem dX11_hasMotif_90 : decode cX11_hasMotif 90 = .ok (.getfield 88, 3) := by decide +kernel
theorem dX11_hasMotif_93 : decode cX11_hasMotif 93 = .ok (.if_icmp .ge 21, 3) := by decide +kernel
theorem dX11_hasMotif_96 : decode cX11_hasMotif 96 = .ok (.iload_n 3, 1) := by decide +kernel
theorem dX11_hasMotif_97 : decode cX11_hasMotif 97 = .ok (.aload_n 0, 1) := by decide +kernel
theorem dX11_hasMotif_98 : decode cX11_hasMotif 98 = .ok (.iload 4, 2) := by decide +kernel
theorem dX11_hasMotif_100 : decode cX11_hasMotif 100 = .ok (.iload_n 1, 1) := by decide +kernel
theorem dX11_hasMotif_101 : decode cX11_hasMotif 101 = .ok (.invokevirtual 214, 3) := by decide +kernel
theorem dX11_hasMotif_104 : decode cX11_hasMotif 104 = .ok (.invokestatic 138, 3) := by decide +kernel
theorem dX11_hasMotif_107 : decode cX11_hasMotif 107 = .ok (.istore_n 3, 1) := by decide +kernel
theorem dX11_hasMotif_108 : decode cX11_hasMotif 108 = .ok (.iinc 4 1, 3) := by decide +kernel
theorem dX11_hasMotif_111 : decode cX11_hasMotif 111 = .ok (.goto (-24), 3) := by decide +kernel
theorem dX11_hasMotif_114 : decode cX11_hasMotif 114 = .ok (.aload_n 0, 1) := by decide +kernel
theorem dX11_hasMotif_115 : decode cX11_hasMotif 115 = .ok (.getfield 211, 3) := by decide +kernel
theorem dX11_hasMotif_118 : decode cX11_hasMotif 118 = .ok (.iconst (-1), 1) := by decide +kernel
theorem dX11_hasMotif_119 : decode cX11_hasMotif 119 = .ok (.if_icmp .eq 14, 3) := by decide +kernel
theorem dX11_hasMotif_122 : decode cX11_hasMotif 122 = .ok (.iload_n 3, 1) := by decide +kernel
theorem dX11_hasMotif_123 : decode cX11_hasMotif 123 = .ok (.aload_n 0, 1) := by decide +kernel
theorem dX11_hasMotif_124 : decode cX11_hasMotif 124 = .ok (.getfield 217, 3) := by decide +kernel
theorem dX11_hasMotif_127 : decode cX11_hasMotif 127 = .ok (.if_icmp .lt 6, 3) := by decide +kernel
theorem dX11_hasMotif_130 : decode cX11_hasMotif 130 = .ok (.goto 13, 3) := by decide +kernel
theorem dX11_hasMotif_133 : decode cX11_hasMotif 133 = .ok (.aload_n 0, 1) := by decide +kernel
theorem dX11_hasMotif_134 : decode cX11_hasMotif 134 = .ok (.iload_n 2, 1) := by decide +kernel
theorem dX11_hasMotif_135 : decode cX11_hasMotif 135 = .ok (.putfield 211, 3) := by decide +kernel
theorem dX11_hasMotif_138 : decode cX11_hasMotif 138 = .ok (.aload_n 0, 1) := by decide +kernel
theorem dX11_hasMotif_139 : decode cX11_hasMotif 139 = .ok (.iload_n 3, 1) := by decide +kernel
theorem dX11_hasMotif_140 : decode cX11_hasMotif 140 = .ok (.putfield 217, 3) := by decide +kernel
theorem dX11_hasMotif_143 : decode cX11_hasMotif 143 = .ok (.iinc 2 1, 3) := by decide +kernel
theorem dX11_hasMotif_146 : decode cX11_hasMotif 146 = .ok (.goto (-82), 3) := by decide +kernel
theorem dX11_hasMotif_149 : decode cX11_hasMotif 149 = .ok (.aload_n 0, 1) := by decide +kernel
theorem dX11_hasMotif_150 : decode cX11_hasMotif 150 = .ok (.iload_n 1, 1) := by decide +kernel
theorem dX11_hasMotif_151 : decode cX11_hasMotif 151 = .ok (.putfield 78, 3) := by decide +kernel
theorem dX11_hasMotif_154 : decode cX11_hasMotif 154 = .ok (.iconst 1, 1) := by decide +kernel
theorem dX11_hasMotif_155 : decode cX11_hasMotif 155 = .ok (.ireturn, 1) := by decide +kernel
theorem dX11_motif_0 : decode cX11_motif 0 = .ok (.aload_n 0, 1) := by decide +kernel
theorem dX11_motif_1 : decode cX11_motif 1 = .ok (.iconst 0, 1) := by decide +kernel
theorem dX11_motif_2 : decode cX11_motif 2 = .ok (.putfield 1, 3) := by decide +kernel
theorem dX11_motif_5 : decode cX11_motif 5 = .ok (.aload_n 0, 1) := by decide +kernel
theorem dX11_motif_6 : decode cX11_motif 6 = .ok (.iload_n 1, 1) := by decide +kernel
theorem dX11_motif_7 : decode cX11_motif 7 = .ok (.invokevirtual 220, 3) := by decide +kernel
theorem dX11_motif_10 : decode cX11_motif 10 = .ok (.ifCond .eq 10, 3) := by decide +kernel
theorem dX11_motif_13 : decode cX11_motif 13 = .ok (.aload_n 0, 1) := by decide +kernel
theorem dX11_motif_14 : decode cX11_motif 14 = .ok (.getfield 217, 3) := by decide +kernel
theorem dX11_motif_17 : decode cX11_motif 17 = .ok (.goto 4, 3) := by decide +kernel
theorem dX11_motif_20 : decode cX11_motif 20 = .ok (.iconst (-1), 1) := by decide +kernel
theorem dX11_motif_21 : decode cX11_motif 21 = .ok (.ireturn, 1) := by decide +kernel
theorem dX11_motifAt_0 : decode cX11_motifAt 0 = .ok (.aload_n 0, 1) := by decide +kernel
theorem dX11_motifAt_1 : decode cX11_motifAt 1 = .ok (.iconst 0, 1) := by decide +kernel
theorem dX11_motifAt_2 : decode cX11_motifAt 2 = .ok (.putfield 1, 3) := by decide +kernel
theorem dX11_motifAt_5 : decode cX11_motifAt 5 = .ok (.aload_n 0, 1) := by decide +kernel
theorem dX11_motifAt_6 : decode cX11_motifAt 6 = .ok (.iload_n 1, 1) := by decide +kernel
theorem dX11_motifAt_7 : decode cX11_motifAt 7 = .ok (.invokevirtual 220, 3) := by decide +kernel
theorem dX11_motifAt_10 : decode cX11_motifAt 10 = .ok (.ifCond .eq 12, 3) := by decide +kernel
theorem dX11_motifAt_13 : decode cX11_motifAt 13 = .ok (.iload_n 2, 1) := by decide +kernel
theorem dX11_motifAt_14 : decode cX11_motifAt 14 = .ok (.ifCond .lt 8, 3) := by decide +kernel
theorem dX11_motifAt_17 : decode cX11_motifAt 17 = .ok (.iload_n 2, 1) := by decide +kernel
theorem dX11_motifAt_18 : decode cX11_motifAt 18 = .ok (.iload_n 1, 1) := by decide +kernel
theorem dX11_motifAt_19 : decode cX11_motifAt 19 = .ok (.if_icmp .lt 5, 3) := by decide +kernel
theorem dX11_motifAt_22 : decode cX11_motifAt 22 = .ok (.iconst (-1), 1) := by decide +kernel
theorem dX11_motifAt_23 : decode cX11_motifAt 23 = .ok (.ireturn, 1) := by decide +kernel
theorem dX11_motifAt_24 : decode cX11_motifAt 24 = .ok (.aload_n 0, 1) := by decide +kernel
theorem dX11_motifAt_25 : decode cX11_motifAt 25 = .ok (.aload_n 0, 1) := by decide +kernel
theorem dX11_motifAt_26 : decode cX11_motifAt 26 = .ok (.getfield 211, 3) := by decide +kernel
theorem dX11_motifAt_29 : decode cX11_motifAt 29 = .ok (.iload_n 1, 1) := by decide +kernel
theorem dX11_motifAt_30 : decode cX11_motifAt 30 = .ok (.invokevirtual 134, 3) := by decide +kernel
theorem dX11_motifAt_33 : decode cX11_motifAt 33 = .ok (.aload_n 0, 1) := by decide +kernel
theorem dX11_motifAt_34 : decode cX11_motifAt 34 = .ok (.getfield 49, 3) := by decide +kernel
theorem dX11_motifAt_37 : decode cX11_motifAt 37 = .ok (.iload_n 2, 1) := by decide +kernel
theorem dX11_motifAt_38 : decode cX11_motifAt 38 = .ok (.baload, 1) := by decide +kernel
theorem dX11_motifAt_39 : decode cX11_motifAt 39 = .ok (.ireturn, 1) := by decide +kernel
theorem dX11_motifIn_0 : decode cX11_motifIn 0 = .ok (.aload_n 0, 1) := by decide +kernel
theorem dX11_motifIn_1 : decode cX11_motifIn 1 = .ok (.iconst 0, 1) := by decide +kernel
theorem dX11_motifIn_2 : decode cX11_motifIn 2 = .ok (.putfield 1, 3) := by decide +kernel
theorem dX11_motifIn_5 : decode cX11_motifIn 5 = .ok (.aload_n 0, 1) := by decide +kernel
theorem dX11_motifIn_6 : decode cX11_motifIn 6 = .ok (.iload_n 1, 1) := by decide +kernel
theorem dX11_motifIn_7 : decode cX11_motifIn 7 = .ok (.invokevirtual 220, 3) := by decide +kernel
theorem dX11_motifIn_10 : decode cX11_motifIn 10 = .ok (.ifCond .eq 15, 3) := by decide +kernel
theorem dX11_motifIn_13 : decode cX11_motifIn 13 = .ok (.iload_n 2, 1) := by decide +kernel
theorem dX11_motifIn_14 : decode cX11_motifIn 14 = .ok (.ifCond .lt 11, 3) := by decide +kernel
theorem dX11_motifIn_17 : decode cX11_motifIn 17 = .ok (.iload_n 2, 1) := by decide +kernel
theorem dX11_motifIn_18 : decode cX11_motifIn 18 = .ok (.aload_n 0, 1) := by decide +kernel
theorem dX11_motifIn_19 : decode cX11_motifIn 19 = .ok (.getfield 88, 3) := by decide +kernel
theorem dX11_motifIn_22 : decode cX11_motifIn 22 = .ok (.if_icmp .lt 10, 3) := by decide +kernel
theorem dX11_motifIn_25 : decode cX11_motifIn 25 = .ok (.aload_n 0, 1) := by decide +kernel
theorem dX11_motifIn_26 : decode cX11_motifIn 26 = .ok (.iconst 1, 1) := by decide +kernel
theorem dX11_motifIn_27 : decode cX11_motifIn 27 = .ok (.putfield 1, 3) := by decide +kernel
theorem dX11_motifIn_30 : decode cX11_motifIn 30 = .ok (.iconst 0, 1) := by decide +kernel
theorem dX11_motifIn_31 : decode cX11_motifIn 31 = .ok (.ireturn, 1) := by decide +kernel
theorem dX11_motifIn_32 : decode cX11_motifIn 32 = .ok (.aload_n 0, 1) := by decide +kernel
theorem dX11_motifIn_33 : decode cX11_motifIn 33 = .ok (.aload_n 0, 1) := by decide +kernel
theorem dX11_motifIn_34 : decode cX11_motifIn 34 = .ok (.getfield 211, 3) := by decide +kernel
theorem dX11_motifIn_37 : decode cX11_motifIn 37 = .ok (.iload_n 1, 1) := by decide +kernel
theorem dX11_motifIn_38 : decode cX11_motifIn 38 = .ok (.invokevirtual 134, 3) := by decide +kernel
theorem dX11_motifIn_41 : decode cX11_motifIn 41 = .ok (.aload_n 0, 1) := by decide +kernel
theorem dX11_motifIn_42 : decode cX11_motifIn 42 = .ok (.iload_n 2, 1) := by decide +kernel
theorem dX11_motifIn_43 : decode cX11_motifIn 43 = .ok (.iload_n 1, 1) := by decide +kernel
theorem dX11_motifIn_44 : decode cX11_motifIn 44 = .ok (.invokevirtual 223, 3) := by decide +kernel
theorem dX11_motifIn_47 : decode cX11_motifIn 47 = .ok (.ireturn, 1) := by decide +kernel
theorem dX11_of_0 : decode cX11_of 0 = .ok (.aload_n 0, 1) := by decide +kernel
theorem dX11_of_1 : decode cX11_of 1 = .ok (.iconst 0, 1) := by decide +kernel
theorem dX11_of_2 : decode cX11_of 2 = .ok (.putfield 1, 3) := by decide +kernel
theorem dX11_of_5 : decode cX11_of 5 = .ok (.aload_n 0, 1) := by decide +kernel
theorem dX11_of_6 : decode cX11_of 6 = .ok (.iload_n 1, 1) := by decide +kernel
theorem dX11_of_7 : decode cX11_of 7 = .ok (.invokevirtual 113, 3) := by decide +kernel
theorem dX11_of_10 : decode cX11_of 10 = .ok (.ifCond .eq 15, 3) := by decide +kernel
theorem dX11_of_13 : decode cX11_of 13 = .ok (.iload_n 2, 1) := by decide +kernel
theorem dX11_of_14 : decode cX11_of 14 = .ok (.ifCond .lt 11, 3) := by decide +kernel
theorem dX11_of_17 : decode cX11_of 17 = .ok (.iload_n 2, 1) := by decide +kernel
theorem dX11_of_18 : decode cX11_of 18 = .ok (.aload_n 0, 1) := by decide +kernel
theorem dX11_of_19 : decode cX11_of 19 = .ok (.getfield 110, 3) := by decide +kernel
theorem dX11_of_22 : decode cX11_of 22 = .ok (.if_icmp .le 5, 3) := by decide +kernel
theorem dX11_of_25 : decode cX11_of 25 = .ok (.iconst (-1), 1) := by decide +kernel
theorem dX11_of_26 : decode cX11_of 26 = .ok (.ireturn, 1) := by decide +kernel
theorem dX11_of_27 : decode cX11_of 27 = .ok (.iload_n 2, 1) := by decide +kernel
theorem dX11_of_28 : decode cX11_of 28 = .ok (.ifCond .ne 12, 3) := by decide +kernel
theorem dX11_of_31 : decode cX11_of 31 = .ok (.aload_n 0, 1) := by decide +kernel
theorem dX11_of_32 : decode cX11_of 32 = .ok (.getfield 27, 3) := by decide +kernel
theorem dX11_of_35 : decode cX11_of 35 = .ok (.iload_n 1, 1) := by decide +kernel
theorem dX11_of_36 : decode cX11_of 36 = .ok (.iaload, 1) := by decide +kernel
theorem dX11_of_37 : decode cX11_of 37 = .ok (.goto 16, 3) := by decide +kernel
theorem dX11_of_40 : decode cX11_of 40 = .ok (.aload_n 0, 1) := by decide +kernel
theorem dX11_of_41 : decode cX11_of 41 = .ok (.getfield 23, 3) := by decide +kernel
theorem dX11_of_44 : decode cX11_of 44 = .ok (.bipush 7, 2) := by decide +kernel
theorem dX11_of_46 : decode cX11_of 46 = .ok (.iload_n 1, 1) := by decide +kernel
theorem dX11_of_47 : decode cX11_of 47 = .ok (.imul, 1) := by decide +kernel
theorem dX11_of_48 : decode cX11_of 48 = .ok (.iload_n 2, 1) := by decide +kernel
theorem dX11_of_49 : decode cX11_of 49 = .ok (.iadd, 1) := by decide +kernel
theorem dX11_of_50 : decode cX11_of 50 = .ok (.iconst 1, 1) := by decide +kernel
theorem dX11_of_51 : decode cX11_of 51 = .ok (.isub, 1) := by decide +kernel
theorem dX11_of_52 : decode cX11_of 52 = .ok (.baload, 1) := by decide +kernel
theorem dX11_of_53 : decode cX11_of 53 = .ok (.ireturn, 1) := by decide +kernel
theorem dX11_count_0 : decode cX11_count 0 = .ok (.aload_n 0, 1) := by decide +kernel
theorem dX11_count_1 : decode cX11_count 1 = .ok (.iconst 0, 1) := by decide +kernel
theorem dX11_count_2 : decode cX11_count 2 = .ok (.putfield 1, 3) := by decide +kernel
theorem dX11_count_5 : decode cX11_count 5 = .ok (.iload_n 1, 1) := by decide +kernel
theorem dX11_count_6 : decode cX11_count 6 = .ok (.bipush 10, 2) := by decide +kernel
theorem dX11_count_8 : decode cX11_count 8 = .ok (.if_icmp .lt 24, 3) := by decide +kernel
theorem dX11_count_11 : decode cX11_count 11 = .ok (.iload_n 1, 1) := by decide +kernel
theorem dX11_count_12 : decode cX11_count 12 = .ok (.bipush 10, 2) := by decide +kernel
theorem dX11_count_14 : decode cX11_count 14 = .ok (.aload_n 0, 1) := by decide +kernel
theorem dX11_count_15 : decode cX11_count 15 = .ok (.getfield 88, 3) := by decide +kernel
theorem dX11_count_18 : decode cX11_count 18 = .ok (.iadd, 1) := by decide +kernel
theorem dX11_count_19 : decode cX11_count 19 = .ok (.if_icmp .ge 13, 3) := by decide +kernel
theorem dX11_count_22 : decode cX11_count 22 = .ok (.aload_n 0, 1) := by decide +kernel
theorem dX11_count_23 : decode cX11_count 23 = .ok (.getfield 33, 3) := by decide +kernel
theorem dX11_count_26 : decode cX11_count 26 = .ok (.iload_n 1, 1) := by decide +kernel
theorem dX11_count_27 : decode cX11_count 27 = .ok (.bipush 10, 2) := by decide +kernel
theorem dX11_count_29 : decode cX11_count 29 = .ok (.isub, 1) := by decide +kernel
theorem dX11_count_30 : decode cX11_count 30 = .ok (.iaload, 1) := by decide +kernel
theorem dX11_count_31 : decode cX11_count 31 = .ok (.ireturn, 1) := by decide +kernel
theorem dX11_count_32 : decode cX11_count 32 = .ok (.iload_n 1, 1) := by decide +kernel
theorem dX11_count_33 : decode cX11_count 33 = .ok (.tableswitch 118 0 9 #[55, 60, 66, 72, 77, 82, 98, 103, 108, 113], 55) := by decide +kernel
theorem dX11_count_88 : decode cX11_count 88 = .ok (.aload_n 0, 1) := by decide +kernel
theorem dX11_count_89 : decode cX11_count 89 = .ok (.getfield 85, 3) := by decide +kernel
theorem dX11_count_92 : decode cX11_count 92 = .ok (.ireturn, 1) := by decide +kernel
theorem dX11_count_93 : decode cX11_count 93 = .ok (.aload_n 0, 1) := by decide +kernel
theorem dX11_count_94 : decode cX11_count 94 = .ok (.iconst 1, 1) := by decide +kernel
theorem dX11_count_95 : decode cX11_count 95 = .ok (.invokevirtual 141, 3) := by decide +kernel
theorem dX11_count_98 : decode cX11_count 98 = .ok (.ireturn, 1) := by decide +kernel
theorem dX11_count_99 : decode cX11_count 99 = .ok (.aload_n 0, 1) := by decide +kernel
theorem dX11_count_100 : decode cX11_count 100 = .ok (.iconst 2, 1) := by decide +kernel
theorem dX11_count_101 : decode cX11_count 101 = .ok (.invokevirtual 141, 3) := by decide +kernel
theorem dX11_count_104 : decode cX11_count 104 = .ok (.ireturn, 1) := by decide +kernel
theorem dX11_count_105 : decode cX11_count 105 = .ok (.aload_n 0, 1) := by decide +kernel
theorem dX11_count_106 : decode cX11_count 106 = .ok (.getfield 88, 3) := by decide +kernel
theorem dX11_count_109 : decode cX11_count 109 = .ok (.ireturn, 1) := by decide +kernel
theorem dX11_count_110 : decode cX11_count 110 = .ok (.aload_n 0, 1) := by decide +kernel
theorem dX11_count_111 : decode cX11_count 111 = .ok (.getfield 13, 3) := by decide +kernel
theorem dX11_count_114 : decode cX11_count 114 = .ok (.ireturn, 1) := by decide +kernel
theorem dX11_count_115 : decode cX11_count 115 = .ok (.aload_n 0, 1) := by decide +kernel
theorem dX11_count_116 : decode cX11_count 116 = .ok (.getfield 85, 3) := by decide +kernel
theorem dX11_count_119 : decode cX11_count 119 = .ok (.ifCond .ne 7, 3) := by decide +kernel
theorem dX11_count_122 : decode cX11_count 122 = .ok (.iconst (-1), 1) := by decide +kernel
theorem dX11_count_123 : decode cX11_count 123 = .ok (.goto 7, 3) := by decide +kernel
theorem dX11_count_126 : decode cX11_count 126 = .ok (.aload_n 0, 1) := by decide +kernel
theorem dX11_count_127 : decode cX11_count 127 = .ok (.getfield 110, 3) := by decide +kernel
theorem dX11_count_130 : decode cX11_count 130 = .ok (.ireturn, 1) := by decide +kernel
theorem dX11_count_131 : decode cX11_count 131 = .ok (.aload_n 0, 1) := by decide +kernel
theorem dX11_count_132 : decode cX11_count 132 = .ok (.getfield 94, 3) := by decide +kernel
theorem dX11_count_135 : decode cX11_count 135 = .ok (.ireturn, 1) := by decide +kernel
theorem dX11_count_136 : decode cX11_count 136 = .ok (.aload_n 0, 1) := by decide +kernel
theorem dX11_count_137 : decode cX11_count 137 = .ok (.getfield 97, 3) := by decide +kernel
theorem dX11_count_140 : decode cX11_count 140 = .ok (.ireturn, 1) := by decide +kernel
theorem dX11_count_141 : decode cX11_count 141 = .ok (.aload_n 0, 1) := by decide +kernel
theorem dX11_count_142 : decode cX11_count 142 = .ok (.getfield 100, 3) := by decide +kernel
theorem dX11_count_145 : decode cX11_count 145 = .ok (.ireturn, 1) := by decide +kernel
theorem dX11_count_146 : decode cX11_count 146 = .ok (.aload_n 0, 1) := by decide +kernel
theorem dX11_count_147 : decode cX11_count 147 = .ok (.getfield 20, 3) := by decide +kernel
theorem dX11_count_150 : decode cX11_count 150 = .ok (.ireturn, 1) := by decide +kernel
theorem dX11_count_151 : decode cX11_count 151 = .ok (.iconst (-1), 1) := by decide +kernel
theorem dX11_count_152 : decode cX11_count 152 = .ok (.ireturn, 1) := by decide +kernel
theorem dJ6_bitCount_0f7a4_0 : decode cJ6_bitCount_0f7a4 0 = .ok (.iload_n 0, 1) := by decide +kernel
theorem dJ6_bitCount_0f7a4_1 : decode cJ6_bitCount_0f7a4 1 = .ok (.iload_n 0, 1) := by decide +kernel
theorem dJ6_bitCount_0f7a4_2 : decode cJ6_bitCount_0f7a4 2 = .ok (.iconst 1, 1) := by decide +kernel
theorem dJ6_bitCount_0f7a4_3 : decode cJ6_bitCount_0f7a4 3 = .ok (.iushr, 1) := by decide +kernel
theorem dJ6_bitCount_0f7a4_4 : decode cJ6_bitCount_0f7a4 4 = .ok (.ldc_w 265, 3) := by decide +kernel
theorem dJ6_bitCount_0f7a4_7 : decode cJ6_bitCount_0f7a4 7 = .ok (.iand, 1) := by decide +kernel
theorem dJ6_bitCount_0f7a4_8 : decode cJ6_bitCount_0f7a4 8 = .ok (.isub, 1) := by decide +kernel
theorem dJ6_bitCount_0f7a4_9 : decode cJ6_bitCount_0f7a4 9 = .ok (.istore_n 0, 1) := by decide +kernel
theorem dJ6_bitCount_0f7a4_10 : decode cJ6_bitCount_0f7a4 10 = .ok (.iload_n 0, 1) := by decide +kernel
theorem dJ6_bitCount_0f7a4_11 : decode cJ6_bitCount_0f7a4 11 = .ok (.ldc_w 266, 3) := by decide +kernel
theorem dJ6_bitCount_0f7a4_14 : decode cJ6_bitCount_0f7a4 14 = .ok (.iand, 1) := by decide +kernel
theorem dJ6_bitCount_0f7a4_15 : decode cJ6_bitCount_0f7a4 15 = .ok (.iload_n 0, 1) := by decide +kernel
theorem dJ6_bitCount_0f7a4_16 : decode cJ6_bitCount_0f7a4 16 = .ok (.iconst 2, 1) := by decide +kernel
theorem dJ6_bitCount_0f7a4_17 : decode cJ6_bitCount_0f7a4 17 = .ok (.iushr, 1) := by decide +kernel
theorem dJ6_bitCount_0f7a4_18 : decode cJ6_bitCount_0f7a4 18 = .ok (.ldc_w 266, 3) := by decide +kernel
theorem dJ6_bitCount_0f7a4_21 : decode cJ6_bitCount_0f7a4 21 = .ok (.iand, 1) := by decide +kernel
theorem dJ6_bitCount_0f7a4_22 : decode cJ6_bitCount_0f7a4 22 = .ok (.iadd, 1) := by decide +kernel
theorem dJ6_bitCount_0f7a4_23 : decode cJ6_bitCount_0f7a4 23 = .ok (.istore_n 0, 1) := by decide +kernel
theorem dJ6_bitCount_0f7a4_24 : decode cJ6_bitCount_0f7a4 24 = .ok (.iload_n 0, 1) := by decide +kernel
theorem dJ6_bitCount_0f7a4_25 : decode cJ6_bitCount_0f7a4 25 = .ok (.iload_n 0, 1) := by decide +kernel
theorem dJ6_bitCount_0f7a4_26 : decode cJ6_bitCount_0f7a4 26 = .ok (.iconst 4, 1) := by decide +kernel
theorem dJ6_bitCount_0f7a4_27 : decode cJ6_bitCount_0f7a4 27 = .ok (.iushr, 1) := by decide +kernel
theorem dJ6_bitCount_0f7a4_28 : decode cJ6_bitCount_0f7a4 28 = .ok (.iadd, 1) := by decide +kernel
theorem dJ6_bitCount_0f7a4_29 : decode cJ6_bitCount_0f7a4 29 = .ok (.ldc_w 267, 3) := by decide +kernel
theorem dJ6_bitCount_0f7a4_32 : decode cJ6_bitCount_0f7a4 32 = .ok (.iand, 1) := by decide +kernel
theorem dJ6_bitCount_0f7a4_33 : decode cJ6_bitCount_0f7a4 33 = .ok (.istore_n 0, 1) := by decide +kernel
theorem dJ6_bitCount_0f7a4_34 : decode cJ6_bitCount_0f7a4 34 = .ok (.iload_n 0, 1) := by decide +kernel
theorem dJ6_bitCount_0f7a4_35 : decode cJ6_bitCount_0f7a4 35 = .ok (.iload_n 0, 1) := by decide +kernel
theorem dJ6_bitCount_0f7a4_36 : decode cJ6_bitCount_0f7a4 36 = .ok (.bipush 8, 2) := by decide +kernel
theorem dJ6_bitCount_0f7a4_38 : decode cJ6_bitCount_0f7a4 38 = .ok (.iushr, 1) := by decide +kernel
theorem dJ6_bitCount_0f7a4_39 : decode cJ6_bitCount_0f7a4 39 = .ok (.iadd, 1) := by decide +kernel
theorem dJ6_bitCount_0f7a4_40 : decode cJ6_bitCount_0f7a4 40 = .ok (.istore_n 0, 1) := by decide +kernel
theorem dJ6_bitCount_0f7a4_41 : decode cJ6_bitCount_0f7a4 41 = .ok (.iload_n 0, 1) := by decide +kernel
theorem dJ6_bitCount_0f7a4_42 : decode cJ6_bitCount_0f7a4 42 = .ok (.iload_n 0, 1) := by decide +kernel
theorem dJ6_bitCount_0f7a4_43 : decode cJ6_bitCount_0f7a4 43 = .ok (.bipush 16, 2) := by decide +kernel
theorem dJ6_bitCount_0f7a4_45 : decode cJ6_bitCount_0f7a4 45 = .ok (.iushr, 1) := by decide +kernel
theorem dJ6_bitCount_0f7a4_46 : decode cJ6_bitCount_0f7a4 46 = .ok (.iadd, 1) := by decide +kernel
theorem dJ6_bitCount_0f7a4_47 : decode cJ6_bitCount_0f7a4 47 = .ok (.istore_n 0, 1) := by decide +kernel
theorem dJ6_bitCount_0f7a4_48 : decode cJ6_bitCount_0f7a4 48 = .ok (.iload_n 0, 1) := by decide +kernel
theorem dJ6_bitCount_0f7a4_49 : decode cJ6_bitCount_0f7a4 49 = .ok (.bipush 63, 2) := by decide +kernel
theorem dJ6_bitCount_0f7a4_51 : decode cJ6_bitCount_0f7a4 51 = .ok (.iand, 1) := by decide +kernel
theorem dJ6_bitCount_0f7a4_52 : decode cJ6_bitCount_0f7a4 52 = .ok (.ireturn, 1) := by decide +kernel
theorem dJ9_max_7cf53_0 : decode cJ9_max_7cf53 0 = .ok (.iload_n 0, 1) := by decide +kernel
theorem dJ9_max_7cf53_1 : decode cJ9_max_7cf53 1 = .ok (.iload_n 1, 1) := by decide +kernel
theorem dJ9_max_7cf53_2 : decode cJ9_max_7cf53 2 = .ok (.if_icmp .lt 7, 3) := by decide +kernel
theorem dJ9_max_7cf53_5 : decode cJ9_max_7cf53 5 = .ok (.iload_n 0, 1) := by decide +kernel
theorem dJ9_max_7cf53_6 : decode cJ9_max_7cf53 6 = .ok (.goto 4, 3) := by decide +kernel
theorem dJ9_max_7cf53_9 : decode cJ9_max_7cf53 9 = .ok (.iload_n 1, 1) := by decide +kernel
theorem dJ9_max_7cf53_10 : decode cJ9_max_7cf53 10 = .ok (.ireturn, 1) := by decide +kernel
theorem dJ9_min_7cf53_0 : decode cJ9_min_7cf53 0 = .ok (.iload_n 0, 1) := by decide +kernel
theorem dJ9_min_7cf53_1 : decode cJ9_min_7cf53 1 = .ok (.iload_n 1, 1) := by decide +kernel
theorem dJ9_min_7cf53_2 : decode cJ9_min_7cf53 2 = .ok (.if_icmp .gt 7, 3) := by decide +kernel
theorem dJ9_min_7cf53_5 : decode cJ9_min_7cf53 5 = .ok (.iload_n 0, 1) := by decide +kernel
theorem dJ9_min_7cf53_6 : decode cJ9_min_7cf53 6 = .ok (.goto 4, 3) := by decide +kernel
theorem dJ9_min_7cf53_9 : decode cJ9_min_7cf53 9 = .ok (.iload_n 1, 1) := by decide +kernel
theorem dJ9_min_7cf53_10 : decode cJ9_min_7cf53 10 = .ok (.ireturn, 1) := by decide +kernel
theorem dL_motifIn_0 : decode cL_motifIn 0 = .ok (.aload_n 3, 1) := by decide +kernel
theorem dL_motifIn_1 : decode cL_motifIn 1 = .ok (.iconst 0, 1) := by decide +kernel
theorem dL_motifIn_2 : decode cL_motifIn 2 = .ok (.aload_n 0, 1) := by decide +kernel
theorem dL_motifIn_3 : decode cL_motifIn 3 = .ok (.iload_n 1, 1) := by decide +kernel
theorem dL_motifIn_4 : decode cL_motifIn 4 = .ok (.iload_n 2, 1) := by decide +kernel
theorem dL_motifIn_5 : decode cL_motifIn 5 = .ok (.invokevirtual 7, 3) := by decide +kernel
theorem dL_motifIn_8 : decode cL_motifIn 8 = .ok (.i2l, 1) := by decide +kernel
theorem dL_motifIn_9 : decode cL_motifIn 9 = .ok (.lastore, 1) := by decide +kernel
theorem dL_motifIn_10 : decode cL_motifIn 10 = .ok (.goto 7, 3) := by decide +kernel
theorem dL_motifIn_13 : decode cL_motifIn 13 = .ok (.astore 4, 2) := by decide +kernel
theorem dL_motifIn_15 : decode cL_motifIn 15 = .ok (.iconst 1, 1) := by decide +kernel
theorem dL_motifIn_16 : decode cL_motifIn 16 = .ok (.ireturn, 1) := by decide +kernel
theorem dL_motifIn_17 : decode cL_motifIn 17 = .ok (.iconst 0, 1) := by decide +kernel
theorem dL_motifIn_18 : decode cL_motifIn 18 = .ok (.ireturn, 1) := by decide +kernel
theorem dL_law_0 : decode cL_law 0 = .ok (.new 8, 3) := by decide +kernel
theorem dL_law_3 : decode cL_law 3 = .ok (.dup, 1) := by decide +kernel
theorem dL_law_4 : decode cL_law 4 = .ok (.invokespecial 15, 3) := by decide +kernel
theorem dL_law_7 : decode cL_law 7 = .ok (.astore_n 1, 1) := by decide +kernel
theorem dL_law_8 : decode cL_law 8 = .ok (.new 16, 3) := by decide +kernel
theorem dL_law_11 : decode cL_law 11 = .ok (.dup, 1) := by decide +kernel
theorem dL_law_12 : decode cL_law 12 = .ok (.invokespecial 18, 3) := by decide +kernel
theorem dL_law_15 : decode cL_law 15 = .ok (.astore_n 2, 1) := by decide +kernel
theorem dL_law_16 : decode cL_law 16 = .ok (.iconst 1, 1) := by decide +kernel
theorem dL_law_17 : decode cL_law 17 = .ok (.newarray .long, 2) := by decide +kernel
theorem dL_law_19 : decode cL_law 19 = .ok (.astore_n 3, 1) := by decide +kernel
theorem dL_law_20 : decode cL_law 20 = .ok (.iconst 0, 1) := by decide +kernel
theorem dL_law_21 : decode cL_law 21 = .ok (.istore 4, 2) := by decide +kernel
theorem dL_law_23 : decode cL_law 23 = .ok (.iload 4, 2) := by decide +kernel
theorem dL_law_25 : decode cL_law 25 = .ok (.aload_n 0, 1) := by decide +kernel
theorem dL_law_26 : decode cL_law 26 = .ok (.arraylength, 1) := by decide +kernel
theorem dL_law_27 : decode cL_law 27 = .ok (.bipush 6, 2) := by decide +kernel
theorem dL_law_29 : decode cL_law 29 = .ok (.isub, 1) := by decide +kernel
theorem dL_law_30 : decode cL_law 30 = .ok (.if_icmp .gt 1150, 3) := by decide +kernel
theorem dL_law_33 : decode cL_law 33 = .ok (.aload_n 0, 1) := by decide +kernel
theorem dL_law_34 : decode cL_law 34 = .ok (.iload 4, 2) := by decide +kernel
theorem dL_law_36 : decode cL_law 36 = .ok (.iaload, 1) := by decide +kernel
theorem dL_law_37 : decode cL_law 37 = .ok (.bipush 63, 2) := by decide +kernel
theorem dL_law_39 : decode cL_law 39 = .ok (.iand, 1) := by decide +kernel
theorem dL_law_40 : decode cL_law 40 = .ok (.tableswitch 1134 0 34 #[156, 181, 230, 255, 280, 305, 378, 403, 416, 429, 466, 503, 528, 541, 566, 591, 616, 641, 678, 703, 728, 753, 778, 815, 840, 853, 866, 891, 904, 929, 942, 967, 1004, 1072, 1109], 156) := by decide +kernel
theorem dL_law_196 : decode cL_law 196 = .ok (.aload_n 1, 1) := by decide +kernel
theorem dL_law_197 : decode cL_law 197 = .ok (.aload_n 0, 1) := by decide +kernel
theorem dL_law_198 : decode cL_law 198 = .ok (.iload 4, 2) := by decide +kernel
theorem dL_law_200 : decode cL_law 200 = .ok (.iconst 1, 1) := by decide +kernel
theorem dL_law_201 : decode cL_law 201 = .ok (.iadd, 1) := by decide +kernel
theorem dL_law_202 : decode cL_law 202 = .ok (.iaload, 1) := by decide +kernel
theorem dL_law_203 : decode cL_law 203 = .ok (.invokevirtual 19, 3) := by decide +kernel
theorem dL_law_206 : decode cL_law 206 = .ok (.aload_n 2, 1) := by decide +kernel
theorem dL_law_207 : decode cL_law 207 = .ok (.aload_n 0, 1) := by decide +kernel
theorem dL_law_208 : decode cL_law 208 = .ok (.iload 4, 2) := by decide +kernel
theorem dL_law_210 : decode cL_law 210 = .ok (.iconst 1, 1) := by decide +kernel
theorem dL_law_211 : decode cL_law 211 = .ok (.iadd, 1) := by decide +kernel
theorem dL_law_212 : decode cL_law 212 = .ok (.iaload, 1) := by decide +kernel
theorem dL_law_213 : decode cL_law 213 = .ok (.invokevirtual 23, 3) := by decide +kernel
theorem dL_law_216 : decode cL_law 216 = .ok (.if_icmp .eq 958, 3) := by decide +kernel
theorem dL_law_219 : decode cL_law 219 = .ok (.iconst 0, 1) := by decide +kernel
theorem dL_law_220 : decode cL_law 220 = .ok (.ireturn, 1) := by decide +kernel
theorem dL_law_221 : decode cL_law 221 = .ok (.aload_n 1, 1) := by decide +kernel
theorem dL_law_222 : decode cL_law 222 = .ok (.aload_n 0, 1) := by decide +kernel
theorem dL_law_223 : decode cL_law 223 = .ok (.iload 4, 2) := by decide +kernel
theorem dL_law_225 : decode cL_law 225 = .ok (.iconst 1, 1) := by decide +kernel
theorem dL_law_226 : decode cL_law 226 = .ok (.iadd, 1) := by decide +kernel
theorem dL_law_227 : decode cL_law 227 = .ok (.iaload, 1) := by decide +kernel
theorem dL_law_228 : decode cL_law 228 = .ok (.aload_n 0, 1) := by decide +kernel
theorem dL_law_229 : decode cL_law 229 = .ok (.iload 4, 2) := by decide +kernel
theorem dL_law_231 : decode cL_law 231 = .ok (.iconst 2, 1) := by decide +kernel
theorem dL_law_232 : decode cL_law 232 = .ok (.iadd, 1) := by decide +kernel
theorem dL_law_233 : decode cL_law 233 = .ok (.iaload, 1) := by decide +kernel
theorem dL_law_234 : decode cL_law 234 = .ok (.aload_n 0, 1) := by decide +kernel
theorem dL_law_235 : decode cL_law 235 = .ok (.iload 4, 2) := by decide +kernel
theorem dL_law_237 : decode cL_law 237 = .ok (.iconst 3, 1) := by decide +kernel
theorem dL_law_238 : decode cL_law 238 = .ok (.iadd, 1) := by decide +kernel
theorem dL_law_239 : decode cL_law 239 = .ok (.iaload, 1) := by decide +kernel
theorem dL_law_240 : decode cL_law 240 = .ok (.invokevirtual 24, 3) := by decide +kernel
theorem dL_law_243 : decode cL_law 243 = .ok (.aload_n 2, 1) := by decide +kernel
theorem dL_law_244 : decode cL_law 244 = .ok (.aload_n 0, 1) := by decide +kernel
theorem dL_law_245 : decode cL_law 245 = .ok (.iload 4, 2) := by decide +kernel
theorem dL_law_247 : decode cL_law 247 = .ok (.iconst 1, 1) := by decide +kernel
theorem dL_law_248 : decode cL_law 248 = .ok (.iadd, 1) := by decide +kernel
theorem dL_law_249 : decode cL_law 249 = .ok (.iaload, 1) := by decide +kernel
theorem dL_law_250 : decode cL_law 250 = .ok (.aload_n 0, 1) := by decide +kernel
theorem dL_law_251 : decode cL_law 251 = .ok (.iload 4, 2) := by decide +kernel
theorem dL_law_253 : decode cL_law 253 = .ok (.iconst 2, 1) := by decide +kernel
theorem dL_law_254 : decode cL_law 254 = .ok (.iadd, 1) := by decide +kernel
theorem dL_law_255 : decode cL_law 255 = .ok (.iaload, 1) := by decide +kernel
theorem dL_law_256 : decode cL_law 256 = .ok (.aload_n 0, 1) := by decide +kernel
theorem dL_law_257 : decode cL_law 257 = .ok (.iload 4, 2) := by decide +kernel
theorem dL_law_259 : decode cL_law 259 = .ok (.iconst 3, 1) := by decide +kernel
theorem dL_law_260 : decode cL_law 260 = .ok (.iadd, 1) := by decide +kernel
theorem dL_law_261 : decode cL_law 261 = .ok (.iaload, 1) := by decide +kernel
theorem dL_law_262 : decode cL_law 262 = .ok (.invokevirtual 28, 3) := by decide +kernel
theorem dL_law_265 : decode cL_law 265 = .ok (.if_icmp .eq 909, 3) := by decide +kernel
theorem dL_law_268 : decode cL_law 268 = .ok (.iconst 0, 1) := by decide +kernel
theorem dL_law_269 : decode cL_law 269 = .ok (.ireturn, 1) := by decide +kernel
theorem dL_law_270 : decode cL_law 270 = .ok (.aload_n 1, 1) := by decide +kernel
theorem dL_law_271 : decode cL_law 271 = .ok (.aload_n 0, 1) := by decide +kernel
theorem dL_law_272 : decode cL_law 272 = .ok (.iload 4, 2) := by decide +kernel
theorem dL_law_274 : decode cL_law 274 = .ok (.iconst 1, 1) := by decide +kernel
theorem dL_law_275 : decode cL_law 275 = .ok (.iadd, 1) := by decide +kernel
theorem dL_law_276 : decode cL_law 276 = .ok (.iaload, 1) := by decide +kernel
theorem dL_law_277 : decode cL_law 277 = .ok (.invokevirtual 29, 3) := by decide +kernel
theorem dL_law_280 : decode cL_law 280 = .ok (.aload_n 2, 1) := by decide +kernel
theorem dL_law_281 : decode cL_law 281 = .ok (.aload_n 0, 1) := by decide +kernel
theorem dL_law_282 : decode cL_law 282 = .ok (.iload 4, 2) := by decide +kernel
theorem dL_law_284 : decode cL_law 284 = .ok (.iconst 1, 1) := by decide +kernel
theorem dL_law_285 : decode cL_law 285 = .ok (.iadd, 1) := by decide +kernel
theorem dL_law_286 : decode cL_law 286 = .ok (.iaload, 1) := by decide +kernel
theorem dL_law_287 : decode cL_law 287 = .ok (.invokevirtual 32, 3) := by decide +kernel
theorem dL_law_290 : decode cL_law 290 = .ok (.if_icmp .eq 884, 3) := by decide +kernel
theorem dL_law_293 : decode cL_law 293 = .ok (.iconst 0, 1) := by decide +kernel
theorem dL_law_294 : decode cL_law 294 = .ok (.ireturn, 1) := by decide +kernel
theorem dL_law_295 : decode cL_law 295 = .ok (.aload_n 1, 1) := by decide +kernel
theorem dL_law_296 : decode cL_law 296 = .ok (.aload_n 0, 1) := by decide +kernel
theorem dL_law_297 : decode cL_law 297 = .ok (.iload 4, 2) := by decide +kernel
theorem dL_law_299 : decode cL_law 299 = .ok (.iconst 1, 1) := by decide +kernel
theorem dL_law_300 : decode cL_law 300 = .ok (.iadd, 1) := by decide +kernel
theorem dL_law_301 : decode cL_law 301 = .ok (.iaload, 1) := by decide +kernel
theorem dL_law_302 : decode cL_law 302 = .ok (.invokevirtual 33, 3) := by decide +kernel
theorem dL_law_305 : decode cL_law 305 = .ok (.aload_n 2, 1) := by decide +kernel
theorem dL_law_306 : decode cL_law 306 = .ok (.aload_n 0, 1) := by decide +kernel
theorem dL_law_307 : decode cL_law 307 = .ok (.iload 4, 2) := by decide +kernel
theorem dL_law_309 : decode cL_law 309 = .ok (.iconst 1, 1) := by decide +kernel
theorem dL_law_310 : decode cL_law 310 = .ok (.iadd, 1) := by decide +kernel
theorem dL_law_311 : decode cL_law 311 = .ok (.iaload, 1) := by decide +kernel
theorem dL_law_312 : decode cL_law 312 = .ok (.invokevirtual 36, 3) := by decide +kernel
theorem dL_law_315 : decode cL_law 315 = .ok (.if_icmp .eq 859, 3) := by decide +kernel
theorem dL_law_318 : decode cL_law 318 = .ok (.iconst 0, 1) := by decide +kernel
theorem dL_law_319 : decode cL_law 319 = .ok (.ireturn, 1) := by decide +kernel
theorem dL_law_320 : decode cL_law 320 = .ok (.aload_n 1, 1) := by decide +kernel
theorem dL_law_321 : decode cL_law 321 = .ok (.aload_n 0, 1) := by decide +kernel
theorem dL_law_322 : decode cL_law 322 = .ok (.iload 4, 2) := by decide +kernel
theorem dL_law_324 : decode cL_law 324 = .ok (.iconst 1, 1) := by decide +kernel
theorem dL_law_325 : decode cL_law 325 = .ok (.iadd, 1) := by decide +kernel
theorem dL_law_326 : decode cL_law 326 = .ok (.iaload, 1) := by decide +kernel
theorem dL_law_327 : decode cL_law 327 = .ok (.invokevirtual 37, 3) := by decide +kernel
theorem dL_law_330 : decode cL_law 330 = .ok (.aload_n 2, 1) := by decide +kernel
theorem dL_law_331 : decode cL_law 331 = .ok (.aload_n 0, 1) := by decide +kernel
theorem dL_law_332 : decode cL_law 332 = .ok (.iload 4, 2) := by decide +kernel
theorem dL_law_334 : decode cL_law 334 = .ok (.iconst 1, 1) := by decide +kernel
theorem dL_law_335 : decode cL_law 335 = .ok (.iadd, 1) := by decide +kernel
theorem dL_law_336 : decode cL_law 336 = .ok (.iaload, 1) := by decide +kernel
theorem dL_law_337 : decode cL_law 337 = .ok (.invokevirtual 40, 3) := by decide +kernel
theorem dL_law_340 : decode cL_law 340 = .ok (.if_icmp .eq 834, 3) := by decide +kernel
theorem dL_law_343 : decode cL_law 343 = .ok (.iconst 0, 1) := by decide +kernel
theorem dL_law_344 : decode cL_law 344 = .ok (.ireturn, 1) := by decide +kernel
theorem dL_law_345 : decode cL_law 345 = .ok (.aload_n 1, 1) := by decide +kernel
theorem dL_law_346 : decode cL_law 346 = .ok (.aload_n 0, 1) := by decide +kernel
theorem dL_law_347 : decode cL_law 347 = .ok (.iload 4, 2) := by decide +kernel
theorem dL_law_349 : decode cL_law 349 = .ok (.iconst 1, 1) := by decide +kernel
theorem dL_law_350 : decode cL_law 350 = .ok (.iadd, 1) := by decide +kernel
theorem dL_law_351 : decode cL_law 351 = .ok (.iaload, 1) := by decide +kernel
theorem dL_law_352 : decode cL_law 352 = .ok (.aload_n 0, 1) := by decide +kernel
theorem dL_law_353 : decode cL_law 353 = .ok (.iload 4, 2) := by decide +kernel
theorem dL_law_355 : decode cL_law 355 = .ok (.iconst 2, 1) := by decide +kernel
theorem dL_law_356 : decode cL_law 356 = .ok (.iadd, 1) := by decide +kernel
theorem dL_law_357 : decode cL_law 357 = .ok (.iaload, 1) := by decide +kernel
theorem dL_law_358 : decode cL_law 358 = .ok (.aload_n 0, 1) := by decide +kernel
theorem dL_law_359 : decode cL_law 359 = .ok (.iload 4, 2) := by decide +kernel
theorem dL_law_361 : decode cL_law 361 = .ok (.iconst 3, 1) := by decide +kernel
theorem dL_law_362 : decode cL_law 362 = .ok (.iadd, 1) := by decide +kernel
theorem dL_law_363 : decode cL_law 363 = .ok (.iaload, 1) := by decide +kernel
theorem dL_law_364 : decode cL_law 364 = .ok (.aload_n 0, 1) := by decide +kernel
theorem dL_law_365 : decode cL_law 365 = .ok (.iload 4, 2) := by decide +kernel
theorem dL_law_367 : decode cL_law 367 = .ok (.iconst 4, 1) := by decide +kernel
theorem dL_law_368 : decode cL_law 368 = .ok (.iadd, 1) := by decide +kernel
theorem dL_law_369 : decode cL_law 369 = .ok (.iaload, 1) := by decide +kernel
theorem dL_law_370 : decode cL_law 370 = .ok (.aload_n 0, 1) := by decide +kernel
theorem dL_law_371 : decode cL_law 371 = .ok (.iload 4, 2) := by decide +kernel
theorem dL_law_373 : decode cL_law 373 = .ok (.iconst 5, 1) := by decide +kernel
theorem dL_law_374 : decode cL_law 374 = .ok (.iadd, 1) := by decide +kernel
theorem dL_law_375 : decode cL_law 375 = .ok (.iaload, 1) := by decide +kernel
theorem dL_law_376 : decode cL_law 376 = .ok (.invokevirtual 41, 3) := by decide +kernel
theorem dL_law_379 : decode cL_law 379 = .ok (.aload_n 2, 1) := by decide +kernel
theorem dL_law_380 : decode cL_law 380 = .ok (.aload_n 0, 1) := by decide +kernel
theorem dL_law_381 : decode cL_law 381 = .ok (.iload 4, 2) := by decide +kernel
theorem dL_law_383 : decode cL_law 383 = .ok (.iconst 1, 1) := by decide +kernel
theorem dL_law_384 : decode cL_law 384 = .ok (.iadd, 1) := by decide +kernel
theorem dL_law_385 : decode cL_law 385 = .ok (.iaload, 1) := by decide +kernel
theorem dL_law_386 : decode cL_law 386 = .ok (.aload_n 0, 1) := by decide +kernel
theorem dL_law_387 : decode cL_law 387 = .ok (.iload 4, 2) := by decide +kernel
theorem dL_law_389 : decode cL_law 389 = .ok (.iconst 2, 1) := by decide +kernel
theorem dL_law_390 : decode cL_law 390 = .ok (.iadd, 1) := by decide +kernel
theorem dL_law_391 : decode cL_law 391 = .ok (.iaload, 1) := by decide +kernel
theorem dL_law_392 : decode cL_law 392 = .ok (.aload_n 0, 1) := by decide +kernel
theorem dL_law_393 : decode cL_law 393 = .ok (.iload 4, 2) := by decide +kernel
theorem dL_law_395 : decode cL_law 395 = .ok (.iconst 3, 1) := by decide +kernel
theorem dL_law_396 : decode cL_law 396 = .ok (.iadd, 1) := by decide +kernel
theorem dL_law_397 : decode cL_law 397 = .ok (.iaload, 1) := by decide +kernel
theorem dL_law_398 : decode cL_law 398 = .ok (.aload_n 0, 1) := by decide +kernel
theorem dL_law_399 : decode cL_law 399 = .ok (.iload 4, 2) := by decide +kernel
theorem dL_law_401 : decode cL_law 401 = .ok (.iconst 4, 1) := by decide +kernel
theorem dL_law_402 : decode cL_law 402 = .ok (.iadd, 1) := by decide +kernel
theorem dL_law_403 : decode cL_law 403 = .ok (.iaload, 1) := by decide +kernel
theorem dL_law_404 : decode cL_law 404 = .ok (.aload_n 0, 1) := by decide +kernel
theorem dL_law_405 : decode cL_law 405 = .ok (.iload 4, 2) := by decide +kernel
theorem dL_law_407 : decode cL_law 407 = .ok (.iconst 5, 1) := by decide +kernel
theorem dL_law_408 : decode cL_law 408 = .ok (.iadd, 1) := by decide +kernel
theorem dL_law_409 : decode cL_law 409 = .ok (.iaload, 1) := by decide +kernel
theorem dL_law_410 : decode cL_law 410 = .ok (.invokevirtual 45, 3) := by decide +kernel
theorem dL_law_413 : decode cL_law 413 = .ok (.if_icmp .eq 761, 3) := by decide +kernel
theorem dL_law_416 : decode cL_law 416 = .ok (.iconst 0, 1) := by decide +kernel
theorem dL_law_417 : decode cL_law 417 = .ok (.ireturn, 1) := by decide +kernel
theorem dL_law_418 : decode cL_law 418 = .ok (.aload_n 1, 1) := by decide +kernel
theorem dL_law_419 : decode cL_law 419 = .ok (.aload_n 0, 1) := by decide +kernel
theorem dL_law_420 : decode cL_law 420 = .ok (.iload 4, 2) := by decide +kernel
theorem dL_law_422 : decode cL_law 422 = .ok (.iconst 1, 1) := by decide +kernel
theorem dL_law_423 : decode cL_law 423 = .ok (.iadd, 1) := by decide +kernel
theorem dL_law_424 : decode cL_law 424 = .ok (.iaload, 1) := by decide +kernel
theorem dL_law_425 : decode cL_law 425 = .ok (.invokevirtual 46, 3) := by decide +kernel
theorem dL_law_428 : decode cL_law 428 = .ok (.aload_n 2, 1) := by decide +kernel
theorem dL_law_429 : decode cL_law 429 = .ok (.aload_n 0, 1) := by decide +kernel
theorem dL_law_430 : decode cL_law 430 = .ok (.iload 4, 2) := by decide +kernel
theorem dL_law_432 : decode cL_law 432 = .ok (.iconst 1, 1) := by decide +kernel
theorem dL_law_433 : decode cL_law 433 = .ok (.iadd, 1) := by decide +kernel
theorem dL_law_434 : decode cL_law 434 = .ok (.iaload, 1) := by decide +kernel
theorem dL_law_435 : decode cL_law 435 = .ok (.invokevirtual 50, 3) := by decide +kernel
theorem dL_law_438 : decode cL_law 438 = .ok (.if_icmp .eq 736, 3) := by decide +kernel
theorem dL_law_441 : decode cL_law 441 = .ok (.iconst 0, 1) := by decide +kernel
theorem dL_law_442 : decode cL_law 442 = .ok (.ireturn, 1) := by decide +kernel
theorem dL_law_443 : decode cL_law 443 = .ok (.aload_n 1, 1) := by decide +kernel
theorem dL_law_444 : decode cL_law 444 = .ok (.invokevirtual 51, 3) := by decide +kernel
theorem dL_law_447 : decode cL_law 447 = .ok (.aload_n 2, 1) := by decide +kernel
theorem dL_law_448 : decode cL_law 448 = .ok (.invokevirtual 55, 3) := by decide +kernel
theorem dL_law_451 : decode cL_law 451 = .ok (.if_icmp .eq 723, 3) := by decide +kernel
theorem dL_law_454 : decode cL_law 454 = .ok (.iconst 0, 1) := by decide +kernel
theorem dL_law_455 : decode cL_law 455 = .ok (.ireturn, 1) := by decide +kernel
theorem dL_law_456 : decode cL_law 456 = .ok (.aload_n 1, 1) := by decide +kernel
theorem dL_law_457 : decode cL_law 457 = .ok (.invokevirtual 56, 3) := by decide +kernel
theorem dL_law_460 : decode cL_law 460 = .ok (.aload_n 2, 1) := by decide +kernel
theorem dL_law_461 : decode cL_law 461 = .ok (.invokevirtual 59, 3) := by decide +kernel
theorem dL_law_464 : decode cL_law 464 = .ok (.if_icmp .eq 710, 3) := by decide +kernel
theorem dL_law_467 : decode cL_law 467 = .ok (.iconst 0, 1) := by decide +kernel
theorem dL_law_468 : decode cL_law 468 = .ok (.ireturn, 1) := by decide +kernel
theorem dL_law_469 : decode cL_law 469 = .ok (.aload_n 1, 1) := by decide +kernel
theorem dL_law_470 : decode cL_law 470 = .ok (.aload_n 0, 1) := by decide +kernel
theorem dL_law_471 : decode cL_law 471 = .ok (.iload 4, 2) := by decide +kernel
theorem dL_law_473 : decode cL_law 473 = .ok (.iconst 1, 1) := by decide +kernel
theorem dL_law_474 : decode cL_law 474 = .ok (.iadd, 1) := by decide +kernel
theorem dL_law_475 : decode cL_law 475 = .ok (.iaload, 1) := by decide +kernel
theorem dL_law_476 : decode cL_law 476 = .ok (.aload_n 0, 1) := by decide +kernel
theorem dL_law_477 : decode cL_law 477 = .ok (.iload 4, 2) := by decide +kernel
theorem dL_law_479 : decode cL_law 479 = .ok (.iconst 2, 1) := by decide +kernel
theorem dL_law_480 : decode cL_law 480 = .ok (.iadd, 1) := by decide +kernel
theorem dL_law_481 : decode cL_law 481 = .ok (.iaload, 1) := by decide +kernel
theorem dL_law_482 : decode cL_law 482 = .ok (.invokevirtual 60, 3) := by decide +kernel
theorem dL_law_485 : decode cL_law 485 = .ok (.aload_n 2, 1) := by decide +kernel
theorem dL_law_486 : decode cL_law 486 = .ok (.aload_n 0, 1) := by decide +kernel
theorem dL_law_487 : decode cL_law 487 = .ok (.iload 4, 2) := by decide +kernel
theorem dL_law_489 : decode cL_law 489 = .ok (.iconst 1, 1) := by decide +kernel
theorem dL_law_490 : decode cL_law 490 = .ok (.iadd, 1) := by decide +kernel
theorem dL_law_491 : decode cL_law 491 = .ok (.iaload, 1) := by decide +kernel
theorem dL_law_492 : decode cL_law 492 = .ok (.aload_n 0, 1) := by decide +kernel
theorem dL_law_493 : decode cL_law 493 = .ok (.iload 4, 2) := by decide +kernel
theorem dL_law_495 : decode cL_law 495 = .ok (.iconst 2, 1) := by decide +kernel
theorem dL_law_496 : decode cL_law 496 = .ok (.iadd, 1) := by decide +kernel
theorem dL_law_497 : decode cL_law 497 = .ok (.iaload, 1) := by decide +kernel
theorem dL_law_498 : decode cL_law 498 = .ok (.invokevirtual 64, 3) := by decide +kernel
theorem dL_law_501 : decode cL_law 501 = .ok (.if_icmp .eq 673, 3) := by decide +kernel
theorem dL_law_504 : decode cL_law 504 = .ok (.iconst 0, 1) := by decide +kernel
theorem dL_law_505 : decode cL_law 505 = .ok (.ireturn, 1) := by decide +kernel
theorem dL_law_506 : decode cL_law 506 = .ok (.aload_n 1, 1) := by decide +kernel
theorem dL_law_507 : decode cL_law 507 = .ok (.aload_n 0, 1) := by decide +kernel
theorem dL_law_508 : decode cL_law 508 = .ok (.iload 4, 2) := by decide +kernel
theorem dL_law_510 : decode cL_law 510 = .ok (.iconst 1, 1) := by decide +kernel
theorem dL_law_511 : decode cL_law 511 = .ok (.iadd, 1) := by decide +kernel
theorem dL_law_512 : decode cL_law 512 = .ok (.iaload, 1) := by decide +kernel
theorem dL_law_513 : decode cL_law 513 = .ok (.aload_n 0, 1) := by decide +kernel
theorem dL_law_514 : decode cL_law 514 = .ok (.iload 4, 2) := by decide +kernel
theorem dL_law_516 : decode cL_law 516 = .ok (.iconst 2, 1) := by decide +kernel
theorem dL_law_517 : decode cL_law 517 = .ok (.iadd, 1) := by decide +kernel
theorem dL_law_518 : decode cL_law 518 = .ok (.iaload, 1) := by decide +kernel
theorem dL_law_519 : decode cL_law 519 = .ok (.invokevirtual 65, 3) := by decide +kernel
theorem dL_law_522 : decode cL_law 522 = .ok (.aload_n 2, 1) := by decide +kernel
theorem dL_law_523 : decode cL_law 523 = .ok (.aload_n 0, 1) := by decide +kernel
theorem dL_law_524 : decode cL_law 524 = .ok (.iload 4, 2) := by decide +kernel
theorem dL_law_526 : decode cL_law 526 = .ok (.iconst 1, 1) := by decide +kernel
theorem dL_law_527 : decode cL_law 527 = .ok (.iadd, 1) := by decide +kernel
theorem dL_law_528 : decode cL_law 528 = .ok (.iaload, 1) := by decide +kernel
theorem dL_law_529 : decode cL_law 529 = .ok (.aload_n 0, 1) := by decide +kernel
theorem dL_law_530 : decode cL_law 530 = .ok (.iload 4, 2) := by decide +kernel
theorem dL_law_532 : decode cL_law 532 = .ok (.iconst 2, 1) := by decide +kernel
theorem dL_law_533 : decode cL_law 533 = .ok (.iadd, 1) := by decide +kernel
theorem dL_law_534 : decode cL_law 534 = .ok (.iaload, 1) := by decide +kernel
theorem dL_law_535 : decode cL_law 535 = .ok (.invokevirtual 68, 3) := by decide +kernel
theorem dL_law_538 : decode cL_law 538 = .ok (.if_icmp .eq 636, 3) := by decide +kernel
theorem dL_law_541 : decode cL_law 541 = .ok (.iconst 0, 1) := by decide +kernel
theorem dL_law_542 : decode cL_law 542 = .ok (.ireturn, 1) := by decide +kernel
theorem dL_law_543 : decode cL_law 543 = .ok (.aload_n 1, 1) := by decide +kernel
theorem dL_law_544 : decode cL_law 544 = .ok (.aload_n 0, 1) := by decide +kernel
theorem dL_law_545 : decode cL_law 545 = .ok (.iload 4, 2) := by decide +kernel
theorem dL_law_547 : decode cL_law 547 = .ok (.iconst 1, 1) := by decide +kernel
theorem dL_law_548 : decode cL_law 548 = .ok (.iadd, 1) := by decide +kernel
theorem dL_law_549 : decode cL_law 549 = .ok (.iaload, 1) := by decide +kernel
theorem dL_law_550 : decode cL_law 550 = .ok (.invokevirtual 69, 3) := by decide +kernel
theorem dL_law_553 : decode cL_law 553 = .ok (.aload_n 2, 1) := by decide +kernel
theorem dL_law_554 : decode cL_law 554 = .ok (.aload_n 0, 1) := by decide +kernel
theorem dL_law_555 : decode cL_law 555 = .ok (.iload 4, 2) := by decide +kernel
theorem dL_law_557 : decode cL_law 557 = .ok (.iconst 1, 1) := by decide +kernel
theorem dL_law_558 : decode cL_law 558 = .ok (.iadd, 1) := by decide +kernel
theorem dL_law_559 : decode cL_law 559 = .ok (.iaload, 1) := by decide +kernel
theorem dL_law_560 : decode cL_law 560 = .ok (.invokevirtual 72, 3) := by decide +kernel
theorem dL_law_563 : decode cL_law 563 = .ok (.if_icmp .eq 611, 3) := by decide +kernel
theorem dL_law_566 : decode cL_law 566 = .ok (.iconst 0, 1) := by decide +kernel
theorem dL_law_567 : decode cL_law 567 = .ok (.ireturn, 1) := by decide +kernel
theorem dL_law_568 : decode cL_law 568 = .ok (.aload_n 1, 1) := by decide +kernel
theorem dL_law_569 : decode cL_law 569 = .ok (.invokevirtual 73, 3) := by decide +kernel
theorem dL_law_572 : decode cL_law 572 = .ok (.aload_n 2, 1) := by decide +kernel
theorem dL_law_573 : decode cL_law 573 = .ok (.invokevirtual 76, 3) := by decide +kernel
theorem dL_law_576 : decode cL_law 576 = .ok (.if_icmp .eq 598, 3) := by decide +kernel
theorem dL_law_579 : decode cL_law 579 = .ok (.iconst 0, 1) := by decide +kernel
theorem dL_law_580 : decode cL_law 580 = .ok (.ireturn, 1) := by decide +kernel
theorem dL_law_581 : decode cL_law 581 = .ok (.aload_n 1, 1) := by decide +kernel
theorem dL_law_582 : decode cL_law 582 = .ok (.aload_n 0, 1) := by decide +kernel
theorem dL_law_583 : decode cL_law 583 = .ok (.iload 4, 2) := by decide +kernel
theorem dL_law_585 : decode cL_law 585 = .ok (.iconst 1, 1) := by decide +kernel
theorem dL_law_586 : decode cL_law 586 = .ok (.iadd, 1) := by decide +kernel
theorem dL_law_587 : decode cL_law 587 = .ok (.iaload, 1) := by decide +kernel
theorem dL_law_588 : decode cL_law 588 = .ok (.invokevirtual 77, 3) := by decide +kernel
theorem dL_law_591 : decode cL_law 591 = .ok (.aload_n 2, 1) := by decide +kernel
theorem dL_law_592 : decode cL_law 592 = .ok (.aload_n 0, 1) := by decide +kernel
theorem dL_law_593 : decode cL_law 593 = .ok (.iload 4, 2) := by decide +kernel
theorem dL_law_595 : decode cL_law 595 = .ok (.iconst 1, 1) := by decide +kernel
theorem dL_law_596 : decode cL_law 596 = .ok (.iadd, 1) := by decide +kernel
theorem dL_law_597 : decode cL_law 597 = .ok (.iaload, 1) := by decide +kernel
theorem dL_law_598 : decode cL_law 598 = .ok (.invokevirtual 80, 3) := by decide +kernel
theorem dL_law_601 : decode cL_law 601 = .ok (.if_icmp .eq 573, 3) := by decide +kernel
theorem dL_law_604 : decode cL_law 604 = .ok (.iconst 0, 1) := by decide +kernel
theorem dL_law_605 : decode cL_law 605 = .ok (.ireturn, 1) := by decide +kernel
theorem dL_law_606 : decode cL_law 606 = .ok (.aload_n 1, 1) := by decide +kernel
theorem dL_law_607 : decode cL_law 607 = .ok (.aload_n 0, 1) := by decide +kernel
theorem dL_law_608 : decode cL_law 608 = .ok (.iload 4, 2) := by decide +kernel
theorem dL_law_610 : decode cL_law 610 = .ok (.iconst 1, 1) := by decide +kernel
theorem dL_law_611 : decode cL_law 611 = .ok (.iadd, 1) := by decide +kernel
theorem dL_law_612 : decode cL_law 612 = .ok (.iaload, 1) := by decide +kernel
theorem dL_law_613 : decode cL_law 613 = .ok (.invokevirtual 81, 3) := by decide +kernel
theorem dL_law_616 : decode cL_law 616 = .ok (.aload_n 2, 1) := by decide +kernel
theorem dL_law_617 : decode cL_law 617 = .ok (.aload_n 0, 1) := by decide +kernel
theorem dL_law_618 : decode cL_law 618 = .ok (.iload 4, 2) := by decide +kernel
theorem dL_law_620 : decode cL_law 620 = .ok (.iconst 1, 1) := by decide +kernel
theorem dL_law_621 : decode cL_law 621 = .ok (.iadd, 1) := by decide +kernel
theorem dL_law_622 : decode cL_law 622 = .ok (.iaload, 1) := by decide +kernel
end
section
theorem dL_law_623 : decode cL_law 623 = .ok (.invokevirtual 84, 3) := by decide +kernel
theorem dL_law_626 : decode cL_law 626 = .ok (.if_icmp .eq 548, 3) := by decide +kernel
theorem dL_law_629 : decode cL_law 629 = .ok (.iconst 0, 1) := by decide +kernel
theorem dL_law_630 : decode cL_law 630 = .ok (.ireturn, 1) := by decide +kernel
theorem dL_law_631 : decode cL_law 631 = .ok (.aload_n 1, 1) := by decide +kernel
theorem dL_law_632 : decode cL_law 632 = .ok (.aload_n 0, 1) := by decide +kernel
theorem dL_law_633 : decode cL_law 633 = .ok (.iload 4, 2) := by decide +kernel
theorem dL_law_635 : decode cL_law 635 = .ok (.iconst 1, 1) := by decide +kernel
theorem dL_law_636 : decode cL_law 636 = .ok (.iadd, 1) := by decide +kernel
theorem dL_law_637 : decode cL_law 637 = .ok (.iaload, 1) := by decide +kernel
theorem dL_law_638 : decode cL_law 638 = .ok (.invokevirtual 85, 3) := by decide +kernel
theorem dL_law_641 : decode cL_law 641 = .ok (.aload_n 2, 1) := by decide +kernel
theorem dL_law_642 : decode cL_law 642 = .ok (.aload_n 0, 1) := by decide +kernel
theorem dL_law_643 : decode cL_law 643 = .ok (.iload 4, 2) := by decide +kernel
theorem dL_law_645 : decode cL_law 645 = .ok (.iconst 1, 1) := by decide +kernel
theorem dL_law_646 : decode cL_law 646 = .ok (.iadd, 1) := by decide +kernel
theorem dL_law_647 : decode cL_law 647 = .ok (.iaload, 1) := by decide +kernel
theorem dL_law_648 : decode cL_law 648 = .ok (.invokevirtual 88, 3) := by decide +kernel
theorem dL_law_651 : decode cL_law 651 = .ok (.if_icmp .eq 523, 3) := by decide +kernel
theorem dL_law_654 : decode cL_law 654 = .ok (.iconst 0, 1) := by decide +kernel
theorem dL_law_655 : decode cL_law 655 = .ok (.ireturn, 1) := by decide +kernel
theorem dL_law_656 : decode cL_law 656 = .ok (.aload_n 1, 1) := by decide +kernel
theorem dL_law_657 : decode cL_law 657 = .ok (.aload_n 0, 1) := by decide +kernel
theorem dL_law_658 : decode cL_law 658 = .ok (.iload 4, 2) := by decide +kernel
theorem dL_law_660 : decode cL_law 660 = .ok (.iconst 1, 1) := by decide +kernel
theorem dL_law_661 : decode cL_law 661 = .ok (.iadd, 1) := by decide +kernel
theorem dL_law_662 : decode cL_law 662 = .ok (.iaload, 1) := by decide +kernel
theorem dL_law_663 : decode cL_law 663 = .ok (.invokevirtual 89, 3) := by decide +kernel
theorem dL_law_666 : decode cL_law 666 = .ok (.aload_n 2, 1) := by decide +kernel
theorem dL_law_667 : decode cL_law 667 = .ok (.aload_n 0, 1) := by decide +kernel
theorem dL_law_668 : decode cL_law 668 = .ok (.iload 4, 2) := by decide +kernel
theorem dL_law_670 : decode cL_law 670 = .ok (.iconst 1, 1) := by decide +kernel
theorem dL_law_671 : decode cL_law 671 = .ok (.iadd, 1) := by decide +kernel
theorem dL_law_672 : decode cL_law 672 = .ok (.iaload, 1) := by decide +kernel
theorem dL_law_673 : decode cL_law 673 = .ok (.invokevirtual 92, 3) := by decide +kernel
theorem dL_law_676 : decode cL_law 676 = .ok (.if_icmp .eq 498, 3) := by decide +kernel
theorem dL_law_679 : decode cL_law 679 = .ok (.iconst 0, 1) := by decide +kernel
theorem dL_law_680 : decode cL_law 680 = .ok (.ireturn, 1) := by decide +kernel
theorem dL_law_681 : decode cL_law 681 = .ok (.aload_n 1, 1) := by decide +kernel
theorem dL_law_682 : decode cL_law 682 = .ok (.aload_n 0, 1) := by decide +kernel
theorem dL_law_683 : decode cL_law 683 = .ok (.iload 4, 2) := by decide +kernel
theorem dL_law_685 : decode cL_law 685 = .ok (.iconst 1, 1) := by decide +kernel
theorem dL_law_686 : decode cL_law 686 = .ok (.iadd, 1) := by decide +kernel
theorem dL_law_687 : decode cL_law 687 = .ok (.iaload, 1) := by decide +kernel
theorem dL_law_688 : decode cL_law 688 = .ok (.aload_n 0, 1) := by decide +kernel
theorem dL_law_689 : decode cL_law 689 = .ok (.iload 4, 2) := by decide +kernel
theorem dL_law_691 : decode cL_law 691 = .ok (.iconst 2, 1) := by decide +kernel
theorem dL_law_692 : decode cL_law 692 = .ok (.iadd, 1) := by decide +kernel
theorem dL_law_693 : decode cL_law 693 = .ok (.iaload, 1) := by decide +kernel
theorem dL_law_694 : decode cL_law 694 = .ok (.invokevirtual 93, 3) := by decide +kernel
theorem dL_law_697 : decode cL_law 697 = .ok (.aload_n 2, 1) := by decide +kernel
theorem dL_law_698 : decode cL_law 698 = .ok (.aload_n 0, 1) := by decide +kernel
theorem dL_law_699 : decode cL_law 699 = .ok (.iload 4, 2) := by decide +kernel
theorem dL_law_701 : decode cL_law 701 = .ok (.iconst 1, 1) := by decide +kernel
theorem dL_law_702 : decode cL_law 702 = .ok (.iadd, 1) := by decide +kernel
theorem dL_law_703 : decode cL_law 703 = .ok (.iaload, 1) := by decide +kernel
theorem dL_law_704 : decode cL_law 704 = .ok (.aload_n 0, 1) := by decide +kernel
theorem dL_law_705 : decode cL_law 705 = .ok (.iload 4, 2) := by decide +kernel
theorem dL_law_707 : decode cL_law 707 = .ok (.iconst 2, 1) := by decide +kernel
theorem dL_law_708 : decode cL_law 708 = .ok (.iadd, 1) := by decide +kernel
theorem dL_law_709 : decode cL_law 709 = .ok (.iaload, 1) := by decide +kernel
theorem dL_law_710 : decode cL_law 710 = .ok (.invokevirtual 96, 3) := by decide +kernel
theorem dL_law_713 : decode cL_law 713 = .ok (.if_icmp .eq 461, 3) := by decide +kernel
theorem dL_law_716 : decode cL_law 716 = .ok (.iconst 0, 1) := by decide +kernel
theorem dL_law_717 : decode cL_law 717 = .ok (.ireturn, 1) := by decide +kernel
theorem dL_law_718 : decode cL_law 718 = .ok (.aload_n 1, 1) := by decide +kernel
theorem dL_law_719 : decode cL_law 719 = .ok (.aload_n 0, 1) := by decide +kernel
theorem dL_law_720 : decode cL_law 720 = .ok (.iload 4, 2) := by decide +kernel
theorem dL_law_722 : decode cL_law 722 = .ok (.iconst 1, 1) := by decide +kernel
theorem dL_law_723 : decode cL_law 723 = .ok (.iadd, 1) := by decide +kernel
theorem dL_law_724 : decode cL_law 724 = .ok (.iaload, 1) := by decide +kernel
theorem dL_law_725 : decode cL_law 725 = .ok (.invokevirtual 97, 3) := by decide +kernel
theorem dL_law_728 : decode cL_law 728 = .ok (.aload_n 2, 1) := by decide +kernel
theorem dL_law_729 : decode cL_law 729 = .ok (.aload_n 0, 1) := by decide +kernel
theorem dL_law_730 : decode cL_law 730 = .ok (.iload 4, 2) := by decide +kernel
theorem dL_law_732 : decode cL_law 732 = .ok (.iconst 1, 1) := by decide +kernel
theorem dL_law_733 : decode cL_law 733 = .ok (.iadd, 1) := by decide +kernel
theorem dL_law_734 : decode cL_law 734 = .ok (.iaload, 1) := by decide +kernel
theorem dL_law_735 : decode cL_law 735 = .ok (.invokevirtual 100, 3) := by decide +kernel
theorem dL_law_738 : decode cL_law 738 = .ok (.if_icmp .eq 436, 3) := by decide +kernel
theorem dL_law_741 : decode cL_law 741 = .ok (.iconst 0, 1) := by decide +kernel
theorem dL_law_742 : decode cL_law 742 = .ok (.ireturn, 1) := by decide +kernel
theorem dL_law_743 : decode cL_law 743 = .ok (.aload_n 1, 1) := by decide +kernel
theorem dL_law_744 : decode cL_law 744 = .ok (.aload_n 0, 1) := by decide +kernel
theorem dL_law_745 : decode cL_law 745 = .ok (.iload 4, 2) := by decide +kernel
theorem dL_law_747 : decode cL_law 747 = .ok (.iconst 1, 1) := by decide +kernel
theorem dL_law_748 : decode cL_law 748 = .ok (.iadd, 1) := by decide +kernel
theorem dL_law_749 : decode cL_law 749 = .ok (.iaload, 1) := by decide +kernel
theorem dL_law_750 : decode cL_law 750 = .ok (.invokevirtual 101, 3) := by decide +kernel
theorem dL_law_753 : decode cL_law 753 = .ok (.aload_n 2, 1) := by decide +kernel
theorem dL_law_754 : decode cL_law 754 = .ok (.aload_n 0, 1) := by decide +kernel
theorem dL_law_755 : decode cL_law 755 = .ok (.iload 4, 2) := by decide +kernel
theorem dL_law_757 : decode cL_law 757 = .ok (.iconst 1, 1) := by decide +kernel
theorem dL_law_758 : decode cL_law 758 = .ok (.iadd, 1) := by decide +kernel
theorem dL_law_759 : decode cL_law 759 = .ok (.iaload, 1) := by decide +kernel
theorem dL_law_760 : decode cL_law 760 = .ok (.invokevirtual 104, 3) := by decide +kernel
theorem dL_law_763 : decode cL_law 763 = .ok (.if_icmp .eq 411, 3) := by decide +kernel
theorem dL_law_766 : decode cL_law 766 = .ok (.iconst 0, 1) := by decide +kernel
theorem dL_law_767 : decode cL_law 767 = .ok (.ireturn, 1) := by decide +kernel
theorem dL_law_768 : decode cL_law 768 = .ok (.aload_n 1, 1) := by decide +kernel
theorem dL_law_769 : decode cL_law 769 = .ok (.aload_n 0, 1) := by decide +kernel
theorem dL_law_770 : decode cL_law 770 = .ok (.iload 4, 2) := by decide +kernel
theorem dL_law_772 : decode cL_law 772 = .ok (.iconst 1, 1) := by decide +kernel
theorem dL_law_773 : decode cL_law 773 = .ok (.iadd, 1) := by decide +kernel
theorem dL_law_774 : decode cL_law 774 = .ok (.iaload, 1) := by decide +kernel
theorem dL_law_775 : decode cL_law 775 = .ok (.invokevirtual 105, 3) := by decide +kernel
theorem dL_law_778 : decode cL_law 778 = .ok (.aload_n 2, 1) := by decide +kernel
theorem dL_law_779 : decode cL_law 779 = .ok (.aload_n 0, 1) := by decide +kernel
theorem dL_law_780 : decode cL_law 780 = .ok (.iload 4, 2) := by decide +kernel
theorem dL_law_782 : decode cL_law 782 = .ok (.iconst 1, 1) := by decide +kernel
theorem dL_law_783 : decode cL_law 783 = .ok (.iadd, 1) := by decide +kernel
theorem dL_law_784 : decode cL_law 784 = .ok (.iaload, 1) := by decide +kernel
theorem dL_law_785 : decode cL_law 785 = .ok (.invokevirtual 108, 3) := by decide +kernel
theorem dL_law_788 : decode cL_law 788 = .ok (.if_icmp .eq 386, 3) := by decide +kernel
theorem dL_law_791 : decode cL_law 791 = .ok (.iconst 0, 1) := by decide +kernel
theorem dL_law_792 : decode cL_law 792 = .ok (.ireturn, 1) := by decide +kernel
theorem dL_law_793 : decode cL_law 793 = .ok (.aload_n 1, 1) := by decide +kernel
theorem dL_law_794 : decode cL_law 794 = .ok (.aload_n 0, 1) := by decide +kernel
theorem dL_law_795 : decode cL_law 795 = .ok (.iload 4, 2) := by decide +kernel
theorem dL_law_797 : decode cL_law 797 = .ok (.iconst 1, 1) := by decide +kernel
theorem dL_law_798 : decode cL_law 798 = .ok (.iadd, 1) := by decide +kernel
theorem dL_law_799 : decode cL_law 799 = .ok (.iaload, 1) := by decide +kernel
theorem dL_law_800 : decode cL_law 800 = .ok (.invokevirtual 109, 3) := by decide +kernel
theorem dL_law_803 : decode cL_law 803 = .ok (.aload_n 2, 1) := by decide +kernel
theorem dL_law_804 : decode cL_law 804 = .ok (.aload_n 0, 1) := by decide +kernel
theorem dL_law_805 : decode cL_law 805 = .ok (.iload 4, 2) := by decide +kernel
theorem dL_law_807 : decode cL_law 807 = .ok (.iconst 1, 1) := by decide +kernel
theorem dL_law_808 : decode cL_law 808 = .ok (.iadd, 1) := by decide +kernel
theorem dL_law_809 : decode cL_law 809 = .ok (.iaload, 1) := by decide +kernel
theorem dL_law_810 : decode cL_law 810 = .ok (.invokevirtual 112, 3) := by decide +kernel
theorem dL_law_813 : decode cL_law 813 = .ok (.if_icmp .eq 361, 3) := by decide +kernel
theorem dL_law_816 : decode cL_law 816 = .ok (.iconst 0, 1) := by decide +kernel
theorem dL_law_817 : decode cL_law 817 = .ok (.ireturn, 1) := by decide +kernel
theorem dL_law_818 : decode cL_law 818 = .ok (.aload_n 1, 1) := by decide +kernel
theorem dL_law_819 : decode cL_law 819 = .ok (.aload_n 0, 1) := by decide +kernel
theorem dL_law_820 : decode cL_law 820 = .ok (.iload 4, 2) := by decide +kernel
theorem dL_law_822 : decode cL_law 822 = .ok (.iconst 1, 1) := by decide +kernel
theorem dL_law_823 : decode cL_law 823 = .ok (.iadd, 1) := by decide +kernel
theorem dL_law_824 : decode cL_law 824 = .ok (.iaload, 1) := by decide +kernel
theorem dL_law_825 : decode cL_law 825 = .ok (.aload_n 0, 1) := by decide +kernel
theorem dL_law_826 : decode cL_law 826 = .ok (.iload 4, 2) := by decide +kernel
theorem dL_law_828 : decode cL_law 828 = .ok (.iconst 2, 1) := by decide +kernel
theorem dL_law_829 : decode cL_law 829 = .ok (.iadd, 1) := by decide +kernel
theorem dL_law_830 : decode cL_law 830 = .ok (.iaload, 1) := by decide +kernel
theorem dL_law_831 : decode cL_law 831 = .ok (.invokevirtual 113, 3) := by decide +kernel
theorem dL_law_834 : decode cL_law 834 = .ok (.aload_n 2, 1) := by decide +kernel
theorem dL_law_835 : decode cL_law 835 = .ok (.aload_n 0, 1) := by decide +kernel
theorem dL_law_836 : decode cL_law 836 = .ok (.iload 4, 2) := by decide +kernel
theorem dL_law_838 : decode cL_law 838 = .ok (.iconst 1, 1) := by decide +kernel
theorem dL_law_839 : decode cL_law 839 = .ok (.iadd, 1) := by decide +kernel
theorem dL_law_840 : decode cL_law 840 = .ok (.iaload, 1) := by decide +kernel
theorem dL_law_841 : decode cL_law 841 = .ok (.aload_n 0, 1) := by decide +kernel
theorem dL_law_842 : decode cL_law 842 = .ok (.iload 4, 2) := by decide +kernel
theorem dL_law_844 : decode cL_law 844 = .ok (.iconst 2, 1) := by decide +kernel
theorem dL_law_845 : decode cL_law 845 = .ok (.iadd, 1) := by decide +kernel
theorem dL_law_846 : decode cL_law 846 = .ok (.iaload, 1) := by decide +kernel
theorem dL_law_847 : decode cL_law 847 = .ok (.invokevirtual 116, 3) := by decide +kernel
theorem dL_law_850 : decode cL_law 850 = .ok (.if_icmp .eq 324, 3) := by decide +kernel
theorem dL_law_853 : decode cL_law 853 = .ok (.iconst 0, 1) := by decide +kernel
theorem dL_law_854 : decode cL_law 854 = .ok (.ireturn, 1) := by decide +kernel
theorem dL_law_855 : decode cL_law 855 = .ok (.aload_n 1, 1) := by decide +kernel
theorem dL_law_856 : decode cL_law 856 = .ok (.aload_n 0, 1) := by decide +kernel
theorem dL_law_857 : decode cL_law 857 = .ok (.iload 4, 2) := by decide +kernel
theorem dL_law_859 : decode cL_law 859 = .ok (.iconst 1, 1) := by decide +kernel
theorem dL_law_860 : decode cL_law 860 = .ok (.iadd, 1) := by decide +kernel
theorem dL_law_861 : decode cL_law 861 = .ok (.iaload, 1) := by decide +kernel
theorem dL_law_862 : decode cL_law 862 = .ok (.invokevirtual 117, 3) := by decide +kernel
theorem dL_law_865 : decode cL_law 865 = .ok (.aload_n 2, 1) := by decide +kernel
theorem dL_law_866 : decode cL_law 866 = .ok (.aload_n 0, 1) := by decide +kernel
theorem dL_law_867 : decode cL_law 867 = .ok (.iload 4, 2) := by decide +kernel
theorem dL_law_869 : decode cL_law 869 = .ok (.iconst 1, 1) := by decide +kernel
theorem dL_law_870 : decode cL_law 870 = .ok (.iadd, 1) := by decide +kernel
theorem dL_law_871 : decode cL_law 871 = .ok (.iaload, 1) := by decide +kernel
theorem dL_law_872 : decode cL_law 872 = .ok (.invokevirtual 120, 3) := by decide +kernel
theorem dL_law_875 : decode cL_law 875 = .ok (.if_icmp .eq 299, 3) := by decide +kernel
theorem dL_law_878 : decode cL_law 878 = .ok (.iconst 0, 1) := by decide +kernel
theorem dL_law_879 : decode cL_law 879 = .ok (.ireturn, 1) := by decide +kernel
theorem dL_law_880 : decode cL_law 880 = .ok (.aload_n 1, 1) := by decide +kernel
theorem dL_law_881 : decode cL_law 881 = .ok (.invokevirtual 121, 3) := by decide +kernel
theorem dL_law_884 : decode cL_law 884 = .ok (.aload_n 2, 1) := by decide +kernel
theorem dL_law_885 : decode cL_law 885 = .ok (.invokevirtual 124, 3) := by decide +kernel
theorem dL_law_888 : decode cL_law 888 = .ok (.if_icmp .eq 286, 3) := by decide +kernel
theorem dL_law_891 : decode cL_law 891 = .ok (.iconst 0, 1) := by decide +kernel
theorem dL_law_892 : decode cL_law 892 = .ok (.ireturn, 1) := by decide +kernel
theorem dL_law_893 : decode cL_law 893 = .ok (.aload_n 1, 1) := by decide +kernel
theorem dL_law_894 : decode cL_law 894 = .ok (.invokevirtual 125, 3) := by decide +kernel
theorem dL_law_897 : decode cL_law 897 = .ok (.aload_n 2, 1) := by decide +kernel
theorem dL_law_898 : decode cL_law 898 = .ok (.invokevirtual 128, 3) := by decide +kernel
theorem dL_law_901 : decode cL_law 901 = .ok (.if_icmp .eq 273, 3) := by decide +kernel
theorem dL_law_904 : decode cL_law 904 = .ok (.iconst 0, 1) := by decide +kernel
theorem dL_law_905 : decode cL_law 905 = .ok (.ireturn, 1) := by decide +kernel
theorem dL_law_906 : decode cL_law 906 = .ok (.aload_n 1, 1) := by decide +kernel
theorem dL_law_907 : decode cL_law 907 = .ok (.aload_n 0, 1) := by decide +kernel
theorem dL_law_908 : decode cL_law 908 = .ok (.iload 4, 2) := by decide +kernel
theorem dL_law_910 : decode cL_law 910 = .ok (.iconst 1, 1) := by decide +kernel
theorem dL_law_911 : decode cL_law 911 = .ok (.iadd, 1) := by decide +kernel
theorem dL_law_912 : decode cL_law 912 = .ok (.iaload, 1) := by decide +kernel
theorem dL_law_913 : decode cL_law 913 = .ok (.invokevirtual 129, 3) := by decide +kernel
theorem dL_law_916 : decode cL_law 916 = .ok (.aload_n 2, 1) := by decide +kernel
theorem dL_law_917 : decode cL_law 917 = .ok (.aload_n 0, 1) := by decide +kernel
theorem dL_law_918 : decode cL_law 918 = .ok (.iload 4, 2) := by decide +kernel
theorem dL_law_920 : decode cL_law 920 = .ok (.iconst 1, 1) := by decide +kernel
theorem dL_law_921 : decode cL_law 921 = .ok (.iadd, 1) := by decide +kernel
theorem dL_law_922 : decode cL_law 922 = .ok (.iaload, 1) := by decide +kernel
theorem dL_law_923 : decode cL_law 923 = .ok (.invokevirtual 132, 3) := by decide +kernel
theorem dL_law_926 : decode cL_law 926 = .ok (.if_icmp .eq 248, 3) := by decide +kernel
theorem dL_law_929 : decode cL_law 929 = .ok (.iconst 0, 1) := by decide +kernel
theorem dL_law_930 : decode cL_law 930 = .ok (.ireturn, 1) := by decide +kernel
theorem dL_law_931 : decode cL_law 931 = .ok (.aload_n 1, 1) := by decide +kernel
theorem dL_law_932 : decode cL_law 932 = .ok (.invokevirtual 133, 3) := by decide +kernel
theorem dL_law_935 : decode cL_law 935 = .ok (.aload_n 2, 1) := by decide +kernel
theorem dL_law_936 : decode cL_law 936 = .ok (.invokevirtual 136, 3) := by decide +kernel
theorem dL_law_939 : decode cL_law 939 = .ok (.if_icmp .eq 235, 3) := by decide +kernel
theorem dL_law_942 : decode cL_law 942 = .ok (.iconst 0, 1) := by decide +kernel
theorem dL_law_943 : decode cL_law 943 = .ok (.ireturn, 1) := by decide +kernel
theorem dL_law_944 : decode cL_law 944 = .ok (.aload_n 1, 1) := by decide +kernel
theorem dL_law_945 : decode cL_law 945 = .ok (.aload_n 0, 1) := by decide +kernel
theorem dL_law_946 : decode cL_law 946 = .ok (.iload 4, 2) := by decide +kernel
theorem dL_law_948 : decode cL_law 948 = .ok (.iconst 1, 1) := by decide +kernel
theorem dL_law_949 : decode cL_law 949 = .ok (.iadd, 1) := by decide +kernel
theorem dL_law_950 : decode cL_law 950 = .ok (.iaload, 1) := by decide +kernel
theorem dL_law_951 : decode cL_law 951 = .ok (.invokevirtual 137, 3) := by decide +kernel
theorem dL_law_954 : decode cL_law 954 = .ok (.aload_n 2, 1) := by decide +kernel
theorem dL_law_955 : decode cL_law 955 = .ok (.aload_n 0, 1) := by decide +kernel
theorem dL_law_956 : decode cL_law 956 = .ok (.iload 4, 2) := by decide +kernel
theorem dL_law_958 : decode cL_law 958 = .ok (.iconst 1, 1) := by decide +kernel
theorem dL_law_959 : decode cL_law 959 = .ok (.iadd, 1) := by decide +kernel
theorem dL_law_960 : decode cL_law 960 = .ok (.iaload, 1) := by decide +kernel
theorem dL_law_961 : decode cL_law 961 = .ok (.invokevirtual 140, 3) := by decide +kernel
theorem dL_law_964 : decode cL_law 964 = .ok (.if_icmp .eq 210, 3) := by decide +kernel
theorem dL_law_967 : decode cL_law 967 = .ok (.iconst 0, 1) := by decide +kernel
theorem dL_law_968 : decode cL_law 968 = .ok (.ireturn, 1) := by decide +kernel
theorem dL_law_969 : decode cL_law 969 = .ok (.aload_n 1, 1) := by decide +kernel
theorem dL_law_970 : decode cL_law 970 = .ok (.invokevirtual 141, 3) := by decide +kernel
theorem dL_law_973 : decode cL_law 973 = .ok (.aload_n 2, 1) := by decide +kernel
theorem dL_law_974 : decode cL_law 974 = .ok (.invokevirtual 144, 3) := by decide +kernel
theorem dL_law_977 : decode cL_law 977 = .ok (.if_icmp .eq 197, 3) := by decide +kernel
theorem dL_law_980 : decode cL_law 980 = .ok (.iconst 0, 1) := by decide +kernel
theorem dL_law_981 : decode cL_law 981 = .ok (.ireturn, 1) := by decide +kernel
theorem dL_law_982 : decode cL_law 982 = .ok (.aload_n 1, 1) := by decide +kernel
theorem dL_law_983 : decode cL_law 983 = .ok (.aload_n 0, 1) := by decide +kernel
theorem dL_law_984 : decode cL_law 984 = .ok (.iload 4, 2) := by decide +kernel
theorem dL_law_986 : decode cL_law 986 = .ok (.iconst 1, 1) := by decide +kernel
theorem dL_law_987 : decode cL_law 987 = .ok (.iadd, 1) := by decide +kernel
theorem dL_law_988 : decode cL_law 988 = .ok (.iaload, 1) := by decide +kernel
theorem dL_law_989 : decode cL_law 989 = .ok (.invokevirtual 145, 3) := by decide +kernel
theorem dL_law_992 : decode cL_law 992 = .ok (.aload_n 2, 1) := by decide +kernel
theorem dL_law_993 : decode cL_law 993 = .ok (.aload_n 0, 1) := by decide +kernel
theorem dL_law_994 : decode cL_law 994 = .ok (.iload 4, 2) := by decide +kernel
theorem dL_law_996 : decode cL_law 996 = .ok (.iconst 1, 1) := by decide +kernel
theorem dL_law_997 : decode cL_law 997 = .ok (.iadd, 1) := by decide +kernel
theorem dL_law_998 : decode cL_law 998 = .ok (.iaload, 1) := by decide +kernel
theorem dL_law_999 : decode cL_law 999 = .ok (.invokevirtual 148, 3) := by decide +kernel
theorem dL_law_1002 : decode cL_law 1002 = .ok (.if_icmp .eq 172, 3) := by decide +kernel
theorem dL_law_1005 : decode cL_law 1005 = .ok (.iconst 0, 1) := by decide +kernel
theorem dL_law_1006 : decode cL_law 1006 = .ok (.ireturn, 1) := by decide +kernel
theorem dL_law_1007 : decode cL_law 1007 = .ok (.aload_n 1, 1) := by decide +kernel
theorem dL_law_1008 : decode cL_law 1008 = .ok (.aload_n 0, 1) := by decide +kernel
theorem dL_law_1009 : decode cL_law 1009 = .ok (.iload 4, 2) := by decide +kernel
theorem dL_law_1011 : decode cL_law 1011 = .ok (.iconst 1, 1) := by decide +kernel
theorem dL_law_1012 : decode cL_law 1012 = .ok (.iadd, 1) := by decide +kernel
theorem dL_law_1013 : decode cL_law 1013 = .ok (.iaload, 1) := by decide +kernel
theorem dL_law_1014 : decode cL_law 1014 = .ok (.aload_n 0, 1) := by decide +kernel
theorem dL_law_1015 : decode cL_law 1015 = .ok (.iload 4, 2) := by decide +kernel
theorem dL_law_1017 : decode cL_law 1017 = .ok (.iconst 2, 1) := by decide +kernel
theorem dL_law_1018 : decode cL_law 1018 = .ok (.iadd, 1) := by decide +kernel
theorem dL_law_1019 : decode cL_law 1019 = .ok (.iaload, 1) := by decide +kernel
theorem dL_law_1020 : decode cL_law 1020 = .ok (.invokevirtual 149, 3) := by decide +kernel
theorem dL_law_1023 : decode cL_law 1023 = .ok (.aload_n 2, 1) := by decide +kernel
theorem dL_law_1024 : decode cL_law 1024 = .ok (.aload_n 0, 1) := by decide +kernel
theorem dL_law_1025 : decode cL_law 1025 = .ok (.iload 4, 2) := by decide +kernel
theorem dL_law_1027 : decode cL_law 1027 = .ok (.iconst 1, 1) := by decide +kernel
theorem dL_law_1028 : decode cL_law 1028 = .ok (.iadd, 1) := by decide +kernel
theorem dL_law_1029 : decode cL_law 1029 = .ok (.iaload, 1) := by decide +kernel
theorem dL_law_1030 : decode cL_law 1030 = .ok (.aload_n 0, 1) := by decide +kernel
theorem dL_law_1031 : decode cL_law 1031 = .ok (.iload 4, 2) := by decide +kernel
theorem dL_law_1033 : decode cL_law 1033 = .ok (.iconst 2, 1) := by decide +kernel
theorem dL_law_1034 : decode cL_law 1034 = .ok (.iadd, 1) := by decide +kernel
theorem dL_law_1035 : decode cL_law 1035 = .ok (.iaload, 1) := by decide +kernel
theorem dL_law_1036 : decode cL_law 1036 = .ok (.invokevirtual 152, 3) := by decide +kernel
theorem dL_law_1039 : decode cL_law 1039 = .ok (.if_icmp .eq 135, 3) := by decide +kernel
theorem dL_law_1042 : decode cL_law 1042 = .ok (.iconst 0, 1) := by decide +kernel
theorem dL_law_1043 : decode cL_law 1043 = .ok (.ireturn, 1) := by decide +kernel
theorem dL_law_1044 : decode cL_law 1044 = .ok (.aload_n 1, 1) := by decide +kernel
theorem dL_law_1045 : decode cL_law 1045 = .ok (.aload_n 0, 1) := by decide +kernel
theorem dL_law_1046 : decode cL_law 1046 = .ok (.iload 4, 2) := by decide +kernel
theorem dL_law_1048 : decode cL_law 1048 = .ok (.iconst 1, 1) := by decide +kernel
theorem dL_law_1049 : decode cL_law 1049 = .ok (.iadd, 1) := by decide +kernel
theorem dL_law_1050 : decode cL_law 1050 = .ok (.iaload, 1) := by decide +kernel
theorem dL_law_1051 : decode cL_law 1051 = .ok (.aload_n 0, 1) := by decide +kernel
theorem dL_law_1052 : decode cL_law 1052 = .ok (.iload 4, 2) := by decide +kernel
theorem dL_law_1054 : decode cL_law 1054 = .ok (.iconst 2, 1) := by decide +kernel
theorem dL_law_1055 : decode cL_law 1055 = .ok (.iadd, 1) := by decide +kernel
theorem dL_law_1056 : decode cL_law 1056 = .ok (.iaload, 1) := by decide +kernel
theorem dL_law_1057 : decode cL_law 1057 = .ok (.aload_n 3, 1) := by decide +kernel
theorem dL_law_1058 : decode cL_law 1058 = .ok (.invokestatic 153, 3) := by decide +kernel
theorem dL_law_1061 : decode cL_law 1061 = .ok (.istore 5, 2) := by decide +kernel
theorem dL_law_1063 : decode cL_law 1063 = .ok (.aload_n 2, 1) := by decide +kernel
theorem dL_law_1064 : decode cL_law 1064 = .ok (.aload_n 0, 1) := by decide +kernel
theorem dL_law_1065 : decode cL_law 1065 = .ok (.iload 4, 2) := by decide +kernel
theorem dL_law_1067 : decode cL_law 1067 = .ok (.iconst 1, 1) := by decide +kernel
theorem dL_law_1068 : decode cL_law 1068 = .ok (.iadd, 1) := by decide +kernel
theorem dL_law_1069 : decode cL_law 1069 = .ok (.iaload, 1) := by decide +kernel
theorem dL_law_1070 : decode cL_law 1070 = .ok (.aload_n 0, 1) := by decide +kernel
theorem dL_law_1071 : decode cL_law 1071 = .ok (.iload 4, 2) := by decide +kernel
theorem dL_law_1073 : decode cL_law 1073 = .ok (.iconst 2, 1) := by decide +kernel
theorem dL_law_1074 : decode cL_law 1074 = .ok (.iadd, 1) := by decide +kernel
theorem dL_law_1075 : decode cL_law 1075 = .ok (.iaload, 1) := by decide +kernel
theorem dL_law_1076 : decode cL_law 1076 = .ok (.invokevirtual 158, 3) := by decide +kernel
theorem dL_law_1079 : decode cL_law 1079 = .ok (.istore 6, 2) := by decide +kernel
theorem dL_law_1081 : decode cL_law 1081 = .ok (.aload_n 2, 1) := by decide +kernel
theorem dL_law_1082 : decode cL_law 1082 = .ok (.invokevirtual 159, 3) := by decide +kernel
theorem dL_law_1085 : decode cL_law 1085 = .ok (.iload 5, 2) := by decide +kernel
theorem dL_law_1087 : decode cL_law 1087 = .ok (.if_icmp .eq 5, 3) := by decide +kernel
theorem dL_law_1090 : decode cL_law 1090 = .ok (.iconst 0, 1) := by decide +kernel
theorem dL_law_1091 : decode cL_law 1091 = .ok (.ireturn, 1) := by decide +kernel
theorem dL_law_1092 : decode cL_law 1092 = .ok (.iload 5, 2) := by decide +kernel
theorem dL_law_1094 : decode cL_law 1094 = .ok (.ifCond .ne 15, 3) := by decide +kernel
theorem dL_law_1097 : decode cL_law 1097 = .ok (.aload_n 3, 1) := by decide +kernel
theorem dL_law_1098 : decode cL_law 1098 = .ok (.iconst 0, 1) := by decide +kernel
theorem dL_law_1099 : decode cL_law 1099 = .ok (.laload, 1) := by decide +kernel
theorem dL_law_1100 : decode cL_law 1100 = .ok (.iload 6, 2) := by decide +kernel
theorem dL_law_1102 : decode cL_law 1102 = .ok (.i2l, 1) := by decide +kernel
theorem dL_law_1103 : decode cL_law 1103 = .ok (.lcmp, 1) := by decide +kernel
theorem dL_law_1104 : decode cL_law 1104 = .ok (.ifCond .eq 5, 3) := by decide +kernel
theorem dL_law_1107 : decode cL_law 1107 = .ok (.iconst 0, 1) := by decide +kernel
theorem dL_law_1108 : decode cL_law 1108 = .ok (.ireturn, 1) := by decide +kernel
theorem dL_law_1109 : decode cL_law 1109 = .ok (.goto 65, 3) := by decide +kernel
theorem dL_law_1112 : decode cL_law 1112 = .ok (.aload_n 1, 1) := by decide +kernel
theorem dL_law_1113 : decode cL_law 1113 = .ok (.aload_n 0, 1) := by decide +kernel
theorem dL_law_1114 : decode cL_law 1114 = .ok (.iload 4, 2) := by decide +kernel
theorem dL_law_1116 : decode cL_law 1116 = .ok (.iconst 1, 1) := by decide +kernel
theorem dL_law_1117 : decode cL_law 1117 = .ok (.iadd, 1) := by decide +kernel
theorem dL_law_1118 : decode cL_law 1118 = .ok (.iaload, 1) := by decide +kernel
theorem dL_law_1119 : decode cL_law 1119 = .ok (.aload_n 0, 1) := by decide +kernel
theorem dL_law_1120 : decode cL_law 1120 = .ok (.iload 4, 2) := by decide +kernel
theorem dL_law_1122 : decode cL_law 1122 = .ok (.iconst 2, 1) := by decide +kernel
theorem dL_law_1123 : decode cL_law 1123 = .ok (.iadd, 1) := by decide +kernel
theorem dL_law_1124 : decode cL_law 1124 = .ok (.iaload, 1) := by decide +kernel
theorem dL_law_1125 : decode cL_law 1125 = .ok (.invokevirtual 162, 3) := by decide +kernel
theorem dL_law_1128 : decode cL_law 1128 = .ok (.aload_n 2, 1) := by decide +kernel
theorem dL_law_1129 : decode cL_law 1129 = .ok (.aload_n 0, 1) := by decide +kernel
theorem dL_law_1130 : decode cL_law 1130 = .ok (.iload 4, 2) := by decide +kernel
theorem dL_law_1132 : decode cL_law 1132 = .ok (.iconst 1, 1) := by decide +kernel
theorem dL_law_1133 : decode cL_law 1133 = .ok (.iadd, 1) := by decide +kernel
theorem dL_law_1134 : decode cL_law 1134 = .ok (.iaload, 1) := by decide +kernel
theorem dL_law_1135 : decode cL_law 1135 = .ok (.aload_n 0, 1) := by decide +kernel
theorem dL_law_1136 : decode cL_law 1136 = .ok (.iload 4, 2) := by decide +kernel
theorem dL_law_1138 : decode cL_law 1138 = .ok (.iconst 2, 1) := by decide +kernel
theorem dL_law_1139 : decode cL_law 1139 = .ok (.iadd, 1) := by decide +kernel
theorem dL_law_1140 : decode cL_law 1140 = .ok (.iaload, 1) := by decide +kernel
theorem dL_law_1141 : decode cL_law 1141 = .ok (.invokevirtual 165, 3) := by decide +kernel
theorem dL_law_1144 : decode cL_law 1144 = .ok (.if_icmp .eq 30, 3) := by decide +kernel
theorem dL_law_1147 : decode cL_law 1147 = .ok (.iconst 0, 1) := by decide +kernel
theorem dL_law_1148 : decode cL_law 1148 = .ok (.ireturn, 1) := by decide +kernel
theorem dL_law_1149 : decode cL_law 1149 = .ok (.aload_n 1, 1) := by decide +kernel
theorem dL_law_1150 : decode cL_law 1150 = .ok (.aload_n 0, 1) := by decide +kernel
theorem dL_law_1151 : decode cL_law 1151 = .ok (.iload 4, 2) := by decide +kernel
theorem dL_law_1153 : decode cL_law 1153 = .ok (.iconst 1, 1) := by decide +kernel
theorem dL_law_1154 : decode cL_law 1154 = .ok (.iadd, 1) := by decide +kernel
theorem dL_law_1155 : decode cL_law 1155 = .ok (.iaload, 1) := by decide +kernel
theorem dL_law_1156 : decode cL_law 1156 = .ok (.invokevirtual 166, 3) := by decide +kernel
theorem dL_law_1159 : decode cL_law 1159 = .ok (.aload_n 2, 1) := by decide +kernel
theorem dL_law_1160 : decode cL_law 1160 = .ok (.aload_n 0, 1) := by decide +kernel
theorem dL_law_1161 : decode cL_law 1161 = .ok (.iload 4, 2) := by decide +kernel
theorem dL_law_1163 : decode cL_law 1163 = .ok (.iconst 1, 1) := by decide +kernel
theorem dL_law_1164 : decode cL_law 1164 = .ok (.iadd, 1) := by decide +kernel
theorem dL_law_1165 : decode cL_law 1165 = .ok (.iaload, 1) := by decide +kernel
theorem dL_law_1166 : decode cL_law 1166 = .ok (.invokevirtual 169, 3) := by decide +kernel
theorem dL_law_1169 : decode cL_law 1169 = .ok (.if_icmp .eq 5, 3) := by decide +kernel
theorem dL_law_1172 : decode cL_law 1172 = .ok (.iconst 0, 1) := by decide +kernel
theorem dL_law_1173 : decode cL_law 1173 = .ok (.ireturn, 1) := by decide +kernel
theorem dL_law_1174 : decode cL_law 1174 = .ok (.iinc 4 6, 3) := by decide +kernel
theorem dL_law_1177 : decode cL_law 1177 = .ok (.goto (-1154), 3) := by decide +kernel
theorem dL_law_1180 : decode cL_law 1180 = .ok (.iconst 1, 1) := by decide +kernel
theorem dL_law_1181 : decode cL_law 1181 = .ok (.ireturn, 1) := by decide +kernel
end
section
/-! THE PURE WALK: a memory of Ints by cell and slot, a fixed layout of cells, and the machine's rows over them -/
abbrev Mem : Type := Nat → Int → Int
abbrev PD : Type := Nat × Nat × List Nat
abbrev CX : Type := Program × Launch × Env × Room × State × MethodId × Array Value × List Frame × Method × Code × (Nat → Prop)
abbrev KX : Type := va_G × (ClassId × ClassId × ClassId × ClassId) × (Nat → Nat)
def iV (z : Int) : Value := .int (Int32.ofInt z)
def rV (K : KX) (k : Nat) : Value := .ref (K.2.2 k)
def fV (K : KX) (m : Int → Int) (j : Nat) (c : Nat) : Value := match c with
  | 0 => iV (m (j : Int))
  | 1 => .null
  | t + 2 => rV K t
def cE (K : KX) (d : PD) (m : Int → Int) : va_E := match d.1 with
  | 0 => .inr (d.2.1, d.2.2.mapIdx (fun j c => fV K m j c))
  | 1 => .inl (K.2.1.1, d.2.1, .inl (fun j => Int32.ofInt (m (j : Int))))
  | 2 => .inl (K.2.1.2.1, d.2.1, .inl (fun j => Int32.ofInt (m (j : Int))))
  | 3 => .inl (K.2.1.2.2.1, d.2.1, .inl (fun j => Int32.ofInt (m (j : Int))))
  | _ => .inl (K.2.1.2.2.2, d.2.1, .inr (.inl (fun j => Int64.ofInt (m (j : Int)))))
def wld (K : KX) (lay : List PD) (M : Mem) : va_W := lay.mapIdx (fun k d => (K.2.2 k, cE K d (M k)))
def tysK (K : KX) : List (ClassId × FieldType) := [(K.2.1.1, .int), (K.2.1.2.1, .byte), (K.2.1.2.2.1, .boolean), (K.2.1.2.2.2, .long)]
def up2 (M : Mem) (k : Nat) (j z : Int) : Mem := fun a b => if a = k ∧ b = j then z else M a b
def injK (K : KX) (lay : List PD) : Prop := ∀ i j : Nat, i < lay.length → j < lay.length → K.2.2 i = K.2.2 j → i = j
def AK (K : KX) (lay : List PD) (sz : Nat) : Nat → Prop := fun q => (∃ k : Nat, k < lay.length ∧ q = K.2.2 k) ∨ sz ≤ q
def rmD (d : Nat) : Room := { frames := d, cells := 0, slots := 0, locals := 64 * d }
theorem wld_get {K : KX} {lay : List PD} {M : Mem} {k : Nat} {d : PD} (h : lay[k]? = some d) : (wld K lay M)[k]? = some (K.2.2 k, cE K d (M k)) := by
  unfold wld
  rw [List.getElem?_mapIdx, h]
  rfl
theorem wld_len {K : KX} {lay : List PD} {M : Mem} : (wld K lay M).length = lay.length := by
  unfold wld
  rw [List.length_mapIdx]
theorem up2_ne {M : Mem} {k a : Nat} {j z : Int} (h : a ≠ k) : up2 M k j z a = M a := by
  funext b
  simp [up2, h]
theorem up2_eq {M : Mem} {k : Nat} {j z : Int} : up2 M k j z k = fun b => if b = j then z else M k b := by
  funext b
  simp [up2]
theorem wld_set {K : KX} {lay : List PD} {M M' : Mem} {k : Nat} {d : PD} (h : lay[k]? = some d) (ho : ∀ a, a ≠ k → M' a = M a) : (wld K lay M).set k (K.2.2 k, cE K d (M' k)) = wld K lay M' := by
  apply List.ext_getElem?
  intro i
  rw [List.getElem?_set]
  have hk : k < lay.length := (List.getElem?_eq_some_iff.mp h).1
  by_cases hi : k = i
  · subst hi
    rw [if_pos rfl, if_pos (by rw [wld_len]; exact hk), wld_get h]
  · rw [if_neg hi]
    unfold wld
    rw [List.getElem?_mapIdx, List.getElem?_mapIdx, ho i (fun e => hi e.symm)]
theorem wld_D {K : KX} {lay : List PD} {M : Mem} {A : Nat → Prop} (hi : injK K lay) (hA : ∀ k, k < lay.length → A (K.2.2 k)) : va_D A (wld K lay M) := by
  have key : ∀ (i : Nat) (p : Nat × va_E), (wld K lay M)[i]? = some p → i < lay.length ∧ p.1 = K.2.2 i := by
    intro i p h
    have h1 := (List.getElem?_eq_some_iff.mp h).1
    rw [wld_len] at h1
    unfold wld at h
    rw [List.getElem?_mapIdx, List.getElem?_eq_getElem h1] at h
    cases h
    exact ⟨h1, rfl⟩
  refine ⟨fun i j p q hp hq e => ?_, fun k q hq => ?_⟩
  · obtain ⟨h1, h2⟩ := key i p hp
    obtain ⟨h3, h4⟩ := key j q hq
    exact hi i j h1 h3 (by rw [← h2, ← h4, e])
  · obtain ⟨h1, h2⟩ := key k q hq
    rw [h2]
    exact hA k h1
/-! locals -/
def lvl : Nat → List (Option Value) → List (Nat × Value)
  | _, [] => []
  | i, none :: r => lvl (i + 1) r
  | i, some v :: r => (i, v) :: lvl (i + 1) r
theorem lvl_mem : ∀ (L : List (Option Value)) (i j : Nat) (v : Value), (j, v) ∈ lvl i L ↔ ∃ k, j = i + k ∧ L[k]? = some (some v) := by
  intro L
  induction L with
  | nil => intro i j v; simp [lvl]
  | cons x r ih =>
    intro i j v
    cases x with
    | none =>
      rw [lvl, ih]
      constructor
      · rintro ⟨k, h1, h2⟩
        exact ⟨k + 1, by omega, by simpa using h2⟩
      · rintro ⟨k, h1, h2⟩
        cases k with
        | zero => simp at h2
        | succ k => exact ⟨k, by omega, by simpa using h2⟩
    | some w =>
      rw [lvl, List.mem_cons, ih]
      constructor
      · rintro (h | ⟨k, h1, h2⟩)
        · cases h
          exact ⟨0, by omega, by simp⟩
        · exact ⟨k + 1, by omega, by simpa using h2⟩
      · rintro ⟨k, h1, h2⟩
        cases k with
        | zero =>
          simp at h2
          subst h2
          left
          rw [h1]
          rfl
        | succ k => exact Or.inr ⟨k, by omega, by simpa using h2⟩
def LV (ls : Array Slot) (nL : Nat) (L : List (Option Value)) : Prop := lv_has ls nL (lvl 0 L) ∧ ∀ v, some v ∈ L → v.category = 1
theorem LV.at {ls : Array Slot} {nL : Nat} {L : List (Option Value)} (h : LV ls nL L) {i : Nat} {v : Value} (hi : L[i]? = some (some v)) : ls[i]? = some (.val v) :=
  h.1.2.2 (i, v) ((lvl_mem L 0 i v).mpr ⟨i, by omega, hi⟩)
theorem LV.set {ls' : Array Slot} {nL : Nat} {L : List (Option Value)} {i : Nat} {v : Value} (hc : v.category = 1) (hL : ∀ v, some v ∈ L → v.category = 1)
    (h : lv_has ls' nL ((i, v) :: (lvl 0 L).filter (fun q => !(q.1 == i) && !(q.1 + 1 == i && q.2.category == 2)))) : LV ls' nL (L.set i (some v)) := by
  refine ⟨⟨h.1, h.2.1, ?_⟩, ?_⟩
  · rintro ⟨j, w⟩ hq
    obtain ⟨k, hk, hw⟩ := (lvl_mem _ 0 j w).mp hq
    have hjk : j = k := by omega
    subst hjk
    rw [List.getElem?_set] at hw
    by_cases hi : i = j
    · subst hi
      rw [if_pos rfl] at hw
      by_cases hl : i < L.length
      · rw [if_pos hl] at hw
        cases hw
        exact h.2.2 (i, v) List.mem_cons_self
      · rw [if_neg hl] at hw
        cases hw
    · rw [if_neg hi] at hw
      refine h.2.2 (j, w) (List.mem_cons_of_mem _ (List.mem_filter.mpr ⟨(lvl_mem L 0 j w).mpr ⟨j, by omega, hw⟩, ?_⟩))
      have hcw : w.category = 1 := hL w (List.mem_of_getElem? hw)
      simp [hcw]
      omega
  · intro w hw
    rcases List.mem_or_eq_of_mem_set hw with h1 | h1
    · exact hL w h1
    · cases h1
      exact hc
/-! the judgement -/
def PW (X : CX) (K : KX) (lay : List PD) (nL : Nat) (cs : Nat × Nat) (Z : State → Prop) (pc : Nat) (L : List (Option Value)) (st : List Value) (M : Mem) : Prop := match X with
  | (p, l, e, R, s, m, args, below, meth, c, A) => ∀ (H : Heap) (locs : List Loc) (ls : Array Slot), va_P K.1 vwCl (wld K lay M) H → va_S A s.heap H locs → LV ls nL L → W p l e R s m args below meth c H locs cs.1 cs.2 Z (F0 m pc ls st)
def CXok (X : CX) (K : KX) (lay : List PD) (cc : ByteArray) (own : String) (nL : Nat) (ret : Option FieldType) (d : Nat) : Prop := match X with
  | (p, _, _, R, s, m, args, _, meth, c, A) => p.tables.exec = Jvm.exec ∧ c.code = cc ∧ c.maxLocals = nL ∧ s.vm.findClass own = some m.cls ∧ (∀ w ∈ wsL_law0, w.before args s = true) ∧ va_K K.1 vwCl (tysK K) s ∧ injK K lay ∧ (∀ k, k < lay.length → A (K.2.2 k)) ∧ (∀ q, s.heap.size ≤ q → A q) ∧ meth.locks = false ∧ meth.sig.returnType = ret ∧ d ≤ R.frames ∧ 64 * d ≤ R.locals
def QQ (K : KX) (lay : List PD) (A : Nat → Prop) (Q : Option Value → Mem → Prop) : Array Value → State → Outcome → State → Prop := fun _ st oc t => (∃ (v : Option Value) (M' : Mem), oc = .returned v ∧ Q v M' ∧ va_P K.1 vwCl (wld K lay M') t.heap ∧ va_K K.1 vwCl (tysK K) t) ∧ va_F A st t
def ZM (X : CX) (K : KX) (lay : List PD) (Q : Option Value → Mem → Prop) : State → Prop := match X with
  | (_, _, _, _, s, _, args, below, _, _, A) => MQ below (QQ K lay A Q) args s 0 0 A
abbrev lOf (X : CX) : Launch := X.2.1
def MC (l : Launch) (K : KX) (lay : List PD) (y : MethodName) (cc : ByteArray) (nL : Nat) (ret : Option FieldType) (d : Nat) (av : List Value) (M : Mem) (Q : Option Value → Mem → Prop) : Prop :=
  ∀ sz : Nat, Met l y (.code y cc nL ret :: wsL_law0) (rmD d) (va_Pc av (fun U => U.heap.size = sz ∧ va_P K.1 vwCl (wld K lay M) U.heap ∧ va_K K.1 vwCl (tysK K) U ∧ injK K lay)) (QQ K lay (AK K lay sz) Q) 0 0 (AK K lay sz)
def LV0 (av : List Value) (n : Nat) : List (Option Value) := av.map some ++ List.replicate (n - av.length) none
theorem lvl_args : ∀ (av : List Value) (i : Nat), (∀ v ∈ av, v.category = 1) → lv_args i av = lvl i (av.map some) := by
  intro av
  induction av with
  | nil => intro i _; rfl
  | cons v r ih =>
    intro i h
    have hc := h v List.mem_cons_self
    have h2 := ih (i + 1) (fun w hw => h w (List.mem_cons_of_mem _ hw))
    simp only [List.map_cons, lvl, lv_args, hc]
    rw [if_neg (by decide), h2]
theorem lvl_pad : ∀ (L : List (Option Value)) (i n : Nat), lvl i (L ++ List.replicate n none) = lvl i L := by
  intro L
  induction L with
  | nil =>
    intro i n
    induction n generalizing i with
    | zero => rfl
    | succ n ih =>
      show lvl (i + 1) ([] ++ List.replicate n none) = []
      exact ih (i + 1)
  | cons x r ih =>
    intro i n
    cases x with
    | none => exact ih (i + 1) n
    | some v =>
      show (i, v) :: lvl (i + 1) (r ++ List.replicate n none) = (i, v) :: lvl (i + 1) r
      rw [ih]
theorem lg_sl_len1 : ∀ (av : List Value), (∀ v ∈ av, v.category = 1) → (lg_sl av).length = av.length := by
  intro av h
  have := lvl_args av 0 h
  induction av with
  | nil => rfl
  | cons v r ih =>
    have hc := h v List.mem_cons_self
    have h2 := ih (fun w hw => h w (List.mem_cons_of_mem _ hw)) (lvl_args r 0 (fun w hw => h w (List.mem_cons_of_mem _ hw)))
    simp [lg_sl, hc] at h2 ⊢
    omega
theorem mc_intro {l : Launch} {K : KX} {lay : List PD} {y : MethodName} {cc : ByteArray} {nL : Nat} {ret : Option FieldType} {d : Nat} {av : List Value} {M : Mem} {Q : Option Value → Mem → Prop} (hy : plainName y.cls = true) (hc : ∀ v ∈ av, v.category = 1) (hn : av.length ≤ nL)
    (body : ∀ X : CX, lOf X = l → CXok X K lay cc y.cls nL ret d → PW X K lay nL (0, 0) (ZM X K lay Q) 0 (LV0 av nL) [] M) : MC l K lay y cc nL ret d av M Q := by
  intro sz
  refine Met.ofW (cc := cc) (maxL := nL) (ret := ret) hy rfl ?_
  intro p e s m args below meth c s₁ B hml hv
  obtain ⟨rfl, hsz, hP, hK, hinj⟩ := hv
  subst hsz
  have hts := atoms_spec (ws := .code y cc nL ret :: wsL_law0) B.pre
  have C : CXok (p, l, e, rmD d, s, m, av.toArray, below, meth, c, AK K lay s.heap.size) K lay cc y.cls nL ret d :=
    ⟨B.exec, B.bytes, hml, findClass_of_methodNamed B.named, fun w hw => hts w (List.mem_cons_of_mem _ hw), hK, hinj, fun k hk => Or.inl ⟨k, hk, rfl⟩, fun q h => Or.inr h, B.notSynchronized, B.returns, Nat.le_refl _, Nat.le_refl _⟩
  have hl := lv_entry av (n := nL) (by rw [lg_sl_len1 av hc]; exact hn)
  rw [lg_entry_eq]
  refine body _ rfl C s.heap [] _ hP va_S.rf ⟨?_, ?_⟩
  · rw [LV0, lvl_pad, ← lvl_args av 0 hc]
    exact hl
  · intro v hv
    rcases List.mem_append.mp hv with h1 | h1
    · obtain ⟨w, hw, e1⟩ := List.mem_map.mp h1
      cases e1
      exact hc v hw
    · have := List.eq_of_mem_replicate h1
      cases this
end
section
theorem i32_rng {z : Int} (h : -2147483648 ≤ z ∧ z ≤ 2147483647) : (Int32.ofInt z).toInt = z := by
  rw [Int32.toInt_ofInt, Int.bmod_def]
  have e1 : ((Int32.size : Nat) : Int) = 4294967296 := by decide
  rw [e1]
  split <;> omega
theorem i32_lt {a b : Int} (ha : -2147483648 ≤ a ∧ a ≤ 2147483647) (hb : -2147483648 ≤ b ∧ b ≤ 2147483647) : Int32.ofInt a < Int32.ofInt b ↔ a < b := by
  rw [Int32.lt_iff_toInt_lt, i32_rng ha, i32_rng hb]
theorem i32_le {a b : Int} (ha : -2147483648 ≤ a ∧ a ≤ 2147483647) (hb : -2147483648 ≤ b ∧ b ≤ 2147483647) : Int32.ofInt a ≤ Int32.ofInt b ↔ a ≤ b := by
  rw [Int32.le_iff_toInt_le, i32_rng ha, i32_rng hb]
theorem i32_eq {a b : Int} (ha : -2147483648 ≤ a ∧ a ≤ 2147483647) (hb : -2147483648 ≤ b ∧ b ≤ 2147483647) : Int32.ofInt a = Int32.ofInt b ↔ a = b := by
  constructor
  · intro h
    have := congrArg Int32.toInt h
    rwa [i32_rng ha, i32_rng hb] at this
  · intro h
    rw [h]
theorem i32_0 : (0 : Int32) = Int32.ofInt 0 := by decide
theorem i32_clamp {z : Int} (h : 0 ≤ z ∧ z ≤ 2147483647) : (Int32.ofInt z).toNatClampNeg = z.toNat := by
  show (Int32.ofInt z).toInt.toNat = z.toNat
  rw [i32_rng (by omega)]
theorem i32_in {z : Int} {n : Nat} (h : 0 ≤ z ∧ z < (n : Int)) (hn : n < 2147483648) : vp_in (Int32.ofInt z) n := by
  intro h1
  rcases h1 with h1 | h1
  · rw [i32_0, i32_lt (by omega) (by omega)] at h1
    omega
  · rw [i32_clamp (by omega)] at h1
    omega
theorem pw_iconst {X : CX} {K : KX} {lay : List PD} {cc : ByteArray} {own : String} {nL : Nat} {ret : Option FieldType} {d : Nat} {cs : Nat × Nat} {Z : State → Prop} {pc : Nat} {st : List Value} {M : Mem} (C : CXok X K lay cc own nL ret d) {L : List (Option Value)} {n : Int} (hd : decode cc pc = .ok (.iconst n, 1)) (k : PW X K lay nL cs Z (pc + 1) L (iV n :: st) M) :
    PW X K lay nL cs Z pc L st M := by
  obtain ⟨p, l, e, R, s, m, args, below, meth, c, A⟩ := X
  obtain ⟨hx, hb, hml, hown, hts, hK, hinj, hAk, hA, hlk, hrt, hfr, hlo⟩ := C
  intro H locs ls hP hS hl
  exact lv_iconst hx hb hd rfl (k H locs ls hP hS hl)
theorem pw_bipush {X : CX} {K : KX} {lay : List PD} {cc : ByteArray} {own : String} {nL : Nat} {ret : Option FieldType} {d : Nat} {cs : Nat × Nat} {Z : State → Prop} {pc : Nat} {st : List Value} {M : Mem} (C : CXok X K lay cc own nL ret d) {L : List (Option Value)} {n : Int} (hd : decode cc pc = .ok (.bipush n, 2)) (hn : (Int8.ofInt n).toInt32 = Int32.ofInt n) (k : PW X K lay nL cs Z (pc + 2) L (iV n :: st) M) :
    PW X K lay nL cs Z pc L st M := by
  obtain ⟨p, l, e, R, s, m, args, below, meth, c, A⟩ := X
  obtain ⟨hx, hb, hml, hown, hts, hK, hinj, hAk, hA, hlk, hrt, hfr, hlo⟩ := C
  intro H locs ls hP hS hl
  exact lv_bipush hx hb hd hn (k H locs ls hP hS hl)
theorem pw_sipush {X : CX} {K : KX} {lay : List PD} {cc : ByteArray} {own : String} {nL : Nat} {ret : Option FieldType} {d : Nat} {cs : Nat × Nat} {Z : State → Prop} {pc : Nat} {st : List Value} {M : Mem} (C : CXok X K lay cc own nL ret d) {L : List (Option Value)} {n : Int} (hd : decode cc pc = .ok (.sipush n, 3)) (hn : (Int16.ofInt n).toInt32 = Int32.ofInt n) (k : PW X K lay nL cs Z (pc + 3) L (iV n :: st) M) :
    PW X K lay nL cs Z pc L st M := by
  obtain ⟨p, l, e, R, s, m, args, below, meth, c, A⟩ := X
  obtain ⟨hx, hb, hml, hown, hts, hK, hinj, hAk, hA, hlk, hrt, hfr, hlo⟩ := C
  intro H locs ls hP hS hl
  exact lv_sipush hx hb hd hn (k H locs ls hP hS hl)
theorem pw_ldc {X : CX} {K : KX} {lay : List PD} {cc : ByteArray} {own : String} {nL : Nat} {ret : Option FieldType} {d : Nat} {cs : Nat × Nat} {Z : State → Prop} {pc : Nat} {st : List Value} {M : Mem} (C : CXok X K lay cc own nL ret d) {L : List (Option Value)} {i : Nat} {v : Int32} {z : Int} (hv : v = Int32.ofInt z) (hw : Cond.constant own i v ∈ wsL_law0) (hd : decode cc pc = .ok (.ldc i, 2)) (k : PW X K lay nL cs Z (pc + 2) L (iV z :: st) M) :
    PW X K lay nL cs Z pc L st M := by
  obtain ⟨p, l, e, R, s, m, args, below, meth, c, A⟩ := X
  obtain ⟨hx, hb, hml, hown, hts, hK, hinj, hAk, hA, hlk, hrt, hfr, hlo⟩ := C
  intro H locs ls hP hS hl
  subst hv
  exact lv_ldc hx hb hown (hts _ hw) hd (k H locs ls hP hS hl)
theorem pw_ldcw {X : CX} {K : KX} {lay : List PD} {cc : ByteArray} {own : String} {nL : Nat} {ret : Option FieldType} {d : Nat} {cs : Nat × Nat} {Z : State → Prop} {pc : Nat} {st : List Value} {M : Mem} (C : CXok X K lay cc own nL ret d) {L : List (Option Value)} {i : Nat} {v : Int32} {z : Int} (hv : v = Int32.ofInt z) (hw : Cond.constant own i v ∈ wsL_law0) (hd : decode cc pc = .ok (.ldc_w i, 3)) (k : PW X K lay nL cs Z (pc + 3) L (iV z :: st) M) :
    PW X K lay nL cs Z pc L st M := by
  obtain ⟨p, l, e, R, s, m, args, below, meth, c, A⟩ := X
  obtain ⟨hx, hb, hml, hown, hts, hK, hinj, hAk, hA, hlk, hrt, hfr, hlo⟩ := C
  intro H locs ls hP hS hl
  subst hv
  exact lv_ldcw hx hb hown (hts _ hw) hd (k H locs ls hP hS hl)
theorem pw_iload0 {X : CX} {K : KX} {lay : List PD} {cc : ByteArray} {own : String} {nL : Nat} {ret : Option FieldType} {d : Nat} {cs : Nat × Nat} {Z : State → Prop} {pc : Nat} {st : List Value} {M : Mem} (C : CXok X K lay cc own nL ret d) {r : List (Option Value)} {z : Int} (hd : decode cc pc = .ok (.iload_n 0, 1)) (k : PW X K lay nL cs Z (pc + 1) (some (iV z) :: r) (iV z :: st) M) :
    PW X K lay nL cs Z pc (some (iV z) :: r) st M := by
  obtain ⟨p, l, e, R, s, m, args, below, meth, c, A⟩ := X
  obtain ⟨hx, hb, hml, hown, hts, hK, hinj, hAk, hA, hlk, hrt, hfr, hlo⟩ := C
  intro H locs ls hP hS hl
  exact lv_iload_n hx hb hd rfl (hl.at (i := 0) rfl) (k H locs ls hP hS hl)
theorem pw_istore0 {X : CX} {K : KX} {lay : List PD} {cc : ByteArray} {own : String} {nL : Nat} {ret : Option FieldType} {d : Nat} {cs : Nat × Nat} {Z : State → Prop} {pc : Nat} {st : List Value} {M : Mem} (C : CXok X K lay cc own nL ret d) {r : List (Option Value)} {b : Option Value} {z : Int} (hn : 0 < nL) (hd : decode cc pc = .ok (.istore_n 0, 1)) (k : PW X K lay nL cs Z (pc + 1) (some (iV z) :: r) st M) :
    PW X K lay nL cs Z pc (b :: r) (iV z :: st) M := by
  obtain ⟨p, l, e, R, s, m, args, below, meth, c, A⟩ := X
  obtain ⟨hx, hb, hml, hown, hts, hK, hinj, hAk, hA, hlk, hrt, hfr, hlo⟩ := C
  intro H locs ls hP hS hl
  refine lv_istore_n (lv' := _) hx hb hd rfl hl.1 hn rfl (fun ls1 h1 => ?_)
  exact k H locs ls1 hP hS (LV.set (i := 0) (v := iV z) rfl hl.2 h1)
theorem pw_aload0 {X : CX} {K : KX} {lay : List PD} {cc : ByteArray} {own : String} {nL : Nat} {ret : Option FieldType} {d : Nat} {cs : Nat × Nat} {Z : State → Prop} {pc : Nat} {st : List Value} {M : Mem} (C : CXok X K lay cc own nL ret d) {r : List (Option Value)} {q : Nat} (hd : decode cc pc = .ok (.aload_n 0, 1)) (k : PW X K lay nL cs Z (pc + 1) (some (rV K q) :: r) (rV K q :: st) M) :
    PW X K lay nL cs Z pc (some (rV K q) :: r) st M := by
  obtain ⟨p, l, e, R, s, m, args, below, meth, c, A⟩ := X
  obtain ⟨hx, hb, hml, hown, hts, hK, hinj, hAk, hA, hlk, hrt, hfr, hlo⟩ := C
  intro H locs ls hP hS hl
  exact lv_aload_n hx hb hd rfl (hl.at (i := 0) rfl) (k H locs ls hP hS hl)
theorem pw_astore0 {X : CX} {K : KX} {lay : List PD} {cc : ByteArray} {own : String} {nL : Nat} {ret : Option FieldType} {d : Nat} {cs : Nat × Nat} {Z : State → Prop} {pc : Nat} {st : List Value} {M : Mem} (C : CXok X K lay cc own nL ret d) {r : List (Option Value)} {b : Option Value} {q : Nat} (hn : 0 < nL) (hd : decode cc pc = .ok (.astore_n 0, 1)) (k : PW X K lay nL cs Z (pc + 1) (some (rV K q) :: r) st M) :
    PW X K lay nL cs Z pc (b :: r) (rV K q :: st) M := by
  obtain ⟨p, l, e, R, s, m, args, below, meth, c, A⟩ := X
  obtain ⟨hx, hb, hml, hown, hts, hK, hinj, hAk, hA, hlk, hrt, hfr, hlo⟩ := C
  intro H locs ls hP hS hl
  refine lv_astore_n (lv' := _) hx hb hd rfl hl.1 hn rfl (fun ls1 h1 => ?_)
  exact k H locs ls1 hP hS (LV.set (i := 0) (v := rV K q) rfl hl.2 h1)
theorem pw_iinc0 {X : CX} {K : KX} {lay : List PD} {cc : ByteArray} {own : String} {nL : Nat} {ret : Option FieldType} {d : Nat} {cs : Nat × Nat} {Z : State → Prop} {pc : Nat} {st : List Value} {M : Mem} (C : CXok X K lay cc own nL ret d) {r : List (Option Value)} {z n : Int} (hn : 0 < nL) (hd : decode cc pc = .ok (.iinc 0 n, 3)) (k : PW X K lay nL cs Z (pc + 3) (some (iV (z + n)) :: r) st M) :
    PW X K lay nL cs Z pc (some (iV z) :: r) st M := by
  obtain ⟨p, l, e, R, s, m, args, below, meth, c, A⟩ := X
  obtain ⟨hx, hb, hml, hown, hts, hK, hinj, hAk, hA, hlk, hrt, hfr, hlo⟩ := C
  intro H locs ls hP hS hl
  have hm : (0, iV z) ∈ lvl 0 (some (iV z) :: r) := (lvl_mem _ 0 0 _).mpr ⟨0, by omega, rfl⟩
  obtain ⟨k0, hk0⟩ := List.getElem?_of_mem hm
  refine lv_iinc (v := Int32.ofInt (z + n)) (lv' := _) hx hb hd hl.1 hk0 (Int32.ofInt_add z n).symm hn rfl (fun ls1 h1 => ?_)
  exact k H locs ls1 hP hS (LV.set (i := 0) (v := iV (z + n)) rfl hl.2 h1)
theorem pw_iload1 {X : CX} {K : KX} {lay : List PD} {cc : ByteArray} {own : String} {nL : Nat} {ret : Option FieldType} {d : Nat} {cs : Nat × Nat} {Z : State → Prop} {pc : Nat} {st : List Value} {M : Mem} (C : CXok X K lay cc own nL ret d) {a0 : Option Value} {r : List (Option Value)} {z : Int} (hd : decode cc pc = .ok (.iload_n 1, 1)) (k : PW X K lay nL cs Z (pc + 1) (a0 :: some (iV z) :: r) (iV z :: st) M) :
    PW X K lay nL cs Z pc (a0 :: some (iV z) :: r) st M := by
  obtain ⟨p, l, e, R, s, m, args, below, meth, c, A⟩ := X
  obtain ⟨hx, hb, hml, hown, hts, hK, hinj, hAk, hA, hlk, hrt, hfr, hlo⟩ := C
  intro H locs ls hP hS hl
  exact lv_iload_n hx hb hd rfl (hl.at (i := 1) rfl) (k H locs ls hP hS hl)
theorem pw_istore1 {X : CX} {K : KX} {lay : List PD} {cc : ByteArray} {own : String} {nL : Nat} {ret : Option FieldType} {d : Nat} {cs : Nat × Nat} {Z : State → Prop} {pc : Nat} {st : List Value} {M : Mem} (C : CXok X K lay cc own nL ret d) {a0 : Option Value} {r : List (Option Value)} {b : Option Value} {z : Int} (hn : 1 < nL) (hd : decode cc pc = .ok (.istore_n 1, 1)) (k : PW X K lay nL cs Z (pc + 1) (a0 :: some (iV z) :: r) st M) :
    PW X K lay nL cs Z pc (a0 :: b :: r) (iV z :: st) M := by
  obtain ⟨p, l, e, R, s, m, args, below, meth, c, A⟩ := X
  obtain ⟨hx, hb, hml, hown, hts, hK, hinj, hAk, hA, hlk, hrt, hfr, hlo⟩ := C
  intro H locs ls hP hS hl
  refine lv_istore_n (lv' := _) hx hb hd rfl hl.1 hn rfl (fun ls1 h1 => ?_)
  exact k H locs ls1 hP hS (LV.set (i := 1) (v := iV z) rfl hl.2 h1)
theorem pw_aload1 {X : CX} {K : KX} {lay : List PD} {cc : ByteArray} {own : String} {nL : Nat} {ret : Option FieldType} {d : Nat} {cs : Nat × Nat} {Z : State → Prop} {pc : Nat} {st : List Value} {M : Mem} (C : CXok X K lay cc own nL ret d) {a0 : Option Value} {r : List (Option Value)} {q : Nat} (hd : decode cc pc = .ok (.aload_n 1, 1)) (k : PW X K lay nL cs Z (pc + 1) (a0 :: some (rV K q) :: r) (rV K q :: st) M) :
    PW X K lay nL cs Z pc (a0 :: some (rV K q) :: r) st M := by
  obtain ⟨p, l, e, R, s, m, args, below, meth, c, A⟩ := X
  obtain ⟨hx, hb, hml, hown, hts, hK, hinj, hAk, hA, hlk, hrt, hfr, hlo⟩ := C
  intro H locs ls hP hS hl
  exact lv_aload_n hx hb hd rfl (hl.at (i := 1) rfl) (k H locs ls hP hS hl)
theorem pw_astore1 {X : CX} {K : KX} {lay : List PD} {cc : ByteArray} {own : String} {nL : Nat} {ret : Option FieldType} {d : Nat} {cs : Nat × Nat} {Z : State → Prop} {pc : Nat} {st : List Value} {M : Mem} (C : CXok X K lay cc own nL ret d) {a0 : Option Value} {r : List (Option Value)} {b : Option Value} {q : Nat} (hn : 1 < nL) (hd : decode cc pc = .ok (.astore_n 1, 1)) (k : PW X K lay nL cs Z (pc + 1) (a0 :: some (rV K q) :: r) st M) :
    PW X K lay nL cs Z pc (a0 :: b :: r) (rV K q :: st) M := by
  obtain ⟨p, l, e, R, s, m, args, below, meth, c, A⟩ := X
  obtain ⟨hx, hb, hml, hown, hts, hK, hinj, hAk, hA, hlk, hrt, hfr, hlo⟩ := C
  intro H locs ls hP hS hl
  refine lv_astore_n (lv' := _) hx hb hd rfl hl.1 hn rfl (fun ls1 h1 => ?_)
  exact k H locs ls1 hP hS (LV.set (i := 1) (v := rV K q) rfl hl.2 h1)
theorem pw_iinc1 {X : CX} {K : KX} {lay : List PD} {cc : ByteArray} {own : String} {nL : Nat} {ret : Option FieldType} {d : Nat} {cs : Nat × Nat} {Z : State → Prop} {pc : Nat} {st : List Value} {M : Mem} (C : CXok X K lay cc own nL ret d) {a0 : Option Value} {r : List (Option Value)} {z n : Int} (hn : 1 < nL) (hd : decode cc pc = .ok (.iinc 1 n, 3)) (k : PW X K lay nL cs Z (pc + 3) (a0 :: some (iV (z + n)) :: r) st M) :
    PW X K lay nL cs Z pc (a0 :: some (iV z) :: r) st M := by
  obtain ⟨p, l, e, R, s, m, args, below, meth, c, A⟩ := X
  obtain ⟨hx, hb, hml, hown, hts, hK, hinj, hAk, hA, hlk, hrt, hfr, hlo⟩ := C
  intro H locs ls hP hS hl
  have hm : (1, iV z) ∈ lvl 0 (a0 :: some (iV z) :: r) := (lvl_mem _ 0 1 _).mpr ⟨1, by omega, rfl⟩
  obtain ⟨k0, hk0⟩ := List.getElem?_of_mem hm
  refine lv_iinc (v := Int32.ofInt (z + n)) (lv' := _) hx hb hd hl.1 hk0 (Int32.ofInt_add z n).symm hn rfl (fun ls1 h1 => ?_)
  exact k H locs ls1 hP hS (LV.set (i := 1) (v := iV (z + n)) rfl hl.2 h1)
theorem pw_iload2 {X : CX} {K : KX} {lay : List PD} {cc : ByteArray} {own : String} {nL : Nat} {ret : Option FieldType} {d : Nat} {cs : Nat × Nat} {Z : State → Prop} {pc : Nat} {st : List Value} {M : Mem} (C : CXok X K lay cc own nL ret d) {a0 a1 : Option Value} {r : List (Option Value)} {z : Int} (hd : decode cc pc = .ok (.iload_n 2, 1)) (k : PW X K lay nL cs Z (pc + 1) (a0 :: a1 :: some (iV z) :: r) (iV z :: st) M) :
    PW X K lay nL cs Z pc (a0 :: a1 :: some (iV z) :: r) st M := by
  obtain ⟨p, l, e, R, s, m, args, below, meth, c, A⟩ := X
  obtain ⟨hx, hb, hml, hown, hts, hK, hinj, hAk, hA, hlk, hrt, hfr, hlo⟩ := C
  intro H locs ls hP hS hl
  exact lv_iload_n hx hb hd rfl (hl.at (i := 2) rfl) (k H locs ls hP hS hl)
theorem pw_istore2 {X : CX} {K : KX} {lay : List PD} {cc : ByteArray} {own : String} {nL : Nat} {ret : Option FieldType} {d : Nat} {cs : Nat × Nat} {Z : State → Prop} {pc : Nat} {st : List Value} {M : Mem} (C : CXok X K lay cc own nL ret d) {a0 a1 : Option Value} {r : List (Option Value)} {b : Option Value} {z : Int} (hn : 2 < nL) (hd : decode cc pc = .ok (.istore_n 2, 1)) (k : PW X K lay nL cs Z (pc + 1) (a0 :: a1 :: some (iV z) :: r) st M) :
    PW X K lay nL cs Z pc (a0 :: a1 :: b :: r) (iV z :: st) M := by
  obtain ⟨p, l, e, R, s, m, args, below, meth, c, A⟩ := X
  obtain ⟨hx, hb, hml, hown, hts, hK, hinj, hAk, hA, hlk, hrt, hfr, hlo⟩ := C
  intro H locs ls hP hS hl
  refine lv_istore_n (lv' := _) hx hb hd rfl hl.1 hn rfl (fun ls1 h1 => ?_)
  exact k H locs ls1 hP hS (LV.set (i := 2) (v := iV z) rfl hl.2 h1)
theorem pw_aload2 {X : CX} {K : KX} {lay : List PD} {cc : ByteArray} {own : String} {nL : Nat} {ret : Option FieldType} {d : Nat} {cs : Nat × Nat} {Z : State → Prop} {pc : Nat} {st : List Value} {M : Mem} (C : CXok X K lay cc own nL ret d) {a0 a1 : Option Value} {r : List (Option Value)} {q : Nat} (hd : decode cc pc = .ok (.aload_n 2, 1)) (k : PW X K lay nL cs Z (pc + 1) (a0 :: a1 :: some (rV K q) :: r) (rV K q :: st) M) :
    PW X K lay nL cs Z pc (a0 :: a1 :: some (rV K q) :: r) st M := by
  obtain ⟨p, l, e, R, s, m, args, below, meth, c, A⟩ := X
  obtain ⟨hx, hb, hml, hown, hts, hK, hinj, hAk, hA, hlk, hrt, hfr, hlo⟩ := C
  intro H locs ls hP hS hl
  exact lv_aload_n hx hb hd rfl (hl.at (i := 2) rfl) (k H locs ls hP hS hl)
theorem pw_astore2 {X : CX} {K : KX} {lay : List PD} {cc : ByteArray} {own : String} {nL : Nat} {ret : Option FieldType} {d : Nat} {cs : Nat × Nat} {Z : State → Prop} {pc : Nat} {st : List Value} {M : Mem} (C : CXok X K lay cc own nL ret d) {a0 a1 : Option Value} {r : List (Option Value)} {b : Option Value} {q : Nat} (hn : 2 < nL) (hd : decode cc pc = .ok (.astore_n 2, 1)) (k : PW X K lay nL cs Z (pc + 1) (a0 :: a1 :: some (rV K q) :: r) st M) :
    PW X K lay nL cs Z pc (a0 :: a1 :: b :: r) (rV K q :: st) M := by
  obtain ⟨p, l, e, R, s, m, args, below, meth, c, A⟩ := X
  obtain ⟨hx, hb, hml, hown, hts, hK, hinj, hAk, hA, hlk, hrt, hfr, hlo⟩ := C
  intro H locs ls hP hS hl
  refine lv_astore_n (lv' := _) hx hb hd rfl hl.1 hn rfl (fun ls1 h1 => ?_)
  exact k H locs ls1 hP hS (LV.set (i := 2) (v := rV K q) rfl hl.2 h1)
theorem pw_iinc2 {X : CX} {K : KX} {lay : List PD} {cc : ByteArray} {own : String} {nL : Nat} {ret : Option FieldType} {d : Nat} {cs : Nat × Nat} {Z : State → Prop} {pc : Nat} {st : List Value} {M : Mem} (C : CXok X K lay cc own nL ret d) {a0 a1 : Option Value} {r : List (Option Value)} {z n : Int} (hn : 2 < nL) (hd : decode cc pc = .ok (.iinc 2 n, 3)) (k : PW X K lay nL cs Z (pc + 3) (a0 :: a1 :: some (iV (z + n)) :: r) st M) :
    PW X K lay nL cs Z pc (a0 :: a1 :: some (iV z) :: r) st M := by
  obtain ⟨p, l, e, R, s, m, args, below, meth, c, A⟩ := X
  obtain ⟨hx, hb, hml, hown, hts, hK, hinj, hAk, hA, hlk, hrt, hfr, hlo⟩ := C
  intro H locs ls hP hS hl
  have hm : (2, iV z) ∈ lvl 0 (a0 :: a1 :: some (iV z) :: r) := (lvl_mem _ 0 2 _).mpr ⟨2, by omega, rfl⟩
  obtain ⟨k0, hk0⟩ := List.getElem?_of_mem hm
  refine lv_iinc (v := Int32.ofInt (z + n)) (lv' := _) hx hb hd hl.1 hk0 (Int32.ofInt_add z n).symm hn rfl (fun ls1 h1 => ?_)
  exact k H locs ls1 hP hS (LV.set (i := 2) (v := iV (z + n)) rfl hl.2 h1)
theorem pw_iload3 {X : CX} {K : KX} {lay : List PD} {cc : ByteArray} {own : String} {nL : Nat} {ret : Option FieldType} {d : Nat} {cs : Nat × Nat} {Z : State → Prop} {pc : Nat} {st : List Value} {M : Mem} (C : CXok X K lay cc own nL ret d) {a0 a1 a2 : Option Value} {r : List (Option Value)} {z : Int} (hd : decode cc pc = .ok (.iload_n 3, 1)) (k : PW X K lay nL cs Z (pc + 1) (a0 :: a1 :: a2 :: some (iV z) :: r) (iV z :: st) M) :
    PW X K lay nL cs Z pc (a0 :: a1 :: a2 :: some (iV z) :: r) st M := by
  obtain ⟨p, l, e, R, s, m, args, below, meth, c, A⟩ := X
  obtain ⟨hx, hb, hml, hown, hts, hK, hinj, hAk, hA, hlk, hrt, hfr, hlo⟩ := C
  intro H locs ls hP hS hl
  exact lv_iload_n hx hb hd rfl (hl.at (i := 3) rfl) (k H locs ls hP hS hl)
theorem pw_istore3 {X : CX} {K : KX} {lay : List PD} {cc : ByteArray} {own : String} {nL : Nat} {ret : Option FieldType} {d : Nat} {cs : Nat × Nat} {Z : State → Prop} {pc : Nat} {st : List Value} {M : Mem} (C : CXok X K lay cc own nL ret d) {a0 a1 a2 : Option Value} {r : List (Option Value)} {b : Option Value} {z : Int} (hn : 3 < nL) (hd : decode cc pc = .ok (.istore_n 3, 1)) (k : PW X K lay nL cs Z (pc + 1) (a0 :: a1 :: a2 :: some (iV z) :: r) st M) :
    PW X K lay nL cs Z pc (a0 :: a1 :: a2 :: b :: r) (iV z :: st) M := by
  obtain ⟨p, l, e, R, s, m, args, below, meth, c, A⟩ := X
  obtain ⟨hx, hb, hml, hown, hts, hK, hinj, hAk, hA, hlk, hrt, hfr, hlo⟩ := C
  intro H locs ls hP hS hl
  refine lv_istore_n (lv' := _) hx hb hd rfl hl.1 hn rfl (fun ls1 h1 => ?_)
  exact k H locs ls1 hP hS (LV.set (i := 3) (v := iV z) rfl hl.2 h1)
theorem pw_aload3 {X : CX} {K : KX} {lay : List PD} {cc : ByteArray} {own : String} {nL : Nat} {ret : Option FieldType} {d : Nat} {cs : Nat × Nat} {Z : State → Prop} {pc : Nat} {st : List Value} {M : Mem} (C : CXok X K lay cc own nL ret d) {a0 a1 a2 : Option Value} {r : List (Option Value)} {q : Nat} (hd : decode cc pc = .ok (.aload_n 3, 1)) (k : PW X K lay nL cs Z (pc + 1) (a0 :: a1 :: a2 :: some (rV K q) :: r) (rV K q :: st) M) :
    PW X K lay nL cs Z pc (a0 :: a1 :: a2 :: some (rV K q) :: r) st M := by
  obtain ⟨p, l, e, R, s, m, args, below, meth, c, A⟩ := X
  obtain ⟨hx, hb, hml, hown, hts, hK, hinj, hAk, hA, hlk, hrt, hfr, hlo⟩ := C
  intro H locs ls hP hS hl
  exact lv_aload_n hx hb hd rfl (hl.at (i := 3) rfl) (k H locs ls hP hS hl)
theorem pw_astore3 {X : CX} {K : KX} {lay : List PD} {cc : ByteArray} {own : String} {nL : Nat} {ret : Option FieldType} {d : Nat} {cs : Nat × Nat} {Z : State → Prop} {pc : Nat} {st : List Value} {M : Mem} (C : CXok X K lay cc own nL ret d) {a0 a1 a2 : Option Value} {r : List (Option Value)} {b : Option Value} {q : Nat} (hn : 3 < nL) (hd : decode cc pc = .ok (.astore_n 3, 1)) (k : PW X K lay nL cs Z (pc + 1) (a0 :: a1 :: a2 :: some (rV K q) :: r) st M) :
    PW X K lay nL cs Z pc (a0 :: a1 :: a2 :: b :: r) (rV K q :: st) M := by
  obtain ⟨p, l, e, R, s, m, args, below, meth, c, A⟩ := X
  obtain ⟨hx, hb, hml, hown, hts, hK, hinj, hAk, hA, hlk, hrt, hfr, hlo⟩ := C
  intro H locs ls hP hS hl
  refine lv_astore_n (lv' := _) hx hb hd rfl hl.1 hn rfl (fun ls1 h1 => ?_)
  exact k H locs ls1 hP hS (LV.set (i := 3) (v := rV K q) rfl hl.2 h1)
theorem pw_iinc3 {X : CX} {K : KX} {lay : List PD} {cc : ByteArray} {own : String} {nL : Nat} {ret : Option FieldType} {d : Nat} {cs : Nat × Nat} {Z : State → Prop} {pc : Nat} {st : List Value} {M : Mem} (C : CXok X K lay cc own nL ret d) {a0 a1 a2 : Option Value} {r : List (Option Value)} {z n : Int} (hn : 3 < nL) (hd : decode cc pc = .ok (.iinc 3 n, 3)) (k : PW X K lay nL cs Z (pc + 3) (a0 :: a1 :: a2 :: some (iV (z + n)) :: r) st M) :
    PW X K lay nL cs Z pc (a0 :: a1 :: a2 :: some (iV z) :: r) st M := by
  obtain ⟨p, l, e, R, s, m, args, below, meth, c, A⟩ := X
  obtain ⟨hx, hb, hml, hown, hts, hK, hinj, hAk, hA, hlk, hrt, hfr, hlo⟩ := C
  intro H locs ls hP hS hl
  have hm : (3, iV z) ∈ lvl 0 (a0 :: a1 :: a2 :: some (iV z) :: r) := (lvl_mem _ 0 3 _).mpr ⟨3, by omega, rfl⟩
  obtain ⟨k0, hk0⟩ := List.getElem?_of_mem hm
  refine lv_iinc (v := Int32.ofInt (z + n)) (lv' := _) hx hb hd hl.1 hk0 (Int32.ofInt_add z n).symm hn rfl (fun ls1 h1 => ?_)
  exact k H locs ls1 hP hS (LV.set (i := 3) (v := iV (z + n)) rfl hl.2 h1)
theorem pw_iload4 {X : CX} {K : KX} {lay : List PD} {cc : ByteArray} {own : String} {nL : Nat} {ret : Option FieldType} {d : Nat} {cs : Nat × Nat} {Z : State → Prop} {pc : Nat} {st : List Value} {M : Mem} (C : CXok X K lay cc own nL ret d) {a0 a1 a2 a3 : Option Value} {r : List (Option Value)} {z : Int} (hd : decode cc pc = .ok (.iload 4, 2)) (k : PW X K lay nL cs Z (pc + 2) (a0 :: a1 :: a2 :: a3 :: some (iV z) :: r) (iV z :: st) M) :
    PW X K lay nL cs Z pc (a0 :: a1 :: a2 :: a3 :: some (iV z) :: r) st M := by
  obtain ⟨p, l, e, R, s, m, args, below, meth, c, A⟩ := X
  obtain ⟨hx, hb, hml, hown, hts, hK, hinj, hAk, hA, hlk, hrt, hfr, hlo⟩ := C
  intro H locs ls hP hS hl
  exact lv_iload hx hb hd (hl.at (i := 4) rfl) (k H locs ls hP hS hl)
theorem pw_istore4 {X : CX} {K : KX} {lay : List PD} {cc : ByteArray} {own : String} {nL : Nat} {ret : Option FieldType} {d : Nat} {cs : Nat × Nat} {Z : State → Prop} {pc : Nat} {st : List Value} {M : Mem} (C : CXok X K lay cc own nL ret d) {a0 a1 a2 a3 : Option Value} {r : List (Option Value)} {b : Option Value} {z : Int} (hn : 4 < nL) (hd : decode cc pc = .ok (.istore 4, 2)) (k : PW X K lay nL cs Z (pc + 2) (a0 :: a1 :: a2 :: a3 :: some (iV z) :: r) st M) :
    PW X K lay nL cs Z pc (a0 :: a1 :: a2 :: a3 :: b :: r) (iV z :: st) M := by
  obtain ⟨p, l, e, R, s, m, args, below, meth, c, A⟩ := X
  obtain ⟨hx, hb, hml, hown, hts, hK, hinj, hAk, hA, hlk, hrt, hfr, hlo⟩ := C
  intro H locs ls hP hS hl
  refine lv_istore (lv' := _) hx hb hd hl.1 hn rfl (fun ls1 h1 => ?_)
  exact k H locs ls1 hP hS (LV.set (i := 4) (v := iV z) rfl hl.2 h1)
theorem pw_aload4 {X : CX} {K : KX} {lay : List PD} {cc : ByteArray} {own : String} {nL : Nat} {ret : Option FieldType} {d : Nat} {cs : Nat × Nat} {Z : State → Prop} {pc : Nat} {st : List Value} {M : Mem} (C : CXok X K lay cc own nL ret d) {a0 a1 a2 a3 : Option Value} {r : List (Option Value)} {q : Nat} (hd : decode cc pc = .ok (.aload 4, 2)) (k : PW X K lay nL cs Z (pc + 2) (a0 :: a1 :: a2 :: a3 :: some (rV K q) :: r) (rV K q :: st) M) :
    PW X K lay nL cs Z pc (a0 :: a1 :: a2 :: a3 :: some (rV K q) :: r) st M := by
  obtain ⟨p, l, e, R, s, m, args, below, meth, c, A⟩ := X
  obtain ⟨hx, hb, hml, hown, hts, hK, hinj, hAk, hA, hlk, hrt, hfr, hlo⟩ := C
  intro H locs ls hP hS hl
  exact lv_aload hx hb hd (hl.at (i := 4) rfl) (k H locs ls hP hS hl)
theorem pw_astore4 {X : CX} {K : KX} {lay : List PD} {cc : ByteArray} {own : String} {nL : Nat} {ret : Option FieldType} {d : Nat} {cs : Nat × Nat} {Z : State → Prop} {pc : Nat} {st : List Value} {M : Mem} (C : CXok X K lay cc own nL ret d) {a0 a1 a2 a3 : Option Value} {r : List (Option Value)} {b : Option Value} {q : Nat} (hn : 4 < nL) (hd : decode cc pc = .ok (.astore 4, 2)) (k : PW X K lay nL cs Z (pc + 2) (a0 :: a1 :: a2 :: a3 :: some (rV K q) :: r) st M) :
    PW X K lay nL cs Z pc (a0 :: a1 :: a2 :: a3 :: b :: r) (rV K q :: st) M := by
  obtain ⟨p, l, e, R, s, m, args, below, meth, c, A⟩ := X
  obtain ⟨hx, hb, hml, hown, hts, hK, hinj, hAk, hA, hlk, hrt, hfr, hlo⟩ := C
  intro H locs ls hP hS hl
  refine lv_astore (lv' := _) hx hb hd hl.1 hn rfl (fun ls1 h1 => ?_)
  exact k H locs ls1 hP hS (LV.set (i := 4) (v := rV K q) rfl hl.2 h1)
theorem pw_iinc4 {X : CX} {K : KX} {lay : List PD} {cc : ByteArray} {own : String} {nL : Nat} {ret : Option FieldType} {d : Nat} {cs : Nat × Nat} {Z : State → Prop} {pc : Nat} {st : List Value} {M : Mem} (C : CXok X K lay cc own nL ret d) {a0 a1 a2 a3 : Option Value} {r : List (Option Value)} {z n : Int} (hn : 4 < nL) (hd : decode cc pc = .ok (.iinc 4 n, 3)) (k : PW X K lay nL cs Z (pc + 3) (a0 :: a1 :: a2 :: a3 :: some (iV (z + n)) :: r) st M) :
    PW X K lay nL cs Z pc (a0 :: a1 :: a2 :: a3 :: some (iV z) :: r) st M := by
  obtain ⟨p, l, e, R, s, m, args, below, meth, c, A⟩ := X
  obtain ⟨hx, hb, hml, hown, hts, hK, hinj, hAk, hA, hlk, hrt, hfr, hlo⟩ := C
  intro H locs ls hP hS hl
  have hm : (4, iV z) ∈ lvl 0 (a0 :: a1 :: a2 :: a3 :: some (iV z) :: r) := (lvl_mem _ 0 4 _).mpr ⟨4, by omega, rfl⟩
  obtain ⟨k0, hk0⟩ := List.getElem?_of_mem hm
  refine lv_iinc (v := Int32.ofInt (z + n)) (lv' := _) hx hb hd hl.1 hk0 (Int32.ofInt_add z n).symm hn rfl (fun ls1 h1 => ?_)
  exact k H locs ls1 hP hS (LV.set (i := 4) (v := iV (z + n)) rfl hl.2 h1)
theorem pw_iload5 {X : CX} {K : KX} {lay : List PD} {cc : ByteArray} {own : String} {nL : Nat} {ret : Option FieldType} {d : Nat} {cs : Nat × Nat} {Z : State → Prop} {pc : Nat} {st : List Value} {M : Mem} (C : CXok X K lay cc own nL ret d) {a0 a1 a2 a3 a4 : Option Value} {r : List (Option Value)} {z : Int} (hd : decode cc pc = .ok (.iload 5, 2)) (k : PW X K lay nL cs Z (pc + 2) (a0 :: a1 :: a2 :: a3 :: a4 :: some (iV z) :: r) (iV z :: st) M) :
    PW X K lay nL cs Z pc (a0 :: a1 :: a2 :: a3 :: a4 :: some (iV z) :: r) st M := by
  obtain ⟨p, l, e, R, s, m, args, below, meth, c, A⟩ := X
  obtain ⟨hx, hb, hml, hown, hts, hK, hinj, hAk, hA, hlk, hrt, hfr, hlo⟩ := C
  intro H locs ls hP hS hl
  exact lv_iload hx hb hd (hl.at (i := 5) rfl) (k H locs ls hP hS hl)
theorem pw_istore5 {X : CX} {K : KX} {lay : List PD} {cc : ByteArray} {own : String} {nL : Nat} {ret : Option FieldType} {d : Nat} {cs : Nat × Nat} {Z : State → Prop} {pc : Nat} {st : List Value} {M : Mem} (C : CXok X K lay cc own nL ret d) {a0 a1 a2 a3 a4 : Option Value} {r : List (Option Value)} {b : Option Value} {z : Int} (hn : 5 < nL) (hd : decode cc pc = .ok (.istore 5, 2)) (k : PW X K lay nL cs Z (pc + 2) (a0 :: a1 :: a2 :: a3 :: a4 :: some (iV z) :: r) st M) :
    PW X K lay nL cs Z pc (a0 :: a1 :: a2 :: a3 :: a4 :: b :: r) (iV z :: st) M := by
  obtain ⟨p, l, e, R, s, m, args, below, meth, c, A⟩ := X
  obtain ⟨hx, hb, hml, hown, hts, hK, hinj, hAk, hA, hlk, hrt, hfr, hlo⟩ := C
  intro H locs ls hP hS hl
  refine lv_istore (lv' := _) hx hb hd hl.1 hn rfl (fun ls1 h1 => ?_)
  exact k H locs ls1 hP hS (LV.set (i := 5) (v := iV z) rfl hl.2 h1)
theorem pw_aload5 {X : CX} {K : KX} {lay : List PD} {cc : ByteArray} {own : String} {nL : Nat} {ret : Option FieldType} {d : Nat} {cs : Nat × Nat} {Z : State → Prop} {pc : Nat} {st : List Value} {M : Mem} (C : CXok X K lay cc own nL ret d) {a0 a1 a2 a3 a4 : Option Value} {r : List (Option Value)} {q : Nat} (hd : decode cc pc = .ok (.aload 5, 2)) (k : PW X K lay nL cs Z (pc + 2) (a0 :: a1 :: a2 :: a3 :: a4 :: some (rV K q) :: r) (rV K q :: st) M) :
    PW X K lay nL cs Z pc (a0 :: a1 :: a2 :: a3 :: a4 :: some (rV K q) :: r) st M := by
  obtain ⟨p, l, e, R, s, m, args, below, meth, c, A⟩ := X
  obtain ⟨hx, hb, hml, hown, hts, hK, hinj, hAk, hA, hlk, hrt, hfr, hlo⟩ := C
  intro H locs ls hP hS hl
  exact lv_aload hx hb hd (hl.at (i := 5) rfl) (k H locs ls hP hS hl)
theorem pw_astore5 {X : CX} {K : KX} {lay : List PD} {cc : ByteArray} {own : String} {nL : Nat} {ret : Option FieldType} {d : Nat} {cs : Nat × Nat} {Z : State → Prop} {pc : Nat} {st : List Value} {M : Mem} (C : CXok X K lay cc own nL ret d) {a0 a1 a2 a3 a4 : Option Value} {r : List (Option Value)} {b : Option Value} {q : Nat} (hn : 5 < nL) (hd : decode cc pc = .ok (.astore 5, 2)) (k : PW X K lay nL cs Z (pc + 2) (a0 :: a1 :: a2 :: a3 :: a4 :: some (rV K q) :: r) st M) :
    PW X K lay nL cs Z pc (a0 :: a1 :: a2 :: a3 :: a4 :: b :: r) (rV K q :: st) M := by
  obtain ⟨p, l, e, R, s, m, args, below, meth, c, A⟩ := X
  obtain ⟨hx, hb, hml, hown, hts, hK, hinj, hAk, hA, hlk, hrt, hfr, hlo⟩ := C
  intro H locs ls hP hS hl
  refine lv_astore (lv' := _) hx hb hd hl.1 hn rfl (fun ls1 h1 => ?_)
  exact k H locs ls1 hP hS (LV.set (i := 5) (v := rV K q) rfl hl.2 h1)
theorem pw_iinc5 {X : CX} {K : KX} {lay : List PD} {cc : ByteArray} {own : String} {nL : Nat} {ret : Option FieldType} {d : Nat} {cs : Nat × Nat} {Z : State → Prop} {pc : Nat} {st : List Value} {M : Mem} (C : CXok X K lay cc own nL ret d) {a0 a1 a2 a3 a4 : Option Value} {r : List (Option Value)} {z n : Int} (hn : 5 < nL) (hd : decode cc pc = .ok (.iinc 5 n, 3)) (k : PW X K lay nL cs Z (pc + 3) (a0 :: a1 :: a2 :: a3 :: a4 :: some (iV (z + n)) :: r) st M) :
    PW X K lay nL cs Z pc (a0 :: a1 :: a2 :: a3 :: a4 :: some (iV z) :: r) st M := by
  obtain ⟨p, l, e, R, s, m, args, below, meth, c, A⟩ := X
  obtain ⟨hx, hb, hml, hown, hts, hK, hinj, hAk, hA, hlk, hrt, hfr, hlo⟩ := C
  intro H locs ls hP hS hl
  have hm : (5, iV z) ∈ lvl 0 (a0 :: a1 :: a2 :: a3 :: a4 :: some (iV z) :: r) := (lvl_mem _ 0 5 _).mpr ⟨5, by omega, rfl⟩
  obtain ⟨k0, hk0⟩ := List.getElem?_of_mem hm
  refine lv_iinc (v := Int32.ofInt (z + n)) (lv' := _) hx hb hd hl.1 hk0 (Int32.ofInt_add z n).symm hn rfl (fun ls1 h1 => ?_)
  exact k H locs ls1 hP hS (LV.set (i := 5) (v := iV (z + n)) rfl hl.2 h1)
theorem pw_iload6 {X : CX} {K : KX} {lay : List PD} {cc : ByteArray} {own : String} {nL : Nat} {ret : Option FieldType} {d : Nat} {cs : Nat × Nat} {Z : State → Prop} {pc : Nat} {st : List Value} {M : Mem} (C : CXok X K lay cc own nL ret d) {a0 a1 a2 a3 a4 a5 : Option Value} {r : List (Option Value)} {z : Int} (hd : decode cc pc = .ok (.iload 6, 2)) (k : PW X K lay nL cs Z (pc + 2) (a0 :: a1 :: a2 :: a3 :: a4 :: a5 :: some (iV z) :: r) (iV z :: st) M) :
    PW X K lay nL cs Z pc (a0 :: a1 :: a2 :: a3 :: a4 :: a5 :: some (iV z) :: r) st M := by
  obtain ⟨p, l, e, R, s, m, args, below, meth, c, A⟩ := X
  obtain ⟨hx, hb, hml, hown, hts, hK, hinj, hAk, hA, hlk, hrt, hfr, hlo⟩ := C
  intro H locs ls hP hS hl
  exact lv_iload hx hb hd (hl.at (i := 6) rfl) (k H locs ls hP hS hl)
theorem pw_istore6 {X : CX} {K : KX} {lay : List PD} {cc : ByteArray} {own : String} {nL : Nat} {ret : Option FieldType} {d : Nat} {cs : Nat × Nat} {Z : State → Prop} {pc : Nat} {st : List Value} {M : Mem} (C : CXok X K lay cc own nL ret d) {a0 a1 a2 a3 a4 a5 : Option Value} {r : List (Option Value)} {b : Option Value} {z : Int} (hn : 6 < nL) (hd : decode cc pc = .ok (.istore 6, 2)) (k : PW X K lay nL cs Z (pc + 2) (a0 :: a1 :: a2 :: a3 :: a4 :: a5 :: some (iV z) :: r) st M) :
    PW X K lay nL cs Z pc (a0 :: a1 :: a2 :: a3 :: a4 :: a5 :: b :: r) (iV z :: st) M := by
  obtain ⟨p, l, e, R, s, m, args, below, meth, c, A⟩ := X
  obtain ⟨hx, hb, hml, hown, hts, hK, hinj, hAk, hA, hlk, hrt, hfr, hlo⟩ := C
  intro H locs ls hP hS hl
  refine lv_istore (lv' := _) hx hb hd hl.1 hn rfl (fun ls1 h1 => ?_)
  exact k H locs ls1 hP hS (LV.set (i := 6) (v := iV z) rfl hl.2 h1)
theorem pw_aload6 {X : CX} {K : KX} {lay : List PD} {cc : ByteArray} {own : String} {nL : Nat} {ret : Option FieldType} {d : Nat} {cs : Nat × Nat} {Z : State → Prop} {pc : Nat} {st : List Value} {M : Mem} (C : CXok X K lay cc own nL ret d) {a0 a1 a2 a3 a4 a5 : Option Value} {r : List (Option Value)} {q : Nat} (hd : decode cc pc = .ok (.aload 6, 2)) (k : PW X K lay nL cs Z (pc + 2) (a0 :: a1 :: a2 :: a3 :: a4 :: a5 :: some (rV K q) :: r) (rV K q :: st) M) :
    PW X K lay nL cs Z pc (a0 :: a1 :: a2 :: a3 :: a4 :: a5 :: some (rV K q) :: r) st M := by
  obtain ⟨p, l, e, R, s, m, args, below, meth, c, A⟩ := X
  obtain ⟨hx, hb, hml, hown, hts, hK, hinj, hAk, hA, hlk, hrt, hfr, hlo⟩ := C
  intro H locs ls hP hS hl
  exact lv_aload hx hb hd (hl.at (i := 6) rfl) (k H locs ls hP hS hl)
theorem pw_astore6 {X : CX} {K : KX} {lay : List PD} {cc : ByteArray} {own : String} {nL : Nat} {ret : Option FieldType} {d : Nat} {cs : Nat × Nat} {Z : State → Prop} {pc : Nat} {st : List Value} {M : Mem} (C : CXok X K lay cc own nL ret d) {a0 a1 a2 a3 a4 a5 : Option Value} {r : List (Option Value)} {b : Option Value} {q : Nat} (hn : 6 < nL) (hd : decode cc pc = .ok (.astore 6, 2)) (k : PW X K lay nL cs Z (pc + 2) (a0 :: a1 :: a2 :: a3 :: a4 :: a5 :: some (rV K q) :: r) st M) :
    PW X K lay nL cs Z pc (a0 :: a1 :: a2 :: a3 :: a4 :: a5 :: b :: r) (rV K q :: st) M := by
  obtain ⟨p, l, e, R, s, m, args, below, meth, c, A⟩ := X
  obtain ⟨hx, hb, hml, hown, hts, hK, hinj, hAk, hA, hlk, hrt, hfr, hlo⟩ := C
  intro H locs ls hP hS hl
  refine lv_astore (lv' := _) hx hb hd hl.1 hn rfl (fun ls1 h1 => ?_)
  exact k H locs ls1 hP hS (LV.set (i := 6) (v := rV K q) rfl hl.2 h1)
theorem pw_iinc6 {X : CX} {K : KX} {lay : List PD} {cc : ByteArray} {own : String} {nL : Nat} {ret : Option FieldType} {d : Nat} {cs : Nat × Nat} {Z : State → Prop} {pc : Nat} {st : List Value} {M : Mem} (C : CXok X K lay cc own nL ret d) {a0 a1 a2 a3 a4 a5 : Option Value} {r : List (Option Value)} {z n : Int} (hn : 6 < nL) (hd : decode cc pc = .ok (.iinc 6 n, 3)) (k : PW X K lay nL cs Z (pc + 3) (a0 :: a1 :: a2 :: a3 :: a4 :: a5 :: some (iV (z + n)) :: r) st M) :
    PW X K lay nL cs Z pc (a0 :: a1 :: a2 :: a3 :: a4 :: a5 :: some (iV z) :: r) st M := by
  obtain ⟨p, l, e, R, s, m, args, below, meth, c, A⟩ := X
  obtain ⟨hx, hb, hml, hown, hts, hK, hinj, hAk, hA, hlk, hrt, hfr, hlo⟩ := C
  intro H locs ls hP hS hl
  have hm : (6, iV z) ∈ lvl 0 (a0 :: a1 :: a2 :: a3 :: a4 :: a5 :: some (iV z) :: r) := (lvl_mem _ 0 6 _).mpr ⟨6, by omega, rfl⟩
  obtain ⟨k0, hk0⟩ := List.getElem?_of_mem hm
  refine lv_iinc (v := Int32.ofInt (z + n)) (lv' := _) hx hb hd hl.1 hk0 (Int32.ofInt_add z n).symm hn rfl (fun ls1 h1 => ?_)
  exact k H locs ls1 hP hS (LV.set (i := 6) (v := iV (z + n)) rfl hl.2 h1)
theorem pw_iload7 {X : CX} {K : KX} {lay : List PD} {cc : ByteArray} {own : String} {nL : Nat} {ret : Option FieldType} {d : Nat} {cs : Nat × Nat} {Z : State → Prop} {pc : Nat} {st : List Value} {M : Mem} (C : CXok X K lay cc own nL ret d) {a0 a1 a2 a3 a4 a5 a6 : Option Value} {r : List (Option Value)} {z : Int} (hd : decode cc pc = .ok (.iload 7, 2)) (k : PW X K lay nL cs Z (pc + 2) (a0 :: a1 :: a2 :: a3 :: a4 :: a5 :: a6 :: some (iV z) :: r) (iV z :: st) M) :
    PW X K lay nL cs Z pc (a0 :: a1 :: a2 :: a3 :: a4 :: a5 :: a6 :: some (iV z) :: r) st M := by
  obtain ⟨p, l, e, R, s, m, args, below, meth, c, A⟩ := X
  obtain ⟨hx, hb, hml, hown, hts, hK, hinj, hAk, hA, hlk, hrt, hfr, hlo⟩ := C
  intro H locs ls hP hS hl
  exact lv_iload hx hb hd (hl.at (i := 7) rfl) (k H locs ls hP hS hl)
theorem pw_istore7 {X : CX} {K : KX} {lay : List PD} {cc : ByteArray} {own : String} {nL : Nat} {ret : Option FieldType} {d : Nat} {cs : Nat × Nat} {Z : State → Prop} {pc : Nat} {st : List Value} {M : Mem} (C : CXok X K lay cc own nL ret d) {a0 a1 a2 a3 a4 a5 a6 : Option Value} {r : List (Option Value)} {b : Option Value} {z : Int} (hn : 7 < nL) (hd : decode cc pc = .ok (.istore 7, 2)) (k : PW X K lay nL cs Z (pc + 2) (a0 :: a1 :: a2 :: a3 :: a4 :: a5 :: a6 :: some (iV z) :: r) st M) :
    PW X K lay nL cs Z pc (a0 :: a1 :: a2 :: a3 :: a4 :: a5 :: a6 :: b :: r) (iV z :: st) M := by
  obtain ⟨p, l, e, R, s, m, args, below, meth, c, A⟩ := X
  obtain ⟨hx, hb, hml, hown, hts, hK, hinj, hAk, hA, hlk, hrt, hfr, hlo⟩ := C
  intro H locs ls hP hS hl
  refine lv_istore (lv' := _) hx hb hd hl.1 hn rfl (fun ls1 h1 => ?_)
  exact k H locs ls1 hP hS (LV.set (i := 7) (v := iV z) rfl hl.2 h1)
theorem pw_aload7 {X : CX} {K : KX} {lay : List PD} {cc : ByteArray} {own : String} {nL : Nat} {ret : Option FieldType} {d : Nat} {cs : Nat × Nat} {Z : State → Prop} {pc : Nat} {st : List Value} {M : Mem} (C : CXok X K lay cc own nL ret d) {a0 a1 a2 a3 a4 a5 a6 : Option Value} {r : List (Option Value)} {q : Nat} (hd : decode cc pc = .ok (.aload 7, 2)) (k : PW X K lay nL cs Z (pc + 2) (a0 :: a1 :: a2 :: a3 :: a4 :: a5 :: a6 :: some (rV K q) :: r) (rV K q :: st) M) :
    PW X K lay nL cs Z pc (a0 :: a1 :: a2 :: a3 :: a4 :: a5 :: a6 :: some (rV K q) :: r) st M := by
  obtain ⟨p, l, e, R, s, m, args, below, meth, c, A⟩ := X
  obtain ⟨hx, hb, hml, hown, hts, hK, hinj, hAk, hA, hlk, hrt, hfr, hlo⟩ := C
  intro H locs ls hP hS hl
  exact lv_aload hx hb hd (hl.at (i := 7) rfl) (k H locs ls hP hS hl)
theorem pw_astore7 {X : CX} {K : KX} {lay : List PD} {cc : ByteArray} {own : String} {nL : Nat} {ret : Option FieldType} {d : Nat} {cs : Nat × Nat} {Z : State → Prop} {pc : Nat} {st : List Value} {M : Mem} (C : CXok X K lay cc own nL ret d) {a0 a1 a2 a3 a4 a5 a6 : Option Value} {r : List (Option Value)} {b : Option Value} {q : Nat} (hn : 7 < nL) (hd : decode cc pc = .ok (.astore 7, 2)) (k : PW X K lay nL cs Z (pc + 2) (a0 :: a1 :: a2 :: a3 :: a4 :: a5 :: a6 :: some (rV K q) :: r) st M) :
    PW X K lay nL cs Z pc (a0 :: a1 :: a2 :: a3 :: a4 :: a5 :: a6 :: b :: r) (rV K q :: st) M := by
  obtain ⟨p, l, e, R, s, m, args, below, meth, c, A⟩ := X
  obtain ⟨hx, hb, hml, hown, hts, hK, hinj, hAk, hA, hlk, hrt, hfr, hlo⟩ := C
  intro H locs ls hP hS hl
  refine lv_astore (lv' := _) hx hb hd hl.1 hn rfl (fun ls1 h1 => ?_)
  exact k H locs ls1 hP hS (LV.set (i := 7) (v := rV K q) rfl hl.2 h1)
theorem pw_iinc7 {X : CX} {K : KX} {lay : List PD} {cc : ByteArray} {own : String} {nL : Nat} {ret : Option FieldType} {d : Nat} {cs : Nat × Nat} {Z : State → Prop} {pc : Nat} {st : List Value} {M : Mem} (C : CXok X K lay cc own nL ret d) {a0 a1 a2 a3 a4 a5 a6 : Option Value} {r : List (Option Value)} {z n : Int} (hn : 7 < nL) (hd : decode cc pc = .ok (.iinc 7 n, 3)) (k : PW X K lay nL cs Z (pc + 3) (a0 :: a1 :: a2 :: a3 :: a4 :: a5 :: a6 :: some (iV (z + n)) :: r) st M) :
    PW X K lay nL cs Z pc (a0 :: a1 :: a2 :: a3 :: a4 :: a5 :: a6 :: some (iV z) :: r) st M := by
  obtain ⟨p, l, e, R, s, m, args, below, meth, c, A⟩ := X
  obtain ⟨hx, hb, hml, hown, hts, hK, hinj, hAk, hA, hlk, hrt, hfr, hlo⟩ := C
  intro H locs ls hP hS hl
  have hm : (7, iV z) ∈ lvl 0 (a0 :: a1 :: a2 :: a3 :: a4 :: a5 :: a6 :: some (iV z) :: r) := (lvl_mem _ 0 7 _).mpr ⟨7, by omega, rfl⟩
  obtain ⟨k0, hk0⟩ := List.getElem?_of_mem hm
  refine lv_iinc (v := Int32.ofInt (z + n)) (lv' := _) hx hb hd hl.1 hk0 (Int32.ofInt_add z n).symm hn rfl (fun ls1 h1 => ?_)
  exact k H locs ls1 hP hS (LV.set (i := 7) (v := iV (z + n)) rfl hl.2 h1)
theorem pw_iload8 {X : CX} {K : KX} {lay : List PD} {cc : ByteArray} {own : String} {nL : Nat} {ret : Option FieldType} {d : Nat} {cs : Nat × Nat} {Z : State → Prop} {pc : Nat} {st : List Value} {M : Mem} (C : CXok X K lay cc own nL ret d) {a0 a1 a2 a3 a4 a5 a6 a7 : Option Value} {r : List (Option Value)} {z : Int} (hd : decode cc pc = .ok (.iload 8, 2)) (k : PW X K lay nL cs Z (pc + 2) (a0 :: a1 :: a2 :: a3 :: a4 :: a5 :: a6 :: a7 :: some (iV z) :: r) (iV z :: st) M) :
    PW X K lay nL cs Z pc (a0 :: a1 :: a2 :: a3 :: a4 :: a5 :: a6 :: a7 :: some (iV z) :: r) st M := by
  obtain ⟨p, l, e, R, s, m, args, below, meth, c, A⟩ := X
  obtain ⟨hx, hb, hml, hown, hts, hK, hinj, hAk, hA, hlk, hrt, hfr, hlo⟩ := C
  intro H locs ls hP hS hl
  exact lv_iload hx hb hd (hl.at (i := 8) rfl) (k H locs ls hP hS hl)
theorem pw_istore8 {X : CX} {K : KX} {lay : List PD} {cc : ByteArray} {own : String} {nL : Nat} {ret : Option FieldType} {d : Nat} {cs : Nat × Nat} {Z : State → Prop} {pc : Nat} {st : List Value} {M : Mem} (C : CXok X K lay cc own nL ret d) {a0 a1 a2 a3 a4 a5 a6 a7 : Option Value} {r : List (Option Value)} {b : Option Value} {z : Int} (hn : 8 < nL) (hd : decode cc pc = .ok (.istore 8, 2)) (k : PW X K lay nL cs Z (pc + 2) (a0 :: a1 :: a2 :: a3 :: a4 :: a5 :: a6 :: a7 :: some (iV z) :: r) st M) :
    PW X K lay nL cs Z pc (a0 :: a1 :: a2 :: a3 :: a4 :: a5 :: a6 :: a7 :: b :: r) (iV z :: st) M := by
  obtain ⟨p, l, e, R, s, m, args, below, meth, c, A⟩ := X
  obtain ⟨hx, hb, hml, hown, hts, hK, hinj, hAk, hA, hlk, hrt, hfr, hlo⟩ := C
  intro H locs ls hP hS hl
  refine lv_istore (lv' := _) hx hb hd hl.1 hn rfl (fun ls1 h1 => ?_)
  exact k H locs ls1 hP hS (LV.set (i := 8) (v := iV z) rfl hl.2 h1)
theorem pw_aload8 {X : CX} {K : KX} {lay : List PD} {cc : ByteArray} {own : String} {nL : Nat} {ret : Option FieldType} {d : Nat} {cs : Nat × Nat} {Z : State → Prop} {pc : Nat} {st : List Value} {M : Mem} (C : CXok X K lay cc own nL ret d) {a0 a1 a2 a3 a4 a5 a6 a7 : Option Value} {r : List (Option Value)} {q : Nat} (hd : decode cc pc = .ok (.aload 8, 2)) (k : PW X K lay nL cs Z (pc + 2) (a0 :: a1 :: a2 :: a3 :: a4 :: a5 :: a6 :: a7 :: some (rV K q) :: r) (rV K q :: st) M) :
    PW X K lay nL cs Z pc (a0 :: a1 :: a2 :: a3 :: a4 :: a5 :: a6 :: a7 :: some (rV K q) :: r) st M := by
  obtain ⟨p, l, e, R, s, m, args, below, meth, c, A⟩ := X
  obtain ⟨hx, hb, hml, hown, hts, hK, hinj, hAk, hA, hlk, hrt, hfr, hlo⟩ := C
  intro H locs ls hP hS hl
  exact lv_aload hx hb hd (hl.at (i := 8) rfl) (k H locs ls hP hS hl)
theorem pw_astore8 {X : CX} {K : KX} {lay : List PD} {cc : ByteArray} {own : String} {nL : Nat} {ret : Option FieldType} {d : Nat} {cs : Nat × Nat} {Z : State → Prop} {pc : Nat} {st : List Value} {M : Mem} (C : CXok X K lay cc own nL ret d) {a0 a1 a2 a3 a4 a5 a6 a7 : Option Value} {r : List (Option Value)} {b : Option Value} {q : Nat} (hn : 8 < nL) (hd : decode cc pc = .ok (.astore 8, 2)) (k : PW X K lay nL cs Z (pc + 2) (a0 :: a1 :: a2 :: a3 :: a4 :: a5 :: a6 :: a7 :: some (rV K q) :: r) st M) :
    PW X K lay nL cs Z pc (a0 :: a1 :: a2 :: a3 :: a4 :: a5 :: a6 :: a7 :: b :: r) (rV K q :: st) M := by
  obtain ⟨p, l, e, R, s, m, args, below, meth, c, A⟩ := X
  obtain ⟨hx, hb, hml, hown, hts, hK, hinj, hAk, hA, hlk, hrt, hfr, hlo⟩ := C
  intro H locs ls hP hS hl
  refine lv_astore (lv' := _) hx hb hd hl.1 hn rfl (fun ls1 h1 => ?_)
  exact k H locs ls1 hP hS (LV.set (i := 8) (v := rV K q) rfl hl.2 h1)
theorem pw_iinc8 {X : CX} {K : KX} {lay : List PD} {cc : ByteArray} {own : String} {nL : Nat} {ret : Option FieldType} {d : Nat} {cs : Nat × Nat} {Z : State → Prop} {pc : Nat} {st : List Value} {M : Mem} (C : CXok X K lay cc own nL ret d) {a0 a1 a2 a3 a4 a5 a6 a7 : Option Value} {r : List (Option Value)} {z n : Int} (hn : 8 < nL) (hd : decode cc pc = .ok (.iinc 8 n, 3)) (k : PW X K lay nL cs Z (pc + 3) (a0 :: a1 :: a2 :: a3 :: a4 :: a5 :: a6 :: a7 :: some (iV (z + n)) :: r) st M) :
    PW X K lay nL cs Z pc (a0 :: a1 :: a2 :: a3 :: a4 :: a5 :: a6 :: a7 :: some (iV z) :: r) st M := by
  obtain ⟨p, l, e, R, s, m, args, below, meth, c, A⟩ := X
  obtain ⟨hx, hb, hml, hown, hts, hK, hinj, hAk, hA, hlk, hrt, hfr, hlo⟩ := C
  intro H locs ls hP hS hl
  have hm : (8, iV z) ∈ lvl 0 (a0 :: a1 :: a2 :: a3 :: a4 :: a5 :: a6 :: a7 :: some (iV z) :: r) := (lvl_mem _ 0 8 _).mpr ⟨8, by omega, rfl⟩
  obtain ⟨k0, hk0⟩ := List.getElem?_of_mem hm
  refine lv_iinc (v := Int32.ofInt (z + n)) (lv' := _) hx hb hd hl.1 hk0 (Int32.ofInt_add z n).symm hn rfl (fun ls1 h1 => ?_)
  exact k H locs ls1 hP hS (LV.set (i := 8) (v := iV (z + n)) rfl hl.2 h1)
theorem pw_iload9 {X : CX} {K : KX} {lay : List PD} {cc : ByteArray} {own : String} {nL : Nat} {ret : Option FieldType} {d : Nat} {cs : Nat × Nat} {Z : State → Prop} {pc : Nat} {st : List Value} {M : Mem} (C : CXok X K lay cc own nL ret d) {a0 a1 a2 a3 a4 a5 a6 a7 a8 : Option Value} {r : List (Option Value)} {z : Int} (hd : decode cc pc = .ok (.iload 9, 2)) (k : PW X K lay nL cs Z (pc + 2) (a0 :: a1 :: a2 :: a3 :: a4 :: a5 :: a6 :: a7 :: a8 :: some (iV z) :: r) (iV z :: st) M) :
    PW X K lay nL cs Z pc (a0 :: a1 :: a2 :: a3 :: a4 :: a5 :: a6 :: a7 :: a8 :: some (iV z) :: r) st M := by
  obtain ⟨p, l, e, R, s, m, args, below, meth, c, A⟩ := X
  obtain ⟨hx, hb, hml, hown, hts, hK, hinj, hAk, hA, hlk, hrt, hfr, hlo⟩ := C
  intro H locs ls hP hS hl
  exact lv_iload hx hb hd (hl.at (i := 9) rfl) (k H locs ls hP hS hl)
theorem pw_istore9 {X : CX} {K : KX} {lay : List PD} {cc : ByteArray} {own : String} {nL : Nat} {ret : Option FieldType} {d : Nat} {cs : Nat × Nat} {Z : State → Prop} {pc : Nat} {st : List Value} {M : Mem} (C : CXok X K lay cc own nL ret d) {a0 a1 a2 a3 a4 a5 a6 a7 a8 : Option Value} {r : List (Option Value)} {b : Option Value} {z : Int} (hn : 9 < nL) (hd : decode cc pc = .ok (.istore 9, 2)) (k : PW X K lay nL cs Z (pc + 2) (a0 :: a1 :: a2 :: a3 :: a4 :: a5 :: a6 :: a7 :: a8 :: some (iV z) :: r) st M) :
    PW X K lay nL cs Z pc (a0 :: a1 :: a2 :: a3 :: a4 :: a5 :: a6 :: a7 :: a8 :: b :: r) (iV z :: st) M := by
  obtain ⟨p, l, e, R, s, m, args, below, meth, c, A⟩ := X
  obtain ⟨hx, hb, hml, hown, hts, hK, hinj, hAk, hA, hlk, hrt, hfr, hlo⟩ := C
  intro H locs ls hP hS hl
  refine lv_istore (lv' := _) hx hb hd hl.1 hn rfl (fun ls1 h1 => ?_)
  exact k H locs ls1 hP hS (LV.set (i := 9) (v := iV z) rfl hl.2 h1)
theorem pw_aload9 {X : CX} {K : KX} {lay : List PD} {cc : ByteArray} {own : String} {nL : Nat} {ret : Option FieldType} {d : Nat} {cs : Nat × Nat} {Z : State → Prop} {pc : Nat} {st : List Value} {M : Mem} (C : CXok X K lay cc own nL ret d) {a0 a1 a2 a3 a4 a5 a6 a7 a8 : Option Value} {r : List (Option Value)} {q : Nat} (hd : decode cc pc = .ok (.aload 9, 2)) (k : PW X K lay nL cs Z (pc + 2) (a0 :: a1 :: a2 :: a3 :: a4 :: a5 :: a6 :: a7 :: a8 :: some (rV K q) :: r) (rV K q :: st) M) :
    PW X K lay nL cs Z pc (a0 :: a1 :: a2 :: a3 :: a4 :: a5 :: a6 :: a7 :: a8 :: some (rV K q) :: r) st M := by
  obtain ⟨p, l, e, R, s, m, args, below, meth, c, A⟩ := X
  obtain ⟨hx, hb, hml, hown, hts, hK, hinj, hAk, hA, hlk, hrt, hfr, hlo⟩ := C
  intro H locs ls hP hS hl
  exact lv_aload hx hb hd (hl.at (i := 9) rfl) (k H locs ls hP hS hl)
theorem pw_astore9 {X : CX} {K : KX} {lay : List PD} {cc : ByteArray} {own : String} {nL : Nat} {ret : Option FieldType} {d : Nat} {cs : Nat × Nat} {Z : State → Prop} {pc : Nat} {st : List Value} {M : Mem} (C : CXok X K lay cc own nL ret d) {a0 a1 a2 a3 a4 a5 a6 a7 a8 : Option Value} {r : List (Option Value)} {b : Option Value} {q : Nat} (hn : 9 < nL) (hd : decode cc pc = .ok (.astore 9, 2)) (k : PW X K lay nL cs Z (pc + 2) (a0 :: a1 :: a2 :: a3 :: a4 :: a5 :: a6 :: a7 :: a8 :: some (rV K q) :: r) st M) :
    PW X K lay nL cs Z pc (a0 :: a1 :: a2 :: a3 :: a4 :: a5 :: a6 :: a7 :: a8 :: b :: r) (rV K q :: st) M := by
  obtain ⟨p, l, e, R, s, m, args, below, meth, c, A⟩ := X
  obtain ⟨hx, hb, hml, hown, hts, hK, hinj, hAk, hA, hlk, hrt, hfr, hlo⟩ := C
  intro H locs ls hP hS hl
  refine lv_astore (lv' := _) hx hb hd hl.1 hn rfl (fun ls1 h1 => ?_)
  exact k H locs ls1 hP hS (LV.set (i := 9) (v := rV K q) rfl hl.2 h1)
theorem pw_iinc9 {X : CX} {K : KX} {lay : List PD} {cc : ByteArray} {own : String} {nL : Nat} {ret : Option FieldType} {d : Nat} {cs : Nat × Nat} {Z : State → Prop} {pc : Nat} {st : List Value} {M : Mem} (C : CXok X K lay cc own nL ret d) {a0 a1 a2 a3 a4 a5 a6 a7 a8 : Option Value} {r : List (Option Value)} {z n : Int} (hn : 9 < nL) (hd : decode cc pc = .ok (.iinc 9 n, 3)) (k : PW X K lay nL cs Z (pc + 3) (a0 :: a1 :: a2 :: a3 :: a4 :: a5 :: a6 :: a7 :: a8 :: some (iV (z + n)) :: r) st M) :
    PW X K lay nL cs Z pc (a0 :: a1 :: a2 :: a3 :: a4 :: a5 :: a6 :: a7 :: a8 :: some (iV z) :: r) st M := by
  obtain ⟨p, l, e, R, s, m, args, below, meth, c, A⟩ := X
  obtain ⟨hx, hb, hml, hown, hts, hK, hinj, hAk, hA, hlk, hrt, hfr, hlo⟩ := C
  intro H locs ls hP hS hl
  have hm : (9, iV z) ∈ lvl 0 (a0 :: a1 :: a2 :: a3 :: a4 :: a5 :: a6 :: a7 :: a8 :: some (iV z) :: r) := (lvl_mem _ 0 9 _).mpr ⟨9, by omega, rfl⟩
  obtain ⟨k0, hk0⟩ := List.getElem?_of_mem hm
  refine lv_iinc (v := Int32.ofInt (z + n)) (lv' := _) hx hb hd hl.1 hk0 (Int32.ofInt_add z n).symm hn rfl (fun ls1 h1 => ?_)
  exact k H locs ls1 hP hS (LV.set (i := 9) (v := iV (z + n)) rfl hl.2 h1)
theorem pw_iload10 {X : CX} {K : KX} {lay : List PD} {cc : ByteArray} {own : String} {nL : Nat} {ret : Option FieldType} {d : Nat} {cs : Nat × Nat} {Z : State → Prop} {pc : Nat} {st : List Value} {M : Mem} (C : CXok X K lay cc own nL ret d) {a0 a1 a2 a3 a4 a5 a6 a7 a8 a9 : Option Value} {r : List (Option Value)} {z : Int} (hd : decode cc pc = .ok (.iload 10, 2)) (k : PW X K lay nL cs Z (pc + 2) (a0 :: a1 :: a2 :: a3 :: a4 :: a5 :: a6 :: a7 :: a8 :: a9 :: some (iV z) :: r) (iV z :: st) M) :
    PW X K lay nL cs Z pc (a0 :: a1 :: a2 :: a3 :: a4 :: a5 :: a6 :: a7 :: a8 :: a9 :: some (iV z) :: r) st M := by
  obtain ⟨p, l, e, R, s, m, args, below, meth, c, A⟩ := X
  obtain ⟨hx, hb, hml, hown, hts, hK, hinj, hAk, hA, hlk, hrt, hfr, hlo⟩ := C
  intro H locs ls hP hS hl
  exact lv_iload hx hb hd (hl.at (i := 10) rfl) (k H locs ls hP hS hl)
theorem pw_istore10 {X : CX} {K : KX} {lay : List PD} {cc : ByteArray} {own : String} {nL : Nat} {ret : Option FieldType} {d : Nat} {cs : Nat × Nat} {Z : State → Prop} {pc : Nat} {st : List Value} {M : Mem} (C : CXok X K lay cc own nL ret d) {a0 a1 a2 a3 a4 a5 a6 a7 a8 a9 : Option Value} {r : List (Option Value)} {b : Option Value} {z : Int} (hn : 10 < nL) (hd : decode cc pc = .ok (.istore 10, 2)) (k : PW X K lay nL cs Z (pc + 2) (a0 :: a1 :: a2 :: a3 :: a4 :: a5 :: a6 :: a7 :: a8 :: a9 :: some (iV z) :: r) st M) :
    PW X K lay nL cs Z pc (a0 :: a1 :: a2 :: a3 :: a4 :: a5 :: a6 :: a7 :: a8 :: a9 :: b :: r) (iV z :: st) M := by
  obtain ⟨p, l, e, R, s, m, args, below, meth, c, A⟩ := X
  obtain ⟨hx, hb, hml, hown, hts, hK, hinj, hAk, hA, hlk, hrt, hfr, hlo⟩ := C
  intro H locs ls hP hS hl
  refine lv_istore (lv' := _) hx hb hd hl.1 hn rfl (fun ls1 h1 => ?_)
  exact k H locs ls1 hP hS (LV.set (i := 10) (v := iV z) rfl hl.2 h1)
theorem pw_aload10 {X : CX} {K : KX} {lay : List PD} {cc : ByteArray} {own : String} {nL : Nat} {ret : Option FieldType} {d : Nat} {cs : Nat × Nat} {Z : State → Prop} {pc : Nat} {st : List Value} {M : Mem} (C : CXok X K lay cc own nL ret d) {a0 a1 a2 a3 a4 a5 a6 a7 a8 a9 : Option Value} {r : List (Option Value)} {q : Nat} (hd : decode cc pc = .ok (.aload 10, 2)) (k : PW X K lay nL cs Z (pc + 2) (a0 :: a1 :: a2 :: a3 :: a4 :: a5 :: a6 :: a7 :: a8 :: a9 :: some (rV K q) :: r) (rV K q :: st) M) :
    PW X K lay nL cs Z pc (a0 :: a1 :: a2 :: a3 :: a4 :: a5 :: a6 :: a7 :: a8 :: a9 :: some (rV K q) :: r) st M := by
  obtain ⟨p, l, e, R, s, m, args, below, meth, c, A⟩ := X
  obtain ⟨hx, hb, hml, hown, hts, hK, hinj, hAk, hA, hlk, hrt, hfr, hlo⟩ := C
  intro H locs ls hP hS hl
  exact lv_aload hx hb hd (hl.at (i := 10) rfl) (k H locs ls hP hS hl)
theorem pw_astore10 {X : CX} {K : KX} {lay : List PD} {cc : ByteArray} {own : String} {nL : Nat} {ret : Option FieldType} {d : Nat} {cs : Nat × Nat} {Z : State → Prop} {pc : Nat} {st : List Value} {M : Mem} (C : CXok X K lay cc own nL ret d) {a0 a1 a2 a3 a4 a5 a6 a7 a8 a9 : Option Value} {r : List (Option Value)} {b : Option Value} {q : Nat} (hn : 10 < nL) (hd : decode cc pc = .ok (.astore 10, 2)) (k : PW X K lay nL cs Z (pc + 2) (a0 :: a1 :: a2 :: a3 :: a4 :: a5 :: a6 :: a7 :: a8 :: a9 :: some (rV K q) :: r) st M) :
    PW X K lay nL cs Z pc (a0 :: a1 :: a2 :: a3 :: a4 :: a5 :: a6 :: a7 :: a8 :: a9 :: b :: r) (rV K q :: st) M := by
  obtain ⟨p, l, e, R, s, m, args, below, meth, c, A⟩ := X
  obtain ⟨hx, hb, hml, hown, hts, hK, hinj, hAk, hA, hlk, hrt, hfr, hlo⟩ := C
  intro H locs ls hP hS hl
  refine lv_astore (lv' := _) hx hb hd hl.1 hn rfl (fun ls1 h1 => ?_)
  exact k H locs ls1 hP hS (LV.set (i := 10) (v := rV K q) rfl hl.2 h1)
theorem pw_iinc10 {X : CX} {K : KX} {lay : List PD} {cc : ByteArray} {own : String} {nL : Nat} {ret : Option FieldType} {d : Nat} {cs : Nat × Nat} {Z : State → Prop} {pc : Nat} {st : List Value} {M : Mem} (C : CXok X K lay cc own nL ret d) {a0 a1 a2 a3 a4 a5 a6 a7 a8 a9 : Option Value} {r : List (Option Value)} {z n : Int} (hn : 10 < nL) (hd : decode cc pc = .ok (.iinc 10 n, 3)) (k : PW X K lay nL cs Z (pc + 3) (a0 :: a1 :: a2 :: a3 :: a4 :: a5 :: a6 :: a7 :: a8 :: a9 :: some (iV (z + n)) :: r) st M) :
    PW X K lay nL cs Z pc (a0 :: a1 :: a2 :: a3 :: a4 :: a5 :: a6 :: a7 :: a8 :: a9 :: some (iV z) :: r) st M := by
  obtain ⟨p, l, e, R, s, m, args, below, meth, c, A⟩ := X
  obtain ⟨hx, hb, hml, hown, hts, hK, hinj, hAk, hA, hlk, hrt, hfr, hlo⟩ := C
  intro H locs ls hP hS hl
  have hm : (10, iV z) ∈ lvl 0 (a0 :: a1 :: a2 :: a3 :: a4 :: a5 :: a6 :: a7 :: a8 :: a9 :: some (iV z) :: r) := (lvl_mem _ 0 10 _).mpr ⟨10, by omega, rfl⟩
  obtain ⟨k0, hk0⟩ := List.getElem?_of_mem hm
  refine lv_iinc (v := Int32.ofInt (z + n)) (lv' := _) hx hb hd hl.1 hk0 (Int32.ofInt_add z n).symm hn rfl (fun ls1 h1 => ?_)
  exact k H locs ls1 hP hS (LV.set (i := 10) (v := iV (z + n)) rfl hl.2 h1)
theorem pw_iload11 {X : CX} {K : KX} {lay : List PD} {cc : ByteArray} {own : String} {nL : Nat} {ret : Option FieldType} {d : Nat} {cs : Nat × Nat} {Z : State → Prop} {pc : Nat} {st : List Value} {M : Mem} (C : CXok X K lay cc own nL ret d) {a0 a1 a2 a3 a4 a5 a6 a7 a8 a9 a10 : Option Value} {r : List (Option Value)} {z : Int} (hd : decode cc pc = .ok (.iload 11, 2)) (k : PW X K lay nL cs Z (pc + 2) (a0 :: a1 :: a2 :: a3 :: a4 :: a5 :: a6 :: a7 :: a8 :: a9 :: a10 :: some (iV z) :: r) (iV z :: st) M) :
    PW X K lay nL cs Z pc (a0 :: a1 :: a2 :: a3 :: a4 :: a5 :: a6 :: a7 :: a8 :: a9 :: a10 :: some (iV z) :: r) st M := by
  obtain ⟨p, l, e, R, s, m, args, below, meth, c, A⟩ := X
  obtain ⟨hx, hb, hml, hown, hts, hK, hinj, hAk, hA, hlk, hrt, hfr, hlo⟩ := C
  intro H locs ls hP hS hl
  exact lv_iload hx hb hd (hl.at (i := 11) rfl) (k H locs ls hP hS hl)
theorem pw_istore11 {X : CX} {K : KX} {lay : List PD} {cc : ByteArray} {own : String} {nL : Nat} {ret : Option FieldType} {d : Nat} {cs : Nat × Nat} {Z : State → Prop} {pc : Nat} {st : List Value} {M : Mem} (C : CXok X K lay cc own nL ret d) {a0 a1 a2 a3 a4 a5 a6 a7 a8 a9 a10 : Option Value} {r : List (Option Value)} {b : Option Value} {z : Int} (hn : 11 < nL) (hd : decode cc pc = .ok (.istore 11, 2)) (k : PW X K lay nL cs Z (pc + 2) (a0 :: a1 :: a2 :: a3 :: a4 :: a5 :: a6 :: a7 :: a8 :: a9 :: a10 :: some (iV z) :: r) st M) :
    PW X K lay nL cs Z pc (a0 :: a1 :: a2 :: a3 :: a4 :: a5 :: a6 :: a7 :: a8 :: a9 :: a10 :: b :: r) (iV z :: st) M := by
  obtain ⟨p, l, e, R, s, m, args, below, meth, c, A⟩ := X
  obtain ⟨hx, hb, hml, hown, hts, hK, hinj, hAk, hA, hlk, hrt, hfr, hlo⟩ := C
  intro H locs ls hP hS hl
  refine lv_istore (lv' := _) hx hb hd hl.1 hn rfl (fun ls1 h1 => ?_)
  exact k H locs ls1 hP hS (LV.set (i := 11) (v := iV z) rfl hl.2 h1)
theorem pw_aload11 {X : CX} {K : KX} {lay : List PD} {cc : ByteArray} {own : String} {nL : Nat} {ret : Option FieldType} {d : Nat} {cs : Nat × Nat} {Z : State → Prop} {pc : Nat} {st : List Value} {M : Mem} (C : CXok X K lay cc own nL ret d) {a0 a1 a2 a3 a4 a5 a6 a7 a8 a9 a10 : Option Value} {r : List (Option Value)} {q : Nat} (hd : decode cc pc = .ok (.aload 11, 2)) (k : PW X K lay nL cs Z (pc + 2) (a0 :: a1 :: a2 :: a3 :: a4 :: a5 :: a6 :: a7 :: a8 :: a9 :: a10 :: some (rV K q) :: r) (rV K q :: st) M) :
    PW X K lay nL cs Z pc (a0 :: a1 :: a2 :: a3 :: a4 :: a5 :: a6 :: a7 :: a8 :: a9 :: a10 :: some (rV K q) :: r) st M := by
  obtain ⟨p, l, e, R, s, m, args, below, meth, c, A⟩ := X
  obtain ⟨hx, hb, hml, hown, hts, hK, hinj, hAk, hA, hlk, hrt, hfr, hlo⟩ := C
  intro H locs ls hP hS hl
  exact lv_aload hx hb hd (hl.at (i := 11) rfl) (k H locs ls hP hS hl)
theorem pw_astore11 {X : CX} {K : KX} {lay : List PD} {cc : ByteArray} {own : String} {nL : Nat} {ret : Option FieldType} {d : Nat} {cs : Nat × Nat} {Z : State → Prop} {pc : Nat} {st : List Value} {M : Mem} (C : CXok X K lay cc own nL ret d) {a0 a1 a2 a3 a4 a5 a6 a7 a8 a9 a10 : Option Value} {r : List (Option Value)} {b : Option Value} {q : Nat} (hn : 11 < nL) (hd : decode cc pc = .ok (.astore 11, 2)) (k : PW X K lay nL cs Z (pc + 2) (a0 :: a1 :: a2 :: a3 :: a4 :: a5 :: a6 :: a7 :: a8 :: a9 :: a10 :: some (rV K q) :: r) st M) :
    PW X K lay nL cs Z pc (a0 :: a1 :: a2 :: a3 :: a4 :: a5 :: a6 :: a7 :: a8 :: a9 :: a10 :: b :: r) (rV K q :: st) M := by
  obtain ⟨p, l, e, R, s, m, args, below, meth, c, A⟩ := X
  obtain ⟨hx, hb, hml, hown, hts, hK, hinj, hAk, hA, hlk, hrt, hfr, hlo⟩ := C
  intro H locs ls hP hS hl
  refine lv_astore (lv' := _) hx hb hd hl.1 hn rfl (fun ls1 h1 => ?_)
  exact k H locs ls1 hP hS (LV.set (i := 11) (v := rV K q) rfl hl.2 h1)
theorem pw_iinc11 {X : CX} {K : KX} {lay : List PD} {cc : ByteArray} {own : String} {nL : Nat} {ret : Option FieldType} {d : Nat} {cs : Nat × Nat} {Z : State → Prop} {pc : Nat} {st : List Value} {M : Mem} (C : CXok X K lay cc own nL ret d) {a0 a1 a2 a3 a4 a5 a6 a7 a8 a9 a10 : Option Value} {r : List (Option Value)} {z n : Int} (hn : 11 < nL) (hd : decode cc pc = .ok (.iinc 11 n, 3)) (k : PW X K lay nL cs Z (pc + 3) (a0 :: a1 :: a2 :: a3 :: a4 :: a5 :: a6 :: a7 :: a8 :: a9 :: a10 :: some (iV (z + n)) :: r) st M) :
    PW X K lay nL cs Z pc (a0 :: a1 :: a2 :: a3 :: a4 :: a5 :: a6 :: a7 :: a8 :: a9 :: a10 :: some (iV z) :: r) st M := by
  obtain ⟨p, l, e, R, s, m, args, below, meth, c, A⟩ := X
  obtain ⟨hx, hb, hml, hown, hts, hK, hinj, hAk, hA, hlk, hrt, hfr, hlo⟩ := C
  intro H locs ls hP hS hl
  have hm : (11, iV z) ∈ lvl 0 (a0 :: a1 :: a2 :: a3 :: a4 :: a5 :: a6 :: a7 :: a8 :: a9 :: a10 :: some (iV z) :: r) := (lvl_mem _ 0 11 _).mpr ⟨11, by omega, rfl⟩
  obtain ⟨k0, hk0⟩ := List.getElem?_of_mem hm
  refine lv_iinc (v := Int32.ofInt (z + n)) (lv' := _) hx hb hd hl.1 hk0 (Int32.ofInt_add z n).symm hn rfl (fun ls1 h1 => ?_)
  exact k H locs ls1 hP hS (LV.set (i := 11) (v := iV (z + n)) rfl hl.2 h1)
theorem pw_iload12 {X : CX} {K : KX} {lay : List PD} {cc : ByteArray} {own : String} {nL : Nat} {ret : Option FieldType} {d : Nat} {cs : Nat × Nat} {Z : State → Prop} {pc : Nat} {st : List Value} {M : Mem} (C : CXok X K lay cc own nL ret d) {a0 a1 a2 a3 a4 a5 a6 a7 a8 a9 a10 a11 : Option Value} {r : List (Option Value)} {z : Int} (hd : decode cc pc = .ok (.iload 12, 2)) (k : PW X K lay nL cs Z (pc + 2) (a0 :: a1 :: a2 :: a3 :: a4 :: a5 :: a6 :: a7 :: a8 :: a9 :: a10 :: a11 :: some (iV z) :: r) (iV z :: st) M) :
    PW X K lay nL cs Z pc (a0 :: a1 :: a2 :: a3 :: a4 :: a5 :: a6 :: a7 :: a8 :: a9 :: a10 :: a11 :: some (iV z) :: r) st M := by
  obtain ⟨p, l, e, R, s, m, args, below, meth, c, A⟩ := X
  obtain ⟨hx, hb, hml, hown, hts, hK, hinj, hAk, hA, hlk, hrt, hfr, hlo⟩ := C
  intro H locs ls hP hS hl
  exact lv_iload hx hb hd (hl.at (i := 12) rfl) (k H locs ls hP hS hl)
theorem pw_istore12 {X : CX} {K : KX} {lay : List PD} {cc : ByteArray} {own : String} {nL : Nat} {ret : Option FieldType} {d : Nat} {cs : Nat × Nat} {Z : State → Prop} {pc : Nat} {st : List Value} {M : Mem} (C : CXok X K lay cc own nL ret d) {a0 a1 a2 a3 a4 a5 a6 a7 a8 a9 a10 a11 : Option Value} {r : List (Option Value)} {b : Option Value} {z : Int} (hn : 12 < nL) (hd : decode cc pc = .ok (.istore 12, 2)) (k : PW X K lay nL cs Z (pc + 2) (a0 :: a1 :: a2 :: a3 :: a4 :: a5 :: a6 :: a7 :: a8 :: a9 :: a10 :: a11 :: some (iV z) :: r) st M) :
    PW X K lay nL cs Z pc (a0 :: a1 :: a2 :: a3 :: a4 :: a5 :: a6 :: a7 :: a8 :: a9 :: a10 :: a11 :: b :: r) (iV z :: st) M := by
  obtain ⟨p, l, e, R, s, m, args, below, meth, c, A⟩ := X
  obtain ⟨hx, hb, hml, hown, hts, hK, hinj, hAk, hA, hlk, hrt, hfr, hlo⟩ := C
  intro H locs ls hP hS hl
  refine lv_istore (lv' := _) hx hb hd hl.1 hn rfl (fun ls1 h1 => ?_)
  exact k H locs ls1 hP hS (LV.set (i := 12) (v := iV z) rfl hl.2 h1)
theorem pw_aload12 {X : CX} {K : KX} {lay : List PD} {cc : ByteArray} {own : String} {nL : Nat} {ret : Option FieldType} {d : Nat} {cs : Nat × Nat} {Z : State → Prop} {pc : Nat} {st : List Value} {M : Mem} (C : CXok X K lay cc own nL ret d) {a0 a1 a2 a3 a4 a5 a6 a7 a8 a9 a10 a11 : Option Value} {r : List (Option Value)} {q : Nat} (hd : decode cc pc = .ok (.aload 12, 2)) (k : PW X K lay nL cs Z (pc + 2) (a0 :: a1 :: a2 :: a3 :: a4 :: a5 :: a6 :: a7 :: a8 :: a9 :: a10 :: a11 :: some (rV K q) :: r) (rV K q :: st) M) :
    PW X K lay nL cs Z pc (a0 :: a1 :: a2 :: a3 :: a4 :: a5 :: a6 :: a7 :: a8 :: a9 :: a10 :: a11 :: some (rV K q) :: r) st M := by
  obtain ⟨p, l, e, R, s, m, args, below, meth, c, A⟩ := X
  obtain ⟨hx, hb, hml, hown, hts, hK, hinj, hAk, hA, hlk, hrt, hfr, hlo⟩ := C
  intro H locs ls hP hS hl
  exact lv_aload hx hb hd (hl.at (i := 12) rfl) (k H locs ls hP hS hl)
theorem pw_astore12 {X : CX} {K : KX} {lay : List PD} {cc : ByteArray} {own : String} {nL : Nat} {ret : Option FieldType} {d : Nat} {cs : Nat × Nat} {Z : State → Prop} {pc : Nat} {st : List Value} {M : Mem} (C : CXok X K lay cc own nL ret d) {a0 a1 a2 a3 a4 a5 a6 a7 a8 a9 a10 a11 : Option Value} {r : List (Option Value)} {b : Option Value} {q : Nat} (hn : 12 < nL) (hd : decode cc pc = .ok (.astore 12, 2)) (k : PW X K lay nL cs Z (pc + 2) (a0 :: a1 :: a2 :: a3 :: a4 :: a5 :: a6 :: a7 :: a8 :: a9 :: a10 :: a11 :: some (rV K q) :: r) st M) :
    PW X K lay nL cs Z pc (a0 :: a1 :: a2 :: a3 :: a4 :: a5 :: a6 :: a7 :: a8 :: a9 :: a10 :: a11 :: b :: r) (rV K q :: st) M := by
  obtain ⟨p, l, e, R, s, m, args, below, meth, c, A⟩ := X
  obtain ⟨hx, hb, hml, hown, hts, hK, hinj, hAk, hA, hlk, hrt, hfr, hlo⟩ := C
  intro H locs ls hP hS hl
  refine lv_astore (lv' := _) hx hb hd hl.1 hn rfl (fun ls1 h1 => ?_)
  exact k H locs ls1 hP hS (LV.set (i := 12) (v := rV K q) rfl hl.2 h1)
theorem pw_iinc12 {X : CX} {K : KX} {lay : List PD} {cc : ByteArray} {own : String} {nL : Nat} {ret : Option FieldType} {d : Nat} {cs : Nat × Nat} {Z : State → Prop} {pc : Nat} {st : List Value} {M : Mem} (C : CXok X K lay cc own nL ret d) {a0 a1 a2 a3 a4 a5 a6 a7 a8 a9 a10 a11 : Option Value} {r : List (Option Value)} {z n : Int} (hn : 12 < nL) (hd : decode cc pc = .ok (.iinc 12 n, 3)) (k : PW X K lay nL cs Z (pc + 3) (a0 :: a1 :: a2 :: a3 :: a4 :: a5 :: a6 :: a7 :: a8 :: a9 :: a10 :: a11 :: some (iV (z + n)) :: r) st M) :
    PW X K lay nL cs Z pc (a0 :: a1 :: a2 :: a3 :: a4 :: a5 :: a6 :: a7 :: a8 :: a9 :: a10 :: a11 :: some (iV z) :: r) st M := by
  obtain ⟨p, l, e, R, s, m, args, below, meth, c, A⟩ := X
  obtain ⟨hx, hb, hml, hown, hts, hK, hinj, hAk, hA, hlk, hrt, hfr, hlo⟩ := C
  intro H locs ls hP hS hl
  have hm : (12, iV z) ∈ lvl 0 (a0 :: a1 :: a2 :: a3 :: a4 :: a5 :: a6 :: a7 :: a8 :: a9 :: a10 :: a11 :: some (iV z) :: r) := (lvl_mem _ 0 12 _).mpr ⟨12, by omega, rfl⟩
  obtain ⟨k0, hk0⟩ := List.getElem?_of_mem hm
  refine lv_iinc (v := Int32.ofInt (z + n)) (lv' := _) hx hb hd hl.1 hk0 (Int32.ofInt_add z n).symm hn rfl (fun ls1 h1 => ?_)
  exact k H locs ls1 hP hS (LV.set (i := 12) (v := iV (z + n)) rfl hl.2 h1)
theorem pw_iload13 {X : CX} {K : KX} {lay : List PD} {cc : ByteArray} {own : String} {nL : Nat} {ret : Option FieldType} {d : Nat} {cs : Nat × Nat} {Z : State → Prop} {pc : Nat} {st : List Value} {M : Mem} (C : CXok X K lay cc own nL ret d) {a0 a1 a2 a3 a4 a5 a6 a7 a8 a9 a10 a11 a12 : Option Value} {r : List (Option Value)} {z : Int} (hd : decode cc pc = .ok (.iload 13, 2)) (k : PW X K lay nL cs Z (pc + 2) (a0 :: a1 :: a2 :: a3 :: a4 :: a5 :: a6 :: a7 :: a8 :: a9 :: a10 :: a11 :: a12 :: some (iV z) :: r) (iV z :: st) M) :
    PW X K lay nL cs Z pc (a0 :: a1 :: a2 :: a3 :: a4 :: a5 :: a6 :: a7 :: a8 :: a9 :: a10 :: a11 :: a12 :: some (iV z) :: r) st M := by
  obtain ⟨p, l, e, R, s, m, args, below, meth, c, A⟩ := X
  obtain ⟨hx, hb, hml, hown, hts, hK, hinj, hAk, hA, hlk, hrt, hfr, hlo⟩ := C
  intro H locs ls hP hS hl
  exact lv_iload hx hb hd (hl.at (i := 13) rfl) (k H locs ls hP hS hl)
theorem pw_istore13 {X : CX} {K : KX} {lay : List PD} {cc : ByteArray} {own : String} {nL : Nat} {ret : Option FieldType} {d : Nat} {cs : Nat × Nat} {Z : State → Prop} {pc : Nat} {st : List Value} {M : Mem} (C : CXok X K lay cc own nL ret d) {a0 a1 a2 a3 a4 a5 a6 a7 a8 a9 a10 a11 a12 : Option Value} {r : List (Option Value)} {b : Option Value} {z : Int} (hn : 13 < nL) (hd : decode cc pc = .ok (.istore 13, 2)) (k : PW X K lay nL cs Z (pc + 2) (a0 :: a1 :: a2 :: a3 :: a4 :: a5 :: a6 :: a7 :: a8 :: a9 :: a10 :: a11 :: a12 :: some (iV z) :: r) st M) :
    PW X K lay nL cs Z pc (a0 :: a1 :: a2 :: a3 :: a4 :: a5 :: a6 :: a7 :: a8 :: a9 :: a10 :: a11 :: a12 :: b :: r) (iV z :: st) M := by
  obtain ⟨p, l, e, R, s, m, args, below, meth, c, A⟩ := X
  obtain ⟨hx, hb, hml, hown, hts, hK, hinj, hAk, hA, hlk, hrt, hfr, hlo⟩ := C
  intro H locs ls hP hS hl
  refine lv_istore (lv' := _) hx hb hd hl.1 hn rfl (fun ls1 h1 => ?_)
  exact k H locs ls1 hP hS (LV.set (i := 13) (v := iV z) rfl hl.2 h1)
theorem pw_aload13 {X : CX} {K : KX} {lay : List PD} {cc : ByteArray} {own : String} {nL : Nat} {ret : Option FieldType} {d : Nat} {cs : Nat × Nat} {Z : State → Prop} {pc : Nat} {st : List Value} {M : Mem} (C : CXok X K lay cc own nL ret d) {a0 a1 a2 a3 a4 a5 a6 a7 a8 a9 a10 a11 a12 : Option Value} {r : List (Option Value)} {q : Nat} (hd : decode cc pc = .ok (.aload 13, 2)) (k : PW X K lay nL cs Z (pc + 2) (a0 :: a1 :: a2 :: a3 :: a4 :: a5 :: a6 :: a7 :: a8 :: a9 :: a10 :: a11 :: a12 :: some (rV K q) :: r) (rV K q :: st) M) :
    PW X K lay nL cs Z pc (a0 :: a1 :: a2 :: a3 :: a4 :: a5 :: a6 :: a7 :: a8 :: a9 :: a10 :: a11 :: a12 :: some (rV K q) :: r) st M := by
  obtain ⟨p, l, e, R, s, m, args, below, meth, c, A⟩ := X
  obtain ⟨hx, hb, hml, hown, hts, hK, hinj, hAk, hA, hlk, hrt, hfr, hlo⟩ := C
  intro H locs ls hP hS hl
  exact lv_aload hx hb hd (hl.at (i := 13) rfl) (k H locs ls hP hS hl)
theorem pw_astore13 {X : CX} {K : KX} {lay : List PD} {cc : ByteArray} {own : String} {nL : Nat} {ret : Option FieldType} {d : Nat} {cs : Nat × Nat} {Z : State → Prop} {pc : Nat} {st : List Value} {M : Mem} (C : CXok X K lay cc own nL ret d) {a0 a1 a2 a3 a4 a5 a6 a7 a8 a9 a10 a11 a12 : Option Value} {r : List (Option Value)} {b : Option Value} {q : Nat} (hn : 13 < nL) (hd : decode cc pc = .ok (.astore 13, 2)) (k : PW X K lay nL cs Z (pc + 2) (a0 :: a1 :: a2 :: a3 :: a4 :: a5 :: a6 :: a7 :: a8 :: a9 :: a10 :: a11 :: a12 :: some (rV K q) :: r) st M) :
    PW X K lay nL cs Z pc (a0 :: a1 :: a2 :: a3 :: a4 :: a5 :: a6 :: a7 :: a8 :: a9 :: a10 :: a11 :: a12 :: b :: r) (rV K q :: st) M := by
  obtain ⟨p, l, e, R, s, m, args, below, meth, c, A⟩ := X
  obtain ⟨hx, hb, hml, hown, hts, hK, hinj, hAk, hA, hlk, hrt, hfr, hlo⟩ := C
  intro H locs ls hP hS hl
  refine lv_astore (lv' := _) hx hb hd hl.1 hn rfl (fun ls1 h1 => ?_)
  exact k H locs ls1 hP hS (LV.set (i := 13) (v := rV K q) rfl hl.2 h1)
theorem pw_iinc13 {X : CX} {K : KX} {lay : List PD} {cc : ByteArray} {own : String} {nL : Nat} {ret : Option FieldType} {d : Nat} {cs : Nat × Nat} {Z : State → Prop} {pc : Nat} {st : List Value} {M : Mem} (C : CXok X K lay cc own nL ret d) {a0 a1 a2 a3 a4 a5 a6 a7 a8 a9 a10 a11 a12 : Option Value} {r : List (Option Value)} {z n : Int} (hn : 13 < nL) (hd : decode cc pc = .ok (.iinc 13 n, 3)) (k : PW X K lay nL cs Z (pc + 3) (a0 :: a1 :: a2 :: a3 :: a4 :: a5 :: a6 :: a7 :: a8 :: a9 :: a10 :: a11 :: a12 :: some (iV (z + n)) :: r) st M) :
    PW X K lay nL cs Z pc (a0 :: a1 :: a2 :: a3 :: a4 :: a5 :: a6 :: a7 :: a8 :: a9 :: a10 :: a11 :: a12 :: some (iV z) :: r) st M := by
  obtain ⟨p, l, e, R, s, m, args, below, meth, c, A⟩ := X
  obtain ⟨hx, hb, hml, hown, hts, hK, hinj, hAk, hA, hlk, hrt, hfr, hlo⟩ := C
  intro H locs ls hP hS hl
  have hm : (13, iV z) ∈ lvl 0 (a0 :: a1 :: a2 :: a3 :: a4 :: a5 :: a6 :: a7 :: a8 :: a9 :: a10 :: a11 :: a12 :: some (iV z) :: r) := (lvl_mem _ 0 13 _).mpr ⟨13, by omega, rfl⟩
  obtain ⟨k0, hk0⟩ := List.getElem?_of_mem hm
  refine lv_iinc (v := Int32.ofInt (z + n)) (lv' := _) hx hb hd hl.1 hk0 (Int32.ofInt_add z n).symm hn rfl (fun ls1 h1 => ?_)
  exact k H locs ls1 hP hS (LV.set (i := 13) (v := iV (z + n)) rfl hl.2 h1)
theorem pw_iload14 {X : CX} {K : KX} {lay : List PD} {cc : ByteArray} {own : String} {nL : Nat} {ret : Option FieldType} {d : Nat} {cs : Nat × Nat} {Z : State → Prop} {pc : Nat} {st : List Value} {M : Mem} (C : CXok X K lay cc own nL ret d) {a0 a1 a2 a3 a4 a5 a6 a7 a8 a9 a10 a11 a12 a13 : Option Value} {r : List (Option Value)} {z : Int} (hd : decode cc pc = .ok (.iload 14, 2)) (k : PW X K lay nL cs Z (pc + 2) (a0 :: a1 :: a2 :: a3 :: a4 :: a5 :: a6 :: a7 :: a8 :: a9 :: a10 :: a11 :: a12 :: a13 :: some (iV z) :: r) (iV z :: st) M) :
    PW X K lay nL cs Z pc (a0 :: a1 :: a2 :: a3 :: a4 :: a5 :: a6 :: a7 :: a8 :: a9 :: a10 :: a11 :: a12 :: a13 :: some (iV z) :: r) st M := by
  obtain ⟨p, l, e, R, s, m, args, below, meth, c, A⟩ := X
  obtain ⟨hx, hb, hml, hown, hts, hK, hinj, hAk, hA, hlk, hrt, hfr, hlo⟩ := C
  intro H locs ls hP hS hl
  exact lv_iload hx hb hd (hl.at (i := 14) rfl) (k H locs ls hP hS hl)
theorem pw_istore14 {X : CX} {K : KX} {lay : List PD} {cc : ByteArray} {own : String} {nL : Nat} {ret : Option FieldType} {d : Nat} {cs : Nat × Nat} {Z : State → Prop} {pc : Nat} {st : List Value} {M : Mem} (C : CXok X K lay cc own nL ret d) {a0 a1 a2 a3 a4 a5 a6 a7 a8 a9 a10 a11 a12 a13 : Option Value} {r : List (Option Value)} {b : Option Value} {z : Int} (hn : 14 < nL) (hd : decode cc pc = .ok (.istore 14, 2)) (k : PW X K lay nL cs Z (pc + 2) (a0 :: a1 :: a2 :: a3 :: a4 :: a5 :: a6 :: a7 :: a8 :: a9 :: a10 :: a11 :: a12 :: a13 :: some (iV z) :: r) st M) :
    PW X K lay nL cs Z pc (a0 :: a1 :: a2 :: a3 :: a4 :: a5 :: a6 :: a7 :: a8 :: a9 :: a10 :: a11 :: a12 :: a13 :: b :: r) (iV z :: st) M := by
  obtain ⟨p, l, e, R, s, m, args, below, meth, c, A⟩ := X
  obtain ⟨hx, hb, hml, hown, hts, hK, hinj, hAk, hA, hlk, hrt, hfr, hlo⟩ := C
  intro H locs ls hP hS hl
  refine lv_istore (lv' := _) hx hb hd hl.1 hn rfl (fun ls1 h1 => ?_)
  exact k H locs ls1 hP hS (LV.set (i := 14) (v := iV z) rfl hl.2 h1)
theorem pw_aload14 {X : CX} {K : KX} {lay : List PD} {cc : ByteArray} {own : String} {nL : Nat} {ret : Option FieldType} {d : Nat} {cs : Nat × Nat} {Z : State → Prop} {pc : Nat} {st : List Value} {M : Mem} (C : CXok X K lay cc own nL ret d) {a0 a1 a2 a3 a4 a5 a6 a7 a8 a9 a10 a11 a12 a13 : Option Value} {r : List (Option Value)} {q : Nat} (hd : decode cc pc = .ok (.aload 14, 2)) (k : PW X K lay nL cs Z (pc + 2) (a0 :: a1 :: a2 :: a3 :: a4 :: a5 :: a6 :: a7 :: a8 :: a9 :: a10 :: a11 :: a12 :: a13 :: some (rV K q) :: r) (rV K q :: st) M) :
    PW X K lay nL cs Z pc (a0 :: a1 :: a2 :: a3 :: a4 :: a5 :: a6 :: a7 :: a8 :: a9 :: a10 :: a11 :: a12 :: a13 :: some (rV K q) :: r) st M := by
  obtain ⟨p, l, e, R, s, m, args, below, meth, c, A⟩ := X
  obtain ⟨hx, hb, hml, hown, hts, hK, hinj, hAk, hA, hlk, hrt, hfr, hlo⟩ := C
  intro H locs ls hP hS hl
  exact lv_aload hx hb hd (hl.at (i := 14) rfl) (k H locs ls hP hS hl)
theorem pw_astore14 {X : CX} {K : KX} {lay : List PD} {cc : ByteArray} {own : String} {nL : Nat} {ret : Option FieldType} {d : Nat} {cs : Nat × Nat} {Z : State → Prop} {pc : Nat} {st : List Value} {M : Mem} (C : CXok X K lay cc own nL ret d) {a0 a1 a2 a3 a4 a5 a6 a7 a8 a9 a10 a11 a12 a13 : Option Value} {r : List (Option Value)} {b : Option Value} {q : Nat} (hn : 14 < nL) (hd : decode cc pc = .ok (.astore 14, 2)) (k : PW X K lay nL cs Z (pc + 2) (a0 :: a1 :: a2 :: a3 :: a4 :: a5 :: a6 :: a7 :: a8 :: a9 :: a10 :: a11 :: a12 :: a13 :: some (rV K q) :: r) st M) :
    PW X K lay nL cs Z pc (a0 :: a1 :: a2 :: a3 :: a4 :: a5 :: a6 :: a7 :: a8 :: a9 :: a10 :: a11 :: a12 :: a13 :: b :: r) (rV K q :: st) M := by
  obtain ⟨p, l, e, R, s, m, args, below, meth, c, A⟩ := X
  obtain ⟨hx, hb, hml, hown, hts, hK, hinj, hAk, hA, hlk, hrt, hfr, hlo⟩ := C
  intro H locs ls hP hS hl
  refine lv_astore (lv' := _) hx hb hd hl.1 hn rfl (fun ls1 h1 => ?_)
  exact k H locs ls1 hP hS (LV.set (i := 14) (v := rV K q) rfl hl.2 h1)
theorem pw_iinc14 {X : CX} {K : KX} {lay : List PD} {cc : ByteArray} {own : String} {nL : Nat} {ret : Option FieldType} {d : Nat} {cs : Nat × Nat} {Z : State → Prop} {pc : Nat} {st : List Value} {M : Mem} (C : CXok X K lay cc own nL ret d) {a0 a1 a2 a3 a4 a5 a6 a7 a8 a9 a10 a11 a12 a13 : Option Value} {r : List (Option Value)} {z n : Int} (hn : 14 < nL) (hd : decode cc pc = .ok (.iinc 14 n, 3)) (k : PW X K lay nL cs Z (pc + 3) (a0 :: a1 :: a2 :: a3 :: a4 :: a5 :: a6 :: a7 :: a8 :: a9 :: a10 :: a11 :: a12 :: a13 :: some (iV (z + n)) :: r) st M) :
    PW X K lay nL cs Z pc (a0 :: a1 :: a2 :: a3 :: a4 :: a5 :: a6 :: a7 :: a8 :: a9 :: a10 :: a11 :: a12 :: a13 :: some (iV z) :: r) st M := by
  obtain ⟨p, l, e, R, s, m, args, below, meth, c, A⟩ := X
  obtain ⟨hx, hb, hml, hown, hts, hK, hinj, hAk, hA, hlk, hrt, hfr, hlo⟩ := C
  intro H locs ls hP hS hl
  have hm : (14, iV z) ∈ lvl 0 (a0 :: a1 :: a2 :: a3 :: a4 :: a5 :: a6 :: a7 :: a8 :: a9 :: a10 :: a11 :: a12 :: a13 :: some (iV z) :: r) := (lvl_mem _ 0 14 _).mpr ⟨14, by omega, rfl⟩
  obtain ⟨k0, hk0⟩ := List.getElem?_of_mem hm
  refine lv_iinc (v := Int32.ofInt (z + n)) (lv' := _) hx hb hd hl.1 hk0 (Int32.ofInt_add z n).symm hn rfl (fun ls1 h1 => ?_)
  exact k H locs ls1 hP hS (LV.set (i := 14) (v := iV (z + n)) rfl hl.2 h1)
theorem pw_iload15 {X : CX} {K : KX} {lay : List PD} {cc : ByteArray} {own : String} {nL : Nat} {ret : Option FieldType} {d : Nat} {cs : Nat × Nat} {Z : State → Prop} {pc : Nat} {st : List Value} {M : Mem} (C : CXok X K lay cc own nL ret d) {a0 a1 a2 a3 a4 a5 a6 a7 a8 a9 a10 a11 a12 a13 a14 : Option Value} {r : List (Option Value)} {z : Int} (hd : decode cc pc = .ok (.iload 15, 2)) (k : PW X K lay nL cs Z (pc + 2) (a0 :: a1 :: a2 :: a3 :: a4 :: a5 :: a6 :: a7 :: a8 :: a9 :: a10 :: a11 :: a12 :: a13 :: a14 :: some (iV z) :: r) (iV z :: st) M) :
    PW X K lay nL cs Z pc (a0 :: a1 :: a2 :: a3 :: a4 :: a5 :: a6 :: a7 :: a8 :: a9 :: a10 :: a11 :: a12 :: a13 :: a14 :: some (iV z) :: r) st M := by
  obtain ⟨p, l, e, R, s, m, args, below, meth, c, A⟩ := X
  obtain ⟨hx, hb, hml, hown, hts, hK, hinj, hAk, hA, hlk, hrt, hfr, hlo⟩ := C
  intro H locs ls hP hS hl
  exact lv_iload hx hb hd (hl.at (i := 15) rfl) (k H locs ls hP hS hl)
theorem pw_istore15 {X : CX} {K : KX} {lay : List PD} {cc : ByteArray} {own : String} {nL : Nat} {ret : Option FieldType} {d : Nat} {cs : Nat × Nat} {Z : State → Prop} {pc : Nat} {st : List Value} {M : Mem} (C : CXok X K lay cc own nL ret d) {a0 a1 a2 a3 a4 a5 a6 a7 a8 a9 a10 a11 a12 a13 a14 : Option Value} {r : List (Option Value)} {b : Option Value} {z : Int} (hn : 15 < nL) (hd : decode cc pc = .ok (.istore 15, 2)) (k : PW X K lay nL cs Z (pc + 2) (a0 :: a1 :: a2 :: a3 :: a4 :: a5 :: a6 :: a7 :: a8 :: a9 :: a10 :: a11 :: a12 :: a13 :: a14 :: some (iV z) :: r) st M) :
    PW X K lay nL cs Z pc (a0 :: a1 :: a2 :: a3 :: a4 :: a5 :: a6 :: a7 :: a8 :: a9 :: a10 :: a11 :: a12 :: a13 :: a14 :: b :: r) (iV z :: st) M := by
  obtain ⟨p, l, e, R, s, m, args, below, meth, c, A⟩ := X
  obtain ⟨hx, hb, hml, hown, hts, hK, hinj, hAk, hA, hlk, hrt, hfr, hlo⟩ := C
  intro H locs ls hP hS hl
  refine lv_istore (lv' := _) hx hb hd hl.1 hn rfl (fun ls1 h1 => ?_)
  exact k H locs ls1 hP hS (LV.set (i := 15) (v := iV z) rfl hl.2 h1)
theorem pw_aload15 {X : CX} {K : KX} {lay : List PD} {cc : ByteArray} {own : String} {nL : Nat} {ret : Option FieldType} {d : Nat} {cs : Nat × Nat} {Z : State → Prop} {pc : Nat} {st : List Value} {M : Mem} (C : CXok X K lay cc own nL ret d) {a0 a1 a2 a3 a4 a5 a6 a7 a8 a9 a10 a11 a12 a13 a14 : Option Value} {r : List (Option Value)} {q : Nat} (hd : decode cc pc = .ok (.aload 15, 2)) (k : PW X K lay nL cs Z (pc + 2) (a0 :: a1 :: a2 :: a3 :: a4 :: a5 :: a6 :: a7 :: a8 :: a9 :: a10 :: a11 :: a12 :: a13 :: a14 :: some (rV K q) :: r) (rV K q :: st) M) :
    PW X K lay nL cs Z pc (a0 :: a1 :: a2 :: a3 :: a4 :: a5 :: a6 :: a7 :: a8 :: a9 :: a10 :: a11 :: a12 :: a13 :: a14 :: some (rV K q) :: r) st M := by
  obtain ⟨p, l, e, R, s, m, args, below, meth, c, A⟩ := X
  obtain ⟨hx, hb, hml, hown, hts, hK, hinj, hAk, hA, hlk, hrt, hfr, hlo⟩ := C
  intro H locs ls hP hS hl
  exact lv_aload hx hb hd (hl.at (i := 15) rfl) (k H locs ls hP hS hl)
theorem pw_astore15 {X : CX} {K : KX} {lay : List PD} {cc : ByteArray} {own : String} {nL : Nat} {ret : Option FieldType} {d : Nat} {cs : Nat × Nat} {Z : State → Prop} {pc : Nat} {st : List Value} {M : Mem} (C : CXok X K lay cc own nL ret d) {a0 a1 a2 a3 a4 a5 a6 a7 a8 a9 a10 a11 a12 a13 a14 : Option Value} {r : List (Option Value)} {b : Option Value} {q : Nat} (hn : 15 < nL) (hd : decode cc pc = .ok (.astore 15, 2)) (k : PW X K lay nL cs Z (pc + 2) (a0 :: a1 :: a2 :: a3 :: a4 :: a5 :: a6 :: a7 :: a8 :: a9 :: a10 :: a11 :: a12 :: a13 :: a14 :: some (rV K q) :: r) st M) :
    PW X K lay nL cs Z pc (a0 :: a1 :: a2 :: a3 :: a4 :: a5 :: a6 :: a7 :: a8 :: a9 :: a10 :: a11 :: a12 :: a13 :: a14 :: b :: r) (rV K q :: st) M := by
  obtain ⟨p, l, e, R, s, m, args, below, meth, c, A⟩ := X
  obtain ⟨hx, hb, hml, hown, hts, hK, hinj, hAk, hA, hlk, hrt, hfr, hlo⟩ := C
  intro H locs ls hP hS hl
  refine lv_astore (lv' := _) hx hb hd hl.1 hn rfl (fun ls1 h1 => ?_)
  exact k H locs ls1 hP hS (LV.set (i := 15) (v := rV K q) rfl hl.2 h1)
theorem pw_iinc15 {X : CX} {K : KX} {lay : List PD} {cc : ByteArray} {own : String} {nL : Nat} {ret : Option FieldType} {d : Nat} {cs : Nat × Nat} {Z : State → Prop} {pc : Nat} {st : List Value} {M : Mem} (C : CXok X K lay cc own nL ret d) {a0 a1 a2 a3 a4 a5 a6 a7 a8 a9 a10 a11 a12 a13 a14 : Option Value} {r : List (Option Value)} {z n : Int} (hn : 15 < nL) (hd : decode cc pc = .ok (.iinc 15 n, 3)) (k : PW X K lay nL cs Z (pc + 3) (a0 :: a1 :: a2 :: a3 :: a4 :: a5 :: a6 :: a7 :: a8 :: a9 :: a10 :: a11 :: a12 :: a13 :: a14 :: some (iV (z + n)) :: r) st M) :
    PW X K lay nL cs Z pc (a0 :: a1 :: a2 :: a3 :: a4 :: a5 :: a6 :: a7 :: a8 :: a9 :: a10 :: a11 :: a12 :: a13 :: a14 :: some (iV z) :: r) st M := by
  obtain ⟨p, l, e, R, s, m, args, below, meth, c, A⟩ := X
  obtain ⟨hx, hb, hml, hown, hts, hK, hinj, hAk, hA, hlk, hrt, hfr, hlo⟩ := C
  intro H locs ls hP hS hl
  have hm : (15, iV z) ∈ lvl 0 (a0 :: a1 :: a2 :: a3 :: a4 :: a5 :: a6 :: a7 :: a8 :: a9 :: a10 :: a11 :: a12 :: a13 :: a14 :: some (iV z) :: r) := (lvl_mem _ 0 15 _).mpr ⟨15, by omega, rfl⟩
  obtain ⟨k0, hk0⟩ := List.getElem?_of_mem hm
  refine lv_iinc (v := Int32.ofInt (z + n)) (lv' := _) hx hb hd hl.1 hk0 (Int32.ofInt_add z n).symm hn rfl (fun ls1 h1 => ?_)
  exact k H locs ls1 hP hS (LV.set (i := 15) (v := iV (z + n)) rfl hl.2 h1)
theorem pw_dup {X : CX} {K : KX} {lay : List PD} {cc : ByteArray} {own : String} {nL : Nat} {ret : Option FieldType} {d : Nat} {cs : Nat × Nat} {Z : State → Prop} {pc : Nat} {st : List Value} {M : Mem} (C : CXok X K lay cc own nL ret d) {L : List (Option Value)} {v : Value} (hv : v.category = 1) (hd : decode cc pc = .ok (.dup, 1)) (k : PW X K lay nL cs Z (pc + 1) L (v :: v :: st) M) :
    PW X K lay nL cs Z pc L (v :: st) M := by
  obtain ⟨p, l, e, R, s, m, args, below, meth, c, A⟩ := X
  obtain ⟨hx, hb, hml, hown, hts, hK, hinj, hAk, hA, hlk, hrt, hfr, hlo⟩ := C
  intro H locs ls hP hS hl
  exact lv_dup hx hb hd hv (k H locs ls hP hS hl)
theorem pw_dup2 {X : CX} {K : KX} {lay : List PD} {cc : ByteArray} {own : String} {nL : Nat} {ret : Option FieldType} {d : Nat} {cs : Nat × Nat} {Z : State → Prop} {pc : Nat} {st : List Value} {M : Mem} (C : CXok X K lay cc own nL ret d) {L : List (Option Value)} {v w : Value} (hv : v.category = 1) (hw : w.category = 1) (hd : decode cc pc = .ok (.dup2, 1)) (k : PW X K lay nL cs Z (pc + 1) L (v :: w :: v :: w :: st) M) :
    PW X K lay nL cs Z pc L (v :: w :: st) M := by
  obtain ⟨p, l, e, R, s, m, args, below, meth, c, A⟩ := X
  obtain ⟨hx, hb, hml, hown, hts, hK, hinj, hAk, hA, hlk, hrt, hfr, hlo⟩ := C
  intro H locs ls hP hS hl
  exact lv_dup2_11 hx hb hd hv hw (k H locs ls hP hS hl)
theorem pw_iadd {X : CX} {K : KX} {lay : List PD} {cc : ByteArray} {own : String} {nL : Nat} {ret : Option FieldType} {d : Nat} {cs : Nat × Nat} {Z : State → Prop} {pc : Nat} {st : List Value} {M : Mem} (C : CXok X K lay cc own nL ret d) {L : List (Option Value)} {a b : Int} (hd : decode cc pc = .ok (.iadd, 1)) (k : PW X K lay nL cs Z (pc + 1) L (iV (a + b) :: st) M) :
    PW X K lay nL cs Z pc L (iV b :: iV a :: st) M := by
  obtain ⟨p, l, e, R, s, m, args, below, meth, c, A⟩ := X
  obtain ⟨hx, hb, hml, hown, hts, hK, hinj, hAk, hA, hlk, hrt, hfr, hlo⟩ := C
  intro H locs ls hP hS hl
  refine lv_iadd hx hb hd ?_
  rw [← Int32.ofInt_add]
  exact k H locs ls hP hS hl
theorem pw_isub {X : CX} {K : KX} {lay : List PD} {cc : ByteArray} {own : String} {nL : Nat} {ret : Option FieldType} {d : Nat} {cs : Nat × Nat} {Z : State → Prop} {pc : Nat} {st : List Value} {M : Mem} (C : CXok X K lay cc own nL ret d) {L : List (Option Value)} {a b : Int} (hd : decode cc pc = .ok (.isub, 1)) (k : PW X K lay nL cs Z (pc + 1) L (iV (a - b) :: st) M) :
    PW X K lay nL cs Z pc L (iV b :: iV a :: st) M := by
  obtain ⟨p, l, e, R, s, m, args, below, meth, c, A⟩ := X
  obtain ⟨hx, hb, hml, hown, hts, hK, hinj, hAk, hA, hlk, hrt, hfr, hlo⟩ := C
  intro H locs ls hP hS hl
  refine lv_isub hx hb hd ?_
  rw [← Int32.ofInt_sub]
  exact k H locs ls hP hS hl
theorem pw_imul {X : CX} {K : KX} {lay : List PD} {cc : ByteArray} {own : String} {nL : Nat} {ret : Option FieldType} {d : Nat} {cs : Nat × Nat} {Z : State → Prop} {pc : Nat} {st : List Value} {M : Mem} (C : CXok X K lay cc own nL ret d) {L : List (Option Value)} {a b : Int} (hd : decode cc pc = .ok (.imul, 1)) (k : PW X K lay nL cs Z (pc + 1) L (iV (a * b) :: st) M) :
    PW X K lay nL cs Z pc L (iV b :: iV a :: st) M := by
  obtain ⟨p, l, e, R, s, m, args, below, meth, c, A⟩ := X
  obtain ⟨hx, hb, hml, hown, hts, hK, hinj, hAk, hA, hlk, hrt, hfr, hlo⟩ := C
  intro H locs ls hP hS hl
  refine lv_imul hx hb hd ?_
  rw [← Int32.ofInt_mul]
  exact k H locs ls hP hS hl
theorem pw_ineg {X : CX} {K : KX} {lay : List PD} {cc : ByteArray} {own : String} {nL : Nat} {ret : Option FieldType} {d : Nat} {cs : Nat × Nat} {Z : State → Prop} {pc : Nat} {st : List Value} {M : Mem} (C : CXok X K lay cc own nL ret d) {L : List (Option Value)} {a : Int} (hd : decode cc pc = .ok (.ineg, 1)) (k : PW X K lay nL cs Z (pc + 1) L (iV (-a) :: st) M) :
    PW X K lay nL cs Z pc L (iV a :: st) M := by
  obtain ⟨p, l, e, R, s, m, args, below, meth, c, A⟩ := X
  obtain ⟨hx, hb, hml, hown, hts, hK, hinj, hAk, hA, hlk, hrt, hfr, hlo⟩ := C
  intro H locs ls hP hS hl
  refine lv_ineg hx hb hd ?_
  rw [← Int32.ofInt_neg]
  exact k H locs ls hP hS hl
theorem pw_iand {X : CX} {K : KX} {lay : List PD} {cc : ByteArray} {own : String} {nL : Nat} {ret : Option FieldType} {d : Nat} {cs : Nat × Nat} {Z : State → Prop} {pc : Nat} {st : List Value} {M : Mem} (C : CXok X K lay cc own nL ret d) {L : List (Option Value)} {a b : Int} (z : Int) (h : Int32.ofInt a &&& Int32.ofInt b = Int32.ofInt z) (hd : decode cc pc = .ok (.iand, 1)) (k : PW X K lay nL cs Z (pc + 1) L (iV z :: st) M) :
    PW X K lay nL cs Z pc L (iV b :: iV a :: st) M := by
  obtain ⟨p, l, e, R, s, m, args, below, meth, c, A⟩ := X
  obtain ⟨hx, hb, hml, hown, hts, hK, hinj, hAk, hA, hlk, hrt, hfr, hlo⟩ := C
  intro H locs ls hP hS hl
  refine lv_iand hx hb hd ?_
  rw [h]
  exact k H locs ls hP hS hl
theorem pw_ior {X : CX} {K : KX} {lay : List PD} {cc : ByteArray} {own : String} {nL : Nat} {ret : Option FieldType} {d : Nat} {cs : Nat × Nat} {Z : State → Prop} {pc : Nat} {st : List Value} {M : Mem} (C : CXok X K lay cc own nL ret d) {L : List (Option Value)} {a b : Int} (z : Int) (h : Int32.ofInt a ||| Int32.ofInt b = Int32.ofInt z) (hd : decode cc pc = .ok (.ior, 1)) (k : PW X K lay nL cs Z (pc + 1) L (iV z :: st) M) :
    PW X K lay nL cs Z pc L (iV b :: iV a :: st) M := by
  obtain ⟨p, l, e, R, s, m, args, below, meth, c, A⟩ := X
  obtain ⟨hx, hb, hml, hown, hts, hK, hinj, hAk, hA, hlk, hrt, hfr, hlo⟩ := C
  intro H locs ls hP hS hl
  refine lv_ior hx hb hd ?_
  rw [h]
  exact k H locs ls hP hS hl
theorem pw_ixor {X : CX} {K : KX} {lay : List PD} {cc : ByteArray} {own : String} {nL : Nat} {ret : Option FieldType} {d : Nat} {cs : Nat × Nat} {Z : State → Prop} {pc : Nat} {st : List Value} {M : Mem} (C : CXok X K lay cc own nL ret d) {L : List (Option Value)} {a b : Int} (z : Int) (h : Int32.ofInt a ^^^ Int32.ofInt b = Int32.ofInt z) (hd : decode cc pc = .ok (.ixor, 1)) (k : PW X K lay nL cs Z (pc + 1) L (iV z :: st) M) :
    PW X K lay nL cs Z pc L (iV b :: iV a :: st) M := by
  obtain ⟨p, l, e, R, s, m, args, below, meth, c, A⟩ := X
  obtain ⟨hx, hb, hml, hown, hts, hK, hinj, hAk, hA, hlk, hrt, hfr, hlo⟩ := C
  intro H locs ls hP hS hl
  refine lv_ixor hx hb hd ?_
  rw [h]
  exact k H locs ls hP hS hl
theorem pw_ishl {X : CX} {K : KX} {lay : List PD} {cc : ByteArray} {own : String} {nL : Nat} {ret : Option FieldType} {d : Nat} {cs : Nat × Nat} {Z : State → Prop} {pc : Nat} {st : List Value} {M : Mem} (C : CXok X K lay cc own nL ret d) {L : List (Option Value)} {a b : Int} (z : Int) (h : Int32.ofInt a <<< (Int32.ofInt b &&& 31) = Int32.ofInt z) (hd : decode cc pc = .ok (.ishl, 1)) (k : PW X K lay nL cs Z (pc + 1) L (iV z :: st) M) :
    PW X K lay nL cs Z pc L (iV b :: iV a :: st) M := by
  obtain ⟨p, l, e, R, s, m, args, below, meth, c, A⟩ := X
  obtain ⟨hx, hb, hml, hown, hts, hK, hinj, hAk, hA, hlk, hrt, hfr, hlo⟩ := C
  intro H locs ls hP hS hl
  refine lv_ishl hx hb hd ?_
  rw [h]
  exact k H locs ls hP hS hl
theorem pw_ishr {X : CX} {K : KX} {lay : List PD} {cc : ByteArray} {own : String} {nL : Nat} {ret : Option FieldType} {d : Nat} {cs : Nat × Nat} {Z : State → Prop} {pc : Nat} {st : List Value} {M : Mem} (C : CXok X K lay cc own nL ret d) {L : List (Option Value)} {a b : Int} (z : Int) (h : Int32.ofInt a >>> (Int32.ofInt b &&& 31) = Int32.ofInt z) (hd : decode cc pc = .ok (.ishr, 1)) (k : PW X K lay nL cs Z (pc + 1) L (iV z :: st) M) :
    PW X K lay nL cs Z pc L (iV b :: iV a :: st) M := by
  obtain ⟨p, l, e, R, s, m, args, below, meth, c, A⟩ := X
  obtain ⟨hx, hb, hml, hown, hts, hK, hinj, hAk, hA, hlk, hrt, hfr, hlo⟩ := C
  intro H locs ls hP hS hl
  refine lv_ishr hx hb hd ?_
  rw [h]
  exact k H locs ls hP hS hl
theorem i32_ne0 {b : Int} (h : 0 < b ∧ b ≤ 2147483647) : ¬ Int32.ofInt b = 0 := by
  rw [i32_0, i32_eq (by omega) (by omega)]
  omega
theorem i32_nI {z : Int} (h : 0 ≤ z ∧ z ≤ 2147483647) : Int32.ofInt z = nI z.toNat := by
  apply Int32.toInt_inj.mp
  rw [i32_rng (by omega), nI_toInt (by omega)]
  omega
theorem pw_idiv {X : CX} {K : KX} {lay : List PD} {cc : ByteArray} {own : String} {nL : Nat} {ret : Option FieldType} {d : Nat} {cs : Nat × Nat} {Z : State → Prop} {pc : Nat} {st : List Value} {M : Mem} (C : CXok X K lay cc own nL ret d) {L : List (Option Value)} {a b : Int} (ha : 0 ≤ a ∧ a ≤ 2147483647) (hb9 : 0 < b ∧ b ≤ 2147483647) (hd : decode cc pc = .ok (.idiv, 1)) (k : PW X K lay nL cs Z (pc + 1) L (iV (a / b) :: st) M) :
    PW X K lay nL cs Z pc L (iV b :: iV a :: st) M := by
  obtain ⟨p, l, e, R, s, m, args, below, meth, c, A⟩ := X
  obtain ⟨hx, hb, hml, hown, hts, hK, hinj, hAk, hA, hlk, hrt, hfr, hlo⟩ := C
  intro H locs ls hP hS hl
  refine lv_idiv hx hb hd (i32_ne0 hb9) ?_
  have e : Int32.ofInt a / Int32.ofInt b = Int32.ofInt (a / b) := by
    rw [i32_nI ha, i32_nI (by omega), pk_div (by omega) (by omega) (by omega), i32_nI ⟨Int.ediv_nonneg ha.1 (by omega), Int.le_trans (Int.ediv_le_self b ha.1) ha.2⟩]
    congr 1
    obtain ⟨x, rfl⟩ := Int.eq_ofNat_of_zero_le ha.1
    obtain ⟨y, rfl⟩ := Int.eq_ofNat_of_zero_le (show 0 ≤ b by omega)
    rfl
  rw [e]
  exact k H locs ls hP hS hl
theorem pw_irem {X : CX} {K : KX} {lay : List PD} {cc : ByteArray} {own : String} {nL : Nat} {ret : Option FieldType} {d : Nat} {cs : Nat × Nat} {Z : State → Prop} {pc : Nat} {st : List Value} {M : Mem} (C : CXok X K lay cc own nL ret d) {L : List (Option Value)} {a b : Int} (ha : 0 ≤ a ∧ a ≤ 2147483647) (hb9 : 0 < b ∧ b ≤ 2147483647) (hd : decode cc pc = .ok (.irem, 1)) (k : PW X K lay nL cs Z (pc + 1) L (iV (a % b) :: st) M) :
    PW X K lay nL cs Z pc L (iV b :: iV a :: st) M := by
  obtain ⟨p, l, e, R, s, m, args, below, meth, c, A⟩ := X
  obtain ⟨hx, hb, hml, hown, hts, hK, hinj, hAk, hA, hlk, hrt, hfr, hlo⟩ := C
  intro H locs ls hP hS hl
  refine lv_irem hx hb hd (i32_ne0 hb9) ?_
  have hm := Int.emod_nonneg a (show b ≠ 0 by omega)
  have hm2 := Int.emod_lt_of_pos a hb9.1
  have e : Int32.ofInt a - Int32.ofInt a / Int32.ofInt b * Int32.ofInt b = Int32.ofInt (a % b) := by
    rw [i32_nI ha, i32_nI (z := b) (by omega), pk_rem (by omega) (by omega) (by omega), i32_nI (z := a % b) (by omega)]
    congr 1
    obtain ⟨x, rfl⟩ := Int.eq_ofNat_of_zero_le ha.1
    obtain ⟨y, rfl⟩ := Int.eq_ofNat_of_zero_le (show 0 ≤ b by omega)
    rfl
  rw [e]
  exact k H locs ls hP hS hl
theorem pw_i2b {X : CX} {K : KX} {lay : List PD} {cc : ByteArray} {own : String} {nL : Nat} {ret : Option FieldType} {d : Nat} {cs : Nat × Nat} {Z : State → Prop} {pc : Nat} {st : List Value} {M : Mem} (C : CXok X K lay cc own nL ret d) {L : List (Option Value)} {a : Int} (z : Int) (h : (Int32.ofInt a).toInt8.toInt32 = Int32.ofInt z) (hd : decode cc pc = .ok (.i2b, 1)) (k : PW X K lay nL cs Z (pc + 1) L (iV z :: st) M) :
    PW X K lay nL cs Z pc L (iV a :: st) M := by
  obtain ⟨p, l, e, R, s, m, args, below, meth, c, A⟩ := X
  obtain ⟨hx, hb, hml, hown, hts, hK, hinj, hAk, hA, hlk, hrt, hfr, hlo⟩ := C
  intro H locs ls hP hS hl
  exact lv_i2b hx hb hd h (k H locs ls hP hS hl)
theorem i32_r0 : -2147483648 ≤ (0 : Int) ∧ (0 : Int) ≤ 2147483647 := by decide
theorem pw_icmp_eq {X : CX} {K : KX} {lay : List PD} {cc : ByteArray} {own : String} {nL : Nat} {ret : Option FieldType} {d : Nat} {cs : Nat × Nat} {Z : State → Prop} {pc : Nat} {st : List Value} {M : Mem} (C : CXok X K lay cc own nL ret d) {L : List (Option Value)} {a b : Int} {off : Int} {tgt : Nat} (hd : decode cc pc = .ok (.if_icmp .eq off, 3)) (ht : (pc : Int) + off = (tgt : Int)) (ha : -2147483648 ≤ a ∧ a ≤ 2147483647) (hb9 : -2147483648 ≤ b ∧ b ≤ 2147483647) (kt : a = b → PW X K lay nL cs Z tgt L st M) (kf : a ≠ b → PW X K lay nL cs Z (pc + 3) L st M) :
    PW X K lay nL cs Z pc L (iV b :: iV a :: st) M := by
  obtain ⟨p, l, e, R, s, m, args, below, meth, c, A⟩ := X
  obtain ⟨hx, hb, hml, hown, hts, hK, hinj, hAk, hA, hlk, hrt, hfr, hlo⟩ := C
  intro H locs ls hP hS hl
  exact lv_icmp_eq hx hb hd ht (fun h => kt ((i32_eq ha hb9).mp h) H locs ls hP hS hl) (fun h => kf (fun h9 => h ((i32_eq ha hb9).mpr h9)) H locs ls hP hS hl)
theorem pw_if_eq {X : CX} {K : KX} {lay : List PD} {cc : ByteArray} {own : String} {nL : Nat} {ret : Option FieldType} {d : Nat} {cs : Nat × Nat} {Z : State → Prop} {pc : Nat} {st : List Value} {M : Mem} (C : CXok X K lay cc own nL ret d) {L : List (Option Value)} {a : Int} {off : Int} {tgt : Nat} (hd : decode cc pc = .ok (.ifCond .eq off, 3)) (ht : (pc : Int) + off = (tgt : Int)) (ha : -2147483648 ≤ a ∧ a ≤ 2147483647) (kt : a = 0 → PW X K lay nL cs Z tgt L st M) (kf : a ≠ 0 → PW X K lay nL cs Z (pc + 3) L st M) :
    PW X K lay nL cs Z pc L (iV a :: st) M := by
  obtain ⟨p, l, e, R, s, m, args, below, meth, c, A⟩ := X
  obtain ⟨hx, hb, hml, hown, hts, hK, hinj, hAk, hA, hlk, hrt, hfr, hlo⟩ := C
  intro H locs ls hP hS hl
  exact lv_if_eq hx hb hd ht (fun h => kt ((i32_eq ha i32_r0).mp h) H locs ls hP hS hl) (fun h => kf (fun h9 => h ((i32_eq ha i32_r0).mpr h9)) H locs ls hP hS hl)
theorem pw_icmp_ne {X : CX} {K : KX} {lay : List PD} {cc : ByteArray} {own : String} {nL : Nat} {ret : Option FieldType} {d : Nat} {cs : Nat × Nat} {Z : State → Prop} {pc : Nat} {st : List Value} {M : Mem} (C : CXok X K lay cc own nL ret d) {L : List (Option Value)} {a b : Int} {off : Int} {tgt : Nat} (hd : decode cc pc = .ok (.if_icmp .ne off, 3)) (ht : (pc : Int) + off = (tgt : Int)) (ha : -2147483648 ≤ a ∧ a ≤ 2147483647) (hb9 : -2147483648 ≤ b ∧ b ≤ 2147483647) (kt : a ≠ b → PW X K lay nL cs Z tgt L st M) (kf : a = b → PW X K lay nL cs Z (pc + 3) L st M) :
    PW X K lay nL cs Z pc L (iV b :: iV a :: st) M := by
  obtain ⟨p, l, e, R, s, m, args, below, meth, c, A⟩ := X
  obtain ⟨hx, hb, hml, hown, hts, hK, hinj, hAk, hA, hlk, hrt, hfr, hlo⟩ := C
  intro H locs ls hP hS hl
  exact lv_icmp_ne hx hb hd ht (fun h => kt (fun h9 => h ((i32_eq ha hb9).mpr h9)) H locs ls hP hS hl) (fun h => kf ((i32_eq ha hb9).mp h) H locs ls hP hS hl)
theorem pw_if_ne {X : CX} {K : KX} {lay : List PD} {cc : ByteArray} {own : String} {nL : Nat} {ret : Option FieldType} {d : Nat} {cs : Nat × Nat} {Z : State → Prop} {pc : Nat} {st : List Value} {M : Mem} (C : CXok X K lay cc own nL ret d) {L : List (Option Value)} {a : Int} {off : Int} {tgt : Nat} (hd : decode cc pc = .ok (.ifCond .ne off, 3)) (ht : (pc : Int) + off = (tgt : Int)) (ha : -2147483648 ≤ a ∧ a ≤ 2147483647) (kt : a ≠ 0 → PW X K lay nL cs Z tgt L st M) (kf : a = 0 → PW X K lay nL cs Z (pc + 3) L st M) :
    PW X K lay nL cs Z pc L (iV a :: st) M := by
  obtain ⟨p, l, e, R, s, m, args, below, meth, c, A⟩ := X
  obtain ⟨hx, hb, hml, hown, hts, hK, hinj, hAk, hA, hlk, hrt, hfr, hlo⟩ := C
  intro H locs ls hP hS hl
  exact lv_if_ne hx hb hd ht (fun h => kt (fun h9 => h ((i32_eq ha i32_r0).mpr h9)) H locs ls hP hS hl) (fun h => kf ((i32_eq ha i32_r0).mp h) H locs ls hP hS hl)
theorem pw_icmp_lt {X : CX} {K : KX} {lay : List PD} {cc : ByteArray} {own : String} {nL : Nat} {ret : Option FieldType} {d : Nat} {cs : Nat × Nat} {Z : State → Prop} {pc : Nat} {st : List Value} {M : Mem} (C : CXok X K lay cc own nL ret d) {L : List (Option Value)} {a b : Int} {off : Int} {tgt : Nat} (hd : decode cc pc = .ok (.if_icmp .lt off, 3)) (ht : (pc : Int) + off = (tgt : Int)) (ha : -2147483648 ≤ a ∧ a ≤ 2147483647) (hb9 : -2147483648 ≤ b ∧ b ≤ 2147483647) (kt : a < b → PW X K lay nL cs Z tgt L st M) (kf : b ≤ a → PW X K lay nL cs Z (pc + 3) L st M) :
    PW X K lay nL cs Z pc L (iV b :: iV a :: st) M := by
  obtain ⟨p, l, e, R, s, m, args, below, meth, c, A⟩ := X
  obtain ⟨hx, hb, hml, hown, hts, hK, hinj, hAk, hA, hlk, hrt, hfr, hlo⟩ := C
  intro H locs ls hP hS hl
  exact lv_icmp_lt hx hb hd ht (fun h => kt ((i32_lt ha hb9).mp h) H locs ls hP hS hl) (fun h => kf (Int.not_lt.mp fun h9 => h ((i32_lt ha hb9).mpr h9)) H locs ls hP hS hl)
theorem pw_if_lt {X : CX} {K : KX} {lay : List PD} {cc : ByteArray} {own : String} {nL : Nat} {ret : Option FieldType} {d : Nat} {cs : Nat × Nat} {Z : State → Prop} {pc : Nat} {st : List Value} {M : Mem} (C : CXok X K lay cc own nL ret d) {L : List (Option Value)} {a : Int} {off : Int} {tgt : Nat} (hd : decode cc pc = .ok (.ifCond .lt off, 3)) (ht : (pc : Int) + off = (tgt : Int)) (ha : -2147483648 ≤ a ∧ a ≤ 2147483647) (kt : a < 0 → PW X K lay nL cs Z tgt L st M) (kf : 0 ≤ a → PW X K lay nL cs Z (pc + 3) L st M) :
    PW X K lay nL cs Z pc L (iV a :: st) M := by
  obtain ⟨p, l, e, R, s, m, args, below, meth, c, A⟩ := X
  obtain ⟨hx, hb, hml, hown, hts, hK, hinj, hAk, hA, hlk, hrt, hfr, hlo⟩ := C
  intro H locs ls hP hS hl
  exact lv_if_lt hx hb hd ht (fun h => kt ((i32_lt ha i32_r0).mp h) H locs ls hP hS hl) (fun h => kf (Int.not_lt.mp fun h9 => h ((i32_lt ha i32_r0).mpr h9)) H locs ls hP hS hl)
theorem pw_icmp_ge {X : CX} {K : KX} {lay : List PD} {cc : ByteArray} {own : String} {nL : Nat} {ret : Option FieldType} {d : Nat} {cs : Nat × Nat} {Z : State → Prop} {pc : Nat} {st : List Value} {M : Mem} (C : CXok X K lay cc own nL ret d) {L : List (Option Value)} {a b : Int} {off : Int} {tgt : Nat} (hd : decode cc pc = .ok (.if_icmp .ge off, 3)) (ht : (pc : Int) + off = (tgt : Int)) (ha : -2147483648 ≤ a ∧ a ≤ 2147483647) (hb9 : -2147483648 ≤ b ∧ b ≤ 2147483647) (kt : b ≤ a → PW X K lay nL cs Z tgt L st M) (kf : a < b → PW X K lay nL cs Z (pc + 3) L st M) :
    PW X K lay nL cs Z pc L (iV b :: iV a :: st) M := by
  obtain ⟨p, l, e, R, s, m, args, below, meth, c, A⟩ := X
  obtain ⟨hx, hb, hml, hown, hts, hK, hinj, hAk, hA, hlk, hrt, hfr, hlo⟩ := C
  intro H locs ls hP hS hl
  exact lv_icmp_ge hx hb hd ht (fun h => kt ((i32_le hb9 ha).mp h) H locs ls hP hS hl) (fun h => kf (Int.not_le.mp fun h9 => h ((i32_le hb9 ha).mpr h9)) H locs ls hP hS hl)
theorem pw_if_ge {X : CX} {K : KX} {lay : List PD} {cc : ByteArray} {own : String} {nL : Nat} {ret : Option FieldType} {d : Nat} {cs : Nat × Nat} {Z : State → Prop} {pc : Nat} {st : List Value} {M : Mem} (C : CXok X K lay cc own nL ret d) {L : List (Option Value)} {a : Int} {off : Int} {tgt : Nat} (hd : decode cc pc = .ok (.ifCond .ge off, 3)) (ht : (pc : Int) + off = (tgt : Int)) (ha : -2147483648 ≤ a ∧ a ≤ 2147483647) (kt : 0 ≤ a → PW X K lay nL cs Z tgt L st M) (kf : a < 0 → PW X K lay nL cs Z (pc + 3) L st M) :
    PW X K lay nL cs Z pc L (iV a :: st) M := by
  obtain ⟨p, l, e, R, s, m, args, below, meth, c, A⟩ := X
  obtain ⟨hx, hb, hml, hown, hts, hK, hinj, hAk, hA, hlk, hrt, hfr, hlo⟩ := C
  intro H locs ls hP hS hl
  exact lv_if_ge hx hb hd ht (fun h => kt ((i32_le i32_r0 ha).mp h) H locs ls hP hS hl) (fun h => kf (Int.not_le.mp fun h9 => h ((i32_le i32_r0 ha).mpr h9)) H locs ls hP hS hl)
theorem pw_icmp_gt {X : CX} {K : KX} {lay : List PD} {cc : ByteArray} {own : String} {nL : Nat} {ret : Option FieldType} {d : Nat} {cs : Nat × Nat} {Z : State → Prop} {pc : Nat} {st : List Value} {M : Mem} (C : CXok X K lay cc own nL ret d) {L : List (Option Value)} {a b : Int} {off : Int} {tgt : Nat} (hd : decode cc pc = .ok (.if_icmp .gt off, 3)) (ht : (pc : Int) + off = (tgt : Int)) (ha : -2147483648 ≤ a ∧ a ≤ 2147483647) (hb9 : -2147483648 ≤ b ∧ b ≤ 2147483647) (kt : b < a → PW X K lay nL cs Z tgt L st M) (kf : a ≤ b → PW X K lay nL cs Z (pc + 3) L st M) :
    PW X K lay nL cs Z pc L (iV b :: iV a :: st) M := by
  obtain ⟨p, l, e, R, s, m, args, below, meth, c, A⟩ := X
  obtain ⟨hx, hb, hml, hown, hts, hK, hinj, hAk, hA, hlk, hrt, hfr, hlo⟩ := C
  intro H locs ls hP hS hl
  exact lv_icmp_gt hx hb hd ht (fun h => kt ((i32_lt hb9 ha).mp h) H locs ls hP hS hl) (fun h => kf (Int.not_lt.mp fun h9 => h ((i32_lt hb9 ha).mpr h9)) H locs ls hP hS hl)
theorem pw_if_gt {X : CX} {K : KX} {lay : List PD} {cc : ByteArray} {own : String} {nL : Nat} {ret : Option FieldType} {d : Nat} {cs : Nat × Nat} {Z : State → Prop} {pc : Nat} {st : List Value} {M : Mem} (C : CXok X K lay cc own nL ret d) {L : List (Option Value)} {a : Int} {off : Int} {tgt : Nat} (hd : decode cc pc = .ok (.ifCond .gt off, 3)) (ht : (pc : Int) + off = (tgt : Int)) (ha : -2147483648 ≤ a ∧ a ≤ 2147483647) (kt : 0 < a → PW X K lay nL cs Z tgt L st M) (kf : a ≤ 0 → PW X K lay nL cs Z (pc + 3) L st M) :
    PW X K lay nL cs Z pc L (iV a :: st) M := by
  obtain ⟨p, l, e, R, s, m, args, below, meth, c, A⟩ := X
  obtain ⟨hx, hb, hml, hown, hts, hK, hinj, hAk, hA, hlk, hrt, hfr, hlo⟩ := C
  intro H locs ls hP hS hl
  exact lv_if_gt hx hb hd ht (fun h => kt ((i32_lt i32_r0 ha).mp h) H locs ls hP hS hl) (fun h => kf (Int.not_lt.mp fun h9 => h ((i32_lt i32_r0 ha).mpr h9)) H locs ls hP hS hl)
theorem pw_icmp_le {X : CX} {K : KX} {lay : List PD} {cc : ByteArray} {own : String} {nL : Nat} {ret : Option FieldType} {d : Nat} {cs : Nat × Nat} {Z : State → Prop} {pc : Nat} {st : List Value} {M : Mem} (C : CXok X K lay cc own nL ret d) {L : List (Option Value)} {a b : Int} {off : Int} {tgt : Nat} (hd : decode cc pc = .ok (.if_icmp .le off, 3)) (ht : (pc : Int) + off = (tgt : Int)) (ha : -2147483648 ≤ a ∧ a ≤ 2147483647) (hb9 : -2147483648 ≤ b ∧ b ≤ 2147483647) (kt : a ≤ b → PW X K lay nL cs Z tgt L st M) (kf : b < a → PW X K lay nL cs Z (pc + 3) L st M) :
    PW X K lay nL cs Z pc L (iV b :: iV a :: st) M := by
  obtain ⟨p, l, e, R, s, m, args, below, meth, c, A⟩ := X
  obtain ⟨hx, hb, hml, hown, hts, hK, hinj, hAk, hA, hlk, hrt, hfr, hlo⟩ := C
  intro H locs ls hP hS hl
  exact lv_icmp_le hx hb hd ht (fun h => kt ((i32_le ha hb9).mp h) H locs ls hP hS hl) (fun h => kf (Int.not_le.mp fun h9 => h ((i32_le ha hb9).mpr h9)) H locs ls hP hS hl)
theorem pw_if_le {X : CX} {K : KX} {lay : List PD} {cc : ByteArray} {own : String} {nL : Nat} {ret : Option FieldType} {d : Nat} {cs : Nat × Nat} {Z : State → Prop} {pc : Nat} {st : List Value} {M : Mem} (C : CXok X K lay cc own nL ret d) {L : List (Option Value)} {a : Int} {off : Int} {tgt : Nat} (hd : decode cc pc = .ok (.ifCond .le off, 3)) (ht : (pc : Int) + off = (tgt : Int)) (ha : -2147483648 ≤ a ∧ a ≤ 2147483647) (kt : a ≤ 0 → PW X K lay nL cs Z tgt L st M) (kf : 0 < a → PW X K lay nL cs Z (pc + 3) L st M) :
    PW X K lay nL cs Z pc L (iV a :: st) M := by
  obtain ⟨p, l, e, R, s, m, args, below, meth, c, A⟩ := X
  obtain ⟨hx, hb, hml, hown, hts, hK, hinj, hAk, hA, hlk, hrt, hfr, hlo⟩ := C
  intro H locs ls hP hS hl
  exact lv_if_le hx hb hd ht (fun h => kt ((i32_le ha i32_r0).mp h) H locs ls hP hS hl) (fun h => kf (Int.not_le.mp fun h9 => h ((i32_le ha i32_r0).mpr h9)) H locs ls hP hS hl)
theorem pw_goto {X : CX} {K : KX} {lay : List PD} {cc : ByteArray} {own : String} {nL : Nat} {ret : Option FieldType} {d : Nat} {cs : Nat × Nat} {Z : State → Prop} {pc : Nat} {st : List Value} {M : Mem} (C : CXok X K lay cc own nL ret d) {L : List (Option Value)} {off : Int} {tgt : Nat} (hd : decode cc pc = .ok (.goto off, 3)) (ht : (pc : Int) + off = (tgt : Int)) (k : PW X K lay nL cs Z tgt L st M) :
    PW X K lay nL cs Z pc L st M := by
  obtain ⟨p, l, e, R, s, m, args, below, meth, c, A⟩ := X
  obtain ⟨hx, hb, hml, hown, hts, hK, hinj, hAk, hA, hlk, hrt, hfr, hlo⟩ := C
  intro H locs ls hP hS hl
  exact lv_goto hx hb hd ht (k H locs ls hP hS hl)
theorem pw_top {X : CX} {K : KX} {lay : List PD} {cc : ByteArray} {own : String} {nL : Nat} {ret : Option FieldType} {d : Nat} {cs : Nat × Nat} {Z : State → Prop} {pc : Nat} {st : List Value} {M : Mem} (C : CXok X K lay cc own nL ret d) {L : List (Option Value)} {a : Int} (z : Int) (h : a = z) (k : PW X K lay nL cs Z pc L (iV z :: st) M) :
    PW X K lay nL cs Z pc L (iV a :: st) M := by
  subst h
  exact k
end
section
/-! fields, arrays, calls over the pure memory -/
theorem fs_set {K : KX} {m : Int → Int} {codes : List Nat} {j : Nat} {z : Int} (h : codes[j]? = some 0) :
    codes.mapIdx (fun i c => fV K (fun b => if b = (j : Int) then z else m b) i c) = (codes.mapIdx (fun i c => fV K m i c)).set j (iV z) := by
  apply List.ext_getElem?
  intro i
  rw [List.getElem?_set, List.getElem?_mapIdx, List.getElem?_mapIdx]
  have hj : j < codes.length := (List.getElem?_eq_some_iff.mp h).1
  by_cases hi : j = i
  · subst hi
    rw [if_pos rfl, if_pos (by rw [List.length_mapIdx]; exact hj), h]
    show some (iV (if (j : Int) = (j : Int) then z else m (j : Int))) = some (iV z)
    rw [if_pos rfl]
  · rw [if_neg hi]
    cases hc : codes[i]? with
    | none => rfl
    | some c =>
      show some (fV K _ i c) = some (fV K m i c)
      congr 1
      match c with
      | 0 =>
        show iV (if (i : Int) = (j : Int) then z else m (i : Int)) = iV (m (i : Int))
        rw [if_neg (by omega)]
      | 1 => rfl
      | t + 2 => rfl
theorem pw_get0 {X : CX} {K : KX} {lay : List PD} {cc : ByteArray} {own : String} {nL : Nat} {ret : Option FieldType} {d : Nat} {cs : Nat × Nat} {Z : State → Prop} {pc : Nat} {st : List Value} {M : Mem} (C : CXok X K lay cc own nL ret d) {L : List (Option Value)}
    {k ci idx N : Nat} {codes : List Nat} {Cn : String} {T : u_T} (hlay : lay[k]? = some (0, ci, codes)) (hci : vwCl[ci]? = some (Cn, T, N)) (hin : ∀ w ∈ u_ws Cn T N, w ∈ wsL_law0) (j : Nat) (hj : j < N) {c : Nat} (hcode : codes[j]? = some c)
    (hlink : Cond.fieldLink own idx (T j).1 (T j).2.1 (T j).2.2.1 ∈ wsL_law0) (hd : decode cc pc = .ok (.getfield idx, 3)) (kk : PW X K lay nL cs Z (pc + 3) L (fV K (M k) j c :: st) M) : PW X K lay nL cs Z pc L (rV K k :: st) M := by
  obtain ⟨p, l, e, R, s, m, args, below, meth, c0, A⟩ := X
  obtain ⟨hx, hb, hml, hown, hts, hK, hinj, hAk, hA, hlk, hrt, hfr, hlo⟩ := C
  intro H locs ls hP hS hl
  exact va_get (D := K.1) (ci := ci) (v := fV K (M k) j c) (C := Cn) (T := T) (N := N) hx hb hts hin hown hK hP k (wld_get hlay) hci j hj (hts _ hlink) (fun _ h => h) (by rw [List.getElem?_mapIdx, hcode]; rfl) hd (kk H locs ls hP hS hl)
theorem pw_put0 {X : CX} {K : KX} {lay : List PD} {cc : ByteArray} {own : String} {nL : Nat} {ret : Option FieldType} {d : Nat} {cs : Nat × Nat} {Z : State → Prop} {pc : Nat} {st : List Value} {M : Mem} (C : CXok X K lay cc own nL ret d) {L : List (Option Value)}
    {k ci idx N : Nat} {codes : List Nat} {Cn : String} {T : u_T} (hlay : lay[k]? = some (0, ci, codes)) (hci : vwCl[ci]? = some (Cn, T, N)) (hin : ∀ w ∈ u_ws Cn T N, w ∈ wsL_law0) (ty0 : Nat → FieldType) (hty : ∀ k, k < N → parseFieldDescriptor (T k).2.2.1 = some (ty0 k)) (hnm : ∀ a, a < N → ∀ b, b < N → a ≠ b → (T a).2.1 ≠ (T b).2.1)
    (j : Nat) (hj : j < N) (hcode : codes[j]? = some 0) (hfin : (T j).2.2.2 = false) {z : Int} (hn : narrow (ty0 j) (iV z) = iV z) (hfit : fits (ty0 j) (iV z) = true)
    (hlink : Cond.fieldLink own idx (T j).1 (T j).2.1 (T j).2.2.1 ∈ wsL_law0) (hd : decode cc pc = .ok (.putfield idx, 3)) (kk : PW X K lay nL cs Z (pc + 3) L st (up2 M k (j : Int) z)) : PW X K lay nL cs Z pc L (iV z :: rV K k :: st) M := by
  obtain ⟨p, l, e, R, s, m, args, below, meth, c0, A⟩ := X
  obtain ⟨hx, hb, hml, hown, hts, hK, hinj, hAk, hA, hlk, hrt, hfr, hlo⟩ := C
  intro H locs ls hP hS hl
  have hjl : j < codes.length := (List.getElem?_eq_some_iff.mp hcode).1
  refine va_put (D := K.1) (ci := ci) (v := iV z) (ty := ty0 j) (C := Cn) (T := T) (N := N) hx hb hts hin ty0 hty hnm hown hK hP (wld_D hinj hAk) hS k (wld_get hlay) hci j hj (hts _ hlink) (fun _ h => h) hfin (hty j hj) hn hfit (by rw [List.length_mapIdx]; exact hjl) hd (fun H1 locs1 hP1 hD1 hS1 => ?_)
  refine kk H1 locs1 ls ?_ hS1 hl
  have e1 := wld_set (K := K) (lay := lay) (M := M) (M' := up2 M k (j : Int) z) hlay (fun a ha => up2_ne ha)
  rw [← e1]
  have e2 : cE K (0, ci, codes) (up2 M k (j : Int) z k) = .inr (ci, (codes.mapIdx (fun i c => fV K (M k) i c)).set j (iV z)) := by
    show Sum.inr (ci, codes.mapIdx (fun i c => fV K (up2 M k (j : Int) z k) i c)) = _
    rw [up2_eq, fs_set hcode]
  rw [e2]
  exact hP1
theorem upd_of {m : Int → Int} {z v : Int} (hz : 0 ≤ z ∧ z ≤ 2147483647) : (fun j : Nat => Int32.ofInt ((fun b => if b = z then v else m b) (j : Int))) = upd (fun j : Nat => Int32.ofInt (m (j : Int))) (Int32.ofInt z).toNatClampNeg (Int32.ofInt v) := by
  rw [i32_clamp hz]
  funext j
  unfold upd
  by_cases h : j = z.toNat
  · rw [if_pos h]
    show Int32.ofInt (if (j : Int) = z then v else m (j : Int)) = _
    rw [if_pos (by omega)]
  · rw [if_neg h]
    show Int32.ofInt (if (j : Int) = z then v else m (j : Int)) = _
    rw [if_neg (by omega)]
theorem pw_iaload {X : CX} {K : KX} {lay : List PD} {cc : ByteArray} {own : String} {nL : Nat} {ret : Option FieldType} {d : Nat} {cs : Nat × Nat} {Z : State → Prop} {pc : Nat} {st : List Value} {M : Mem} (C : CXok X K lay cc own nL ret d) {L : List (Option Value)} {k n : Nat} {z : Int} (hlay : lay[k]? = some (1, n, [])) (hz : 0 ≤ z ∧ z < (n : Int)) (hn : n < 2147483648) (hd : decode cc pc = .ok (.iaload, 1))
    (kk : PW X K lay nL cs Z (pc + 1) L (iV (M k z) :: st) M) : PW X K lay nL cs Z pc L (iV z :: rV K k :: st) M := by
  obtain ⟨p, l, e, R, s, m, args, below, meth, c0, A⟩ := X
  obtain ⟨hx, hb, hml, hown, hts, hK, hinj, hAk, hA, hlk, hrt, hfr, hlo⟩ := C
  intro H locs ls hP hS hl
  refine va_iald (D := K.1) hx hb hK hP k 0 (wld_get hlay) rfl (i32_in hz hn) hd ?_
  have e1 : (((Int32.ofInt z).toNatClampNeg : Nat) : Int) = z := by rw [i32_clamp (by omega)]; omega
  rw [e1]
  exact kk H locs ls hP hS hl
theorem pw_baload {X : CX} {K : KX} {lay : List PD} {cc : ByteArray} {own : String} {nL : Nat} {ret : Option FieldType} {d : Nat} {cs : Nat × Nat} {Z : State → Prop} {pc : Nat} {st : List Value} {M : Mem} (C : CXok X K lay cc own nL ret d) {L : List (Option Value)} {k n : Nat} {z : Int} (hlay : lay[k]? = some (2, n, [])) (hz : 0 ≤ z ∧ z < (n : Int)) (hn : n < 2147483648) (hd : decode cc pc = .ok (.baload, 1))
    (kk : PW X K lay nL cs Z (pc + 1) L (iV (M k z) :: st) M) : PW X K lay nL cs Z pc L (iV z :: rV K k :: st) M := by
  obtain ⟨p, l, e, R, s, m, args, below, meth, c0, A⟩ := X
  obtain ⟨hx, hb, hml, hown, hts, hK, hinj, hAk, hA, hlk, hrt, hfr, hlo⟩ := C
  intro H locs ls hP hS hl
  refine va_bald (D := K.1) hx hb hK hP k 1 (wld_get hlay) rfl (i32_in hz hn) hd ?_
  have e1 : (((Int32.ofInt z).toNatClampNeg : Nat) : Int) = z := by rw [i32_clamp (by omega)]; omega
  rw [e1]
  exact kk H locs ls hP hS hl
theorem pw_zaload {X : CX} {K : KX} {lay : List PD} {cc : ByteArray} {own : String} {nL : Nat} {ret : Option FieldType} {d : Nat} {cs : Nat × Nat} {Z : State → Prop} {pc : Nat} {st : List Value} {M : Mem} (C : CXok X K lay cc own nL ret d) {L : List (Option Value)} {k n : Nat} {z : Int} (hlay : lay[k]? = some (3, n, [])) (hz : 0 ≤ z ∧ z < (n : Int)) (hn : n < 2147483648) (hd : decode cc pc = .ok (.baload, 1))
    (kk : PW X K lay nL cs Z (pc + 1) L (iV (M k z) :: st) M) : PW X K lay nL cs Z pc L (iV z :: rV K k :: st) M := by
  obtain ⟨p, l, e, R, s, m, args, below, meth, c0, A⟩ := X
  obtain ⟨hx, hb, hml, hown, hts, hK, hinj, hAk, hA, hlk, hrt, hfr, hlo⟩ := C
  intro H locs ls hP hS hl
  refine va_zald (D := K.1) hx hb hK hP k 2 (wld_get hlay) rfl (i32_in hz hn) hd ?_
  have e1 : (((Int32.ofInt z).toNatClampNeg : Nat) : Int) = z := by rw [i32_clamp (by omega)]; omega
  rw [e1]
  exact kk H locs ls hP hS hl
theorem pw_iastore {X : CX} {K : KX} {lay : List PD} {cc : ByteArray} {own : String} {nL : Nat} {ret : Option FieldType} {d : Nat} {cs : Nat × Nat} {Z : State → Prop} {pc : Nat} {st : List Value} {M : Mem} (C : CXok X K lay cc own nL ret d) {L : List (Option Value)} {k n : Nat} {z v : Int} (hlay : lay[k]? = some (1, n, [])) (hz : 0 ≤ z ∧ z < (n : Int)) (hn : n < 2147483648) (hd : decode cc pc = .ok (.iastore, 1))
    (kk : PW X K lay nL cs Z (pc + 1) L st (up2 M k z v)) : PW X K lay nL cs Z pc L (iV v :: iV z :: rV K k :: st) M := by
  obtain ⟨p, l, e, R, s, m, args, below, meth, c0, A⟩ := X
  obtain ⟨hx, hb, hml, hown, hts, hK, hinj, hAk, hA, hlk, hrt, hfr, hlo⟩ := C
  intro H locs ls hP hS hl
  refine va_iast (D := K.1) hx hb hK hP (wld_D hinj hAk) hS k 0 (wld_get hlay) rfl (i32_in hz hn) hd (fun H1 locs1 hP1 hD1 hS1 => ?_)
  refine kk H1 locs1 ls ?_ hS1 hl
  have e1 := wld_set (K := K) (lay := lay) (M := M) (M' := up2 M k z v) hlay (fun a ha => up2_ne ha)
  rw [← e1]
  have e2 : cE K (1, n, []) (up2 M k z v k) = .inl (K.2.1.1, n, .inl (upd (fun j : Nat => Int32.ofInt (M k (j : Int))) (Int32.ofInt z).toNatClampNeg (Int32.ofInt v))) := by
    show Sum.inl (_, n, Sum.inl (fun j : Nat => Int32.ofInt (up2 M k z v k (j : Int)))) = _
    rw [up2_eq, ← upd_of (by omega)]
  rw [e2]
  exact hP1
theorem pw_bastore {X : CX} {K : KX} {lay : List PD} {cc : ByteArray} {own : String} {nL : Nat} {ret : Option FieldType} {d : Nat} {cs : Nat × Nat} {Z : State → Prop} {pc : Nat} {st : List Value} {M : Mem} (C : CXok X K lay cc own nL ret d) {L : List (Option Value)} {k n : Nat} {z v : Int} (hlay : lay[k]? = some (2, n, [])) (hz : 0 ≤ z ∧ z < (n : Int)) (hn : n < 2147483648) (hv : -128 ≤ v ∧ v ≤ 127) (hd : decode cc pc = .ok (.bastore, 1))
    (kk : PW X K lay nL cs Z (pc + 1) L st (up2 M k z v)) : PW X K lay nL cs Z pc L (iV v :: iV z :: rV K k :: st) M := by
  obtain ⟨p, l, e, R, s, m, args, below, meth, c0, A⟩ := X
  obtain ⟨hx, hb, hml, hown, hts, hK, hinj, hAk, hA, hlk, hrt, hfr, hlo⟩ := C
  intro H locs ls hP hS hl
  refine va_bast (D := K.1) hx hb hK hP (wld_D hinj hAk) hS k 1 (wld_get hlay) rfl (i32_in hz hn) hd (fun H1 locs1 hP1 hD1 hS1 => ?_)
  refine kk H1 locs1 ls ?_ hS1 hl
  have e0 : vp_nar .byte (Int32.ofInt v) = Int32.ofInt v := by
    rw [vp_nar_byte]
    apply Int32.toInt_inj.mp
    rw [Int8.toInt_toInt32, Int32.toInt_toInt8, i32_rng (by omega), Int.bmod_def]
    have e1 : ((2 ^ 8 : Nat) : Int) = 256 := by decide
    rw [e1]
    split <;> omega
  rw [e0] at hP1
  have e1 := wld_set (K := K) (lay := lay) (M := M) (M' := up2 M k z v) hlay (fun a ha => up2_ne ha)
  rw [← e1]
  have e2 : cE K (2, n, []) (up2 M k z v k) = .inl (K.2.1.2.1, n, .inl (upd (fun j : Nat => Int32.ofInt (M k (j : Int))) (Int32.ofInt z).toNatClampNeg (Int32.ofInt v))) := by
    show Sum.inl (_, n, Sum.inl (fun j : Nat => Int32.ofInt (up2 M k z v k (j : Int)))) = _
    rw [up2_eq, ← upd_of (by omega)]
  rw [e2]
  exact hP1
theorem pw_zastore {X : CX} {K : KX} {lay : List PD} {cc : ByteArray} {own : String} {nL : Nat} {ret : Option FieldType} {d : Nat} {cs : Nat × Nat} {Z : State → Prop} {pc : Nat} {st : List Value} {M : Mem} (C : CXok X K lay cc own nL ret d) {L : List (Option Value)} {k n : Nat} {z v : Int} (hlay : lay[k]? = some (3, n, [])) (hz : 0 ≤ z ∧ z < (n : Int)) (hn : n < 2147483648) (hv : v = 0 ∨ v = 1) (hd : decode cc pc = .ok (.bastore, 1))
    (kk : PW X K lay nL cs Z (pc + 1) L st (up2 M k z v)) : PW X K lay nL cs Z pc L (iV v :: iV z :: rV K k :: st) M := by
  obtain ⟨p, l, e, R, s, m, args, below, meth, c0, A⟩ := X
  obtain ⟨hx, hb, hml, hown, hts, hK, hinj, hAk, hA, hlk, hrt, hfr, hlo⟩ := C
  intro H locs ls hP hS hl
  refine va_zast (D := K.1) hx hb hK hP (wld_D hinj hAk) hS k 2 (wld_get hlay) rfl (i32_in hz hn) hd (fun H1 locs1 hP1 hD1 hS1 => ?_)
  refine kk H1 locs1 ls ?_ hS1 hl
  have e0 : vp_nar .boolean (Int32.ofInt v) = Int32.ofInt v := by
    rcases hv with rfl | rfl <;> decide
  rw [e0] at hP1
  have e1 := wld_set (K := K) (lay := lay) (M := M) (M' := up2 M k z v) hlay (fun a ha => up2_ne ha)
  rw [← e1]
  have e2 : cE K (3, n, []) (up2 M k z v k) = .inl (K.2.1.2.2.1, n, .inl (upd (fun j : Nat => Int32.ofInt (M k (j : Int))) (Int32.ofInt z).toNatClampNeg (Int32.ofInt v))) := by
    show Sum.inl (_, n, Sum.inl (fun j : Nat => Int32.ofInt (up2 M k z v k (j : Int)))) = _
    rw [up2_eq, ← upd_of (by omega)]
  rw [e2]
  exact hP1
theorem pw_iret {X : CX} {K : KX} {lay : List PD} {cc : ByteArray} {own : String} {nL : Nat} {d pc : Nat} {M : Mem} {Q : Option Value → Mem → Prop} {L : List (Option Value)} (C : CXok X K lay cc own nL (some .int) d) {z : Int} (hd : decode cc pc = .ok (.ireturn, 1)) (hq : Q (some (iV z)) M) : PW X K lay nL (0, 0) (ZM X K lay Q) pc L [iV z] M := by
  obtain ⟨p, l, e, R, s, m, args, below, meth, c0, A⟩ := X
  obtain ⟨hx, hb, hml, hown, hts, hK, hinj, hAk, hA, hlk, hrt, hfr, hlo⟩ := C
  intro H locs ls hP hS hl
  exact W.iret (v := Int32.ofInt z) hx hb hrt (fun t ht hW => ⟨⟨_, M, rfl, hq, by rw [ht]; exact hP, va_K.moved hW.alike hK⟩, hS.F ht⟩) hS.2.2 hd
theorem pw_zret {X : CX} {K : KX} {lay : List PD} {cc : ByteArray} {own : String} {nL : Nat} {d pc : Nat} {M : Mem} {Q : Option Value → Mem → Prop} {L : List (Option Value)} (C : CXok X K lay cc own nL (some .boolean) d) {z : Int} (hz : z = 0 ∨ z = 1) (hd : decode cc pc = .ok (.ireturn, 1)) (hq : Q (some (iV z)) M) : PW X K lay nL (0, 0) (ZM X K lay Q) pc L [iV z] M := by
  obtain ⟨p, l, e, R, s, m, args, below, meth, c0, A⟩ := X
  obtain ⟨hx, hb, hml, hown, hts, hK, hinj, hAk, hA, hlk, hrt, hfr, hlo⟩ := C
  intro H locs ls hP hS hl
  exact W.zret (v := Int32.ofInt z) (ty := .boolean) hx hb hrt (by rcases hz with rfl | rfl <;> decide) (fun t ht hW => ⟨⟨_, M, rfl, hq, by rw [ht]; exact hP, va_K.moved hW.alike hK⟩, hS.F ht⟩) hS.2.2 hd
theorem pw_vret {X : CX} {K : KX} {lay : List PD} {cc : ByteArray} {own : String} {nL : Nat} {d pc : Nat} {M : Mem} {Q : Option Value → Mem → Prop} {L : List (Option Value)} (C : CXok X K lay cc own nL none d) (hd : decode cc pc = .ok (.return_, 1)) (hq : Q none M) : PW X K lay nL (0, 0) (ZM X K lay Q) pc L [] M := by
  obtain ⟨p, l, e, R, s, m, args, below, meth, c0, A⟩ := X
  obtain ⟨hx, hb, hml, hown, hts, hK, hinj, hAk, hA, hlk, hrt, hfr, hlo⟩ := C
  intro H locs ls hP hS hl
  exact W.vret hx hb hrt (fun t ht hW => ⟨⟨_, M, rfl, hq, by rw [ht]; exact hP, va_K.moved hW.alike hK⟩, hS.F ht⟩) hS.2.2 hd
/-- what a callee's words say -/
def CB (y : MethodName) (cc : ByteArray) (nL : Nat) (ret : Option FieldType) (n : Nat) : Prop := Cond.instanceMethod y ∈ wsL_law0 ∧ Cond.selects y.cls y y ∈ wsL_law0 ∧ Cond.initialized y.cls ∈ wsL_law0 ∧ Cond.code y cc nL ret ∈ wsL_law0 ∧ (y.cls ≠ "java/lang/invoke/MethodHandle" ∧ y.cls ≠ "java/lang/invoke/VarHandle" ∧ (parseMethodDescriptor y.desc).map (fun d => d.parameters.length) = some n) ∧ nL ≤ 40
def CBS (y : MethodName) (cc : ByteArray) (nL : Nat) (ret : Option FieldType) (n : Nat) : Prop := Cond.static y ∈ wsL_law0 ∧ Cond.initialized y.cls ∈ wsL_law0 ∧ Cond.code y cc nL ret ∈ wsL_law0 ∧ (y.cls ≠ "java/lang/invoke/MethodHandle" ∧ y.cls ≠ "java/lang/invoke/VarHandle" ∧ (parseMethodDescriptor y.desc).map (fun d => d.parameters.length) = some n) ∧ nL ≤ 40
theorem gT_code {y : MethodName} {cc : ByteArray} {nL : Nat} {ret : Option FieldType} (h : Cond.code y cc nL ret ∈ wsL_law0) : GoodIn wsL_law0 (Cond.code y cc nL ret :: wsL_law0) := by
  intro w hw
  have hm : w ∈ wsL_law0 := by
    rcases List.mem_cons.mp hw with e | e
    · rw [e]; exact h
    · exact e
  exact ⟨hm, good_of_word (gT_good w hm)⟩
theorem MC_blind {K : KX} {lay : List PD} {av : List Value} {M : Mem} {sz : Nat} : FrameBlind (va_Pc av (fun U => U.heap.size = sz ∧ va_P K.1 vwCl (wld K lay M) U.heap ∧ va_K K.1 vwCl (tysK K) U ∧ injK K lay)) := by
  intro a U g mk q
  obtain ⟨q0, q1, qP, qK, qD⟩ := q
  exact ⟨q0, q1, qP, va_K.moved (u := U) (U := U.calling g mk a) (Vm.Alike.refl U.vm) qK, qD⟩
theorem pw_after {p : Program} {l : Launch} {e : Env} {R : Room} {s : State} {m : MethodId} {args : Array Value} {below : List Frame} {meth : Method} {c : Code} {A : Nat → Prop} {K : KX} {lay : List PD} {cs : Nat × Nat} {Z : State → Prop} {pc : Nat} {ls : Array Slot} {st0 rest : List Value} {H : Heap} {locs : List Loc} {Q : Option Value → Mem → Prop} {a : Array Value}
    (hr : va_Run p l e R s m args below meth c H locs cs.1 cs.2 0 0 (F0 m pc ls st0) rest (QQ K lay (AK K lay H.size) Q a) (AK K lay H.size)) (hS : va_S A s.heap H locs) (hAk : ∀ k, k < lay.length → A (K.2.2 k)) (hA : ∀ q, s.heap.size ≤ q → A q)
    (kk : ∀ (v : Option Value) (M' : Mem) (H1 : Heap) (locs1 : List Loc), Q v M' → va_P K.1 vwCl (wld K lay M') H1 → va_S A s.heap H1 locs1 → W p l e R s m args below meth c H1 locs1 cs.1 cs.2 Z (F0 m (pc + 3) ls (v.toList ++ rest))) : W p l e R s m args below meth c H locs cs.1 cs.2 Z (F0 m pc ls st0) := by
  have hAA : ∀ q, AK K lay H.size q → A q := by
    intro q h
    rcases h with ⟨k, hk, rfl⟩ | h
    · exact hAk k hk
    · exact hA q (Nat.le_trans hS.1 h)
  intro T hT X
  obtain ⟨v, st₀, t, T', L, h0, X', hL, e1, e2, ⟨⟨v2, M', hv, hp, hb, hk9⟩, hz, hk⟩, st⟩ := hr T hT X
  cases hv
  rw [h0] at hz hk
  obtain ⟨t2, a1, b1⟩ := kk v M' T'.heap (locs ++ L) hp (by rw [e1]; exact hb)
    ⟨Nat.le_trans hS.1 (by rw [e1]; exact hz), fun q h1 h2 => by rw [e1, hk q (Nat.lt_of_lt_of_le h1 hS.1) (fun z => h2 (hAA q z))]; exact hS.2.1 q h1 h2, fun q hq => by
      rcases List.mem_append.mp hq with h | h
      · exact hS.2.2 q h
      · exact hAA _ (hL q h)⟩ T' rfl X'
  exact ⟨t2, st t2 a1, b1⟩
theorem pw_callV {X : CX} {K : KX} {lay : List PD} {cc : ByteArray} {own : String} {nL : Nat} {ret : Option FieldType} {d : Nat} {cs : Nat × Nat} {Z : State → Prop} {pc : Nat} {st : List Value} {M : Mem} (C : CXok X K lay cc own nL ret d) {L : List (Option Value)} {Cn : String} {T : u_T} {N ci k idx n nL' d' : Nat} {codes : List Nat} {y : MethodName} {cc' : ByteArray} {ret' : Option FieldType} {As rest : List Value} {Q : Option Value → Mem → Prop} (hM : MC (lOf X) K lay y cc' nL' ret' d' (rV K k :: As) M Q) (hB : CB y cc' nL' ret' n) (hlay : lay[k]? = some (0, ci, codes)) (hci : vwCl[ci]? = some (Cn, T, N)) (hcl : y.cls = Cn) (hml9 : Cond.methodLink own idx y ∈ wsL_law0) (hd : decode cc pc = .ok (.invokevirtual idx, 3)) (hdd : d' < d) (hcs : cs.1 ≤ X.2.2.2.1.cells ∧ cs.2 ≤ X.2.2.2.1.slots) (hn : As.length = n) (hrest : (rest.map fun v => v.category).sum ≤ 8) (hst : st = As.reverse ++ rV K k :: rest)
    (kk : ∀ (v : Option Value) (M' : Mem), Q v M' → PW X K lay nL cs Z (pc + 3) L (v.toList ++ rest) M') : PW X K lay nL cs Z pc L st M := by
  obtain ⟨p, l, e, R, s, m, args, below, meth, c0, A⟩ := X
  obtain ⟨hx, hb, hml, hown, hts, hK, hinj, hAk, hA, hlk, hrt, hfr, hlo⟩ := C
  intro H locs ls hP hS hl
  subst hst
  subst hcl
  obtain ⟨b1, b2, b3, b4, b5, b6⟩ := hB
  have hM := hM H.size
  refine pw_after (va_runV (As := As) (rest := rest) (C := y.cls) (n := n) ⟨hx, hb, hml, hown, hts⟩ hM ⟨callB_of n hts (gT_code b4) rfl rfl rfl (hts _ b3) (hts _ hml9) b5 ⟨by show d' + 1 ≤ R.frames; omega, by show 8 + (nL' + 11) + 64 * d' ≤ R.locals; omega⟩, hts _ b1, hts _ b2⟩ ⟨MC_blind, va_recv hK hP hci (wld_get hlay), fun U hU hW => ⟨rfl, by rw [hU], by rw [hU]; exact hP, va_K.moved hW.alike hK, hinj⟩⟩ rfl hn hl.1.1 rfl (lv_room hrest) hd ⟨hcs.1, hcs.2⟩) hS hAk hA (fun v M' H1 locs1 hq hP1 hS1 => ?_)
  exact kk v M' hq H1 locs1 ls hP1 hS1 hl
theorem pw_callS {X : CX} {K : KX} {lay : List PD} {cc : ByteArray} {own : String} {nL : Nat} {ret : Option FieldType} {d : Nat} {cs : Nat × Nat} {Z : State → Prop} {pc : Nat} {st : List Value} {M : Mem} (C : CXok X K lay cc own nL ret d) {L : List (Option Value)} {idx n nL' d' : Nat} {y : MethodName} {cc' : ByteArray} {ret' : Option FieldType} {As rest : List Value} {Q : Option Value → Mem → Prop} (hM : MC (lOf X) K lay y cc' nL' ret' d' As M Q) (hB : CBS y cc' nL' ret' n) (hml9 : Cond.methodLink own idx y ∈ wsL_law0) (hd : decode cc pc = .ok (.invokestatic idx, 3)) (hdd : d' < d) (hcs : cs.1 ≤ X.2.2.2.1.cells ∧ cs.2 ≤ X.2.2.2.1.slots) (hn : As.length = n) (hrest : (rest.map fun v => v.category).sum ≤ 8) (hst : st = As.reverse ++ rest)
    (kk : ∀ (v : Option Value) (M' : Mem), Q v M' → PW X K lay nL cs Z (pc + 3) L (v.toList ++ rest) M') : PW X K lay nL cs Z pc L st M := by
  obtain ⟨p, l, e, R, s, m, args, below, meth, c0, A⟩ := X
  obtain ⟨hx, hb, hml, hown, hts, hK, hinj, hAk, hA, hlk, hrt, hfr, hlo⟩ := C
  intro H locs ls hP hS hl
  subst hst
  obtain ⟨b1, b3, b4, b5, b6⟩ := hB
  have hM := hM H.size
  refine pw_after (va_runS (As := As) (rest := rest) (n := n) ⟨hx, hb, hml, hown, hts⟩ hM ⟨callB_of n hts (gT_code b4) rfl rfl rfl (hts _ b3) (hts _ hml9) b5 ⟨by show d' + 1 ≤ R.frames; omega, by show 8 + (nL' + 11) + 64 * d' ≤ R.locals; omega⟩, hts _ b1⟩ ⟨MC_blind, fun U hU hW => ⟨rfl, by rw [hU], by rw [hU]; exact hP, va_K.moved hW.alike hK, hinj⟩⟩ rfl hn hl.1.1 rfl (lv_room hrest) hd ⟨hcs.1, hcs.2⟩) hS hAk hA (fun v M' H1 locs1 hq hP1 hS1 => ?_)
  exact kk v M' hq H1 locs1 ls hP1 hS1 hl
theorem pw_mmin {X : CX} {K : KX} {lay : List PD} {cc : ByteArray} {own : String} {nL : Nat} {ret : Option FieldType} {d : Nat} {Z : State → Prop} {pc : Nat} {st : List Value} {M : Mem} {L : List (Option Value)} (C : CXok X K lay cc own nL ret (d + 1)) {idx : Nat} {a b : Int} (ha : -2147483648 ≤ a ∧ a ≤ 2147483647) (hb9 : -2147483648 ≤ b ∧ b ≤ 2147483647) (hrest : (st.map fun v => v.category).sum ≤ 8) (hml9 : Cond.methodLink own idx Lib.Math.min.name ∈ wsL_law0) (hd : decode cc pc = .ok (.invokestatic idx, 3))
    (kk : PW X K lay nL (0, 0) Z (pc + 3) L (iV (if a ≤ b then a else b) :: st) M) : PW X K lay nL (0, 0) Z pc L (iV b :: iV a :: st) M := by
  obtain ⟨p, l, e, R, s, m, args, below, meth, c0, A⟩ := X
  obtain ⟨hx, hb, hml, hown, hts, hK, hinj, hAk, hA, hlk, hrt, hfr, hlo⟩ := C
  intro H locs ls hP hS hl
  refine va_mmin hx hb (by rw [hml, hl.1.1]) hown (hts _ hml9) (hts _ st_Lib_Math_min_name) (hts _ in__java_lang_Math_) (hts _ cd_Lib_Math_min_name) (by omega) (by omega) (Nat.zero_le _) (Nat.zero_le _) hd ?_
  have e1 := kk H locs ls hP hS hl
  try rw [i32_lt hb9 ha]
  try rw [i32_lt ha hb9]
  try rw [i32_le hb9 ha]
  try rw [i32_le ha hb9]
  unfold iV at e1
  split at e1 <;> split <;> first | exact e1 | (exfalso; omega) | (have e9 : a = b := by omega
                                                                  subst e9
                                                                  exact e1)
theorem pw_mmax {X : CX} {K : KX} {lay : List PD} {cc : ByteArray} {own : String} {nL : Nat} {ret : Option FieldType} {d : Nat} {Z : State → Prop} {pc : Nat} {st : List Value} {M : Mem} {L : List (Option Value)} (C : CXok X K lay cc own nL ret (d + 1)) {idx : Nat} {a b : Int} (ha : -2147483648 ≤ a ∧ a ≤ 2147483647) (hb9 : -2147483648 ≤ b ∧ b ≤ 2147483647) (hrest : (st.map fun v => v.category).sum ≤ 8) (hml9 : Cond.methodLink own idx Lib.Math.max.name ∈ wsL_law0) (hd : decode cc pc = .ok (.invokestatic idx, 3))
    (kk : PW X K lay nL (0, 0) Z (pc + 3) L (iV (if a ≤ b then b else a) :: st) M) : PW X K lay nL (0, 0) Z pc L (iV b :: iV a :: st) M := by
  obtain ⟨p, l, e, R, s, m, args, below, meth, c0, A⟩ := X
  obtain ⟨hx, hb, hml, hown, hts, hK, hinj, hAk, hA, hlk, hrt, hfr, hlo⟩ := C
  intro H locs ls hP hS hl
  refine va_mmax hx hb (by rw [hml, hl.1.1]) hown (hts _ hml9) (hts _ st_Lib_Math_max_name) (hts _ in__java_lang_Math_) (hts _ cd_Lib_Math_max_name) (by omega) (by omega) (Nat.zero_le _) (Nat.zero_le _) hd ?_
  have e1 := kk H locs ls hP hS hl
  try rw [i32_lt hb9 ha]
  try rw [i32_lt ha hb9]
  try rw [i32_le hb9 ha]
  try rw [i32_le ha hb9]
  unfold iV at e1
  split at e1 <;> split <;> first | exact e1 | (exfalso; omega) | (have e9 : a = b := by omega
                                                                  subst e9
                                                                  exact e1)
end
section
theorem nw_last : True := trivial
end
