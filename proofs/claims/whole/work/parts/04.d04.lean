theorem dX10_part_15 : decode cX10_part 15 = .ok (.iload_n 2, 1) := by decide +kernel
theorem dX10_part_16 : decode cX10_part 16 = .ok (.iconst 2, 1) := by decide +kernel
theorem dX10_part_17 : decode cX10_part 17 = .ok (.if_icmp .le 5, 3) := by decide +kernel
theorem dX10_part_20 : decode cX10_part 20 = .ok (.iconst 0, 1) := by decide +kernel
theorem dX10_part_21 : decode cX10_part 21 = .ok (.ireturn, 1) := by decide +kernel
theorem dX10_part_22 : decode cX10_part 22 = .ok (.aload_n 0, 1) := by decide +kernel
theorem dX10_part_23 : decode cX10_part 23 = .ok (.getfield 26, 3) := by decide +kernel
theorem dX10_part_26 : decode cX10_part 26 = .ok (.getfield 142, 3) := by decide +kernel
theorem dX10_part_29 : decode cX10_part 29 = .ok (.iload_n 1, 1) := by decide +kernel
theorem dX10_part_30 : decode cX10_part 30 = .ok (.iload_n 2, 1) := by decide +kernel
theorem dX10_part_31 : decode cX10_part 31 = .ok (.iastore, 1) := by decide +kernel
theorem dX10_part_32 : decode cX10_part 32 = .ok (.aload_n 0, 1) := by decide +kernel
theorem dX10_part_33 : decode cX10_part 33 = .ok (.invokevirtual 132, 3) := by decide +kernel
theorem dX10_part_36 : decode cX10_part 36 = .ok (.iconst 1, 1) := by decide +kernel
theorem dX10_part_37 : decode cX10_part 37 = .ok (.ireturn, 1) := by decide +kernel
theorem dX10_apart_0 : decode cX10_apart 0 = .ok (.aload_n 0, 1) := by decide +kernel
theorem dX10_apart_1 : decode cX10_apart 1 = .ok (.getfield 26, 3) := by decide +kernel
theorem dX10_apart_4 : decode cX10_apart 4 = .ok (.iload_n 1, 1) := by decide +kernel
theorem dX10_apart_5 : decode cX10_apart 5 = .ok (.invokevirtual 139, 3) := by decide +kernel
theorem dX10_apart_8 : decode cX10_apart 8 = .ok (.ifCond .eq 14, 3) := by decide +kernel
theorem dX10_apart_11 : decode cX10_apart 11 = .ok (.aload_n 0, 1) := by decide +kernel
theorem dX10_apart_12 : decode cX10_apart 12 = .ok (.getfield 26, 3) := by decide +kernel
theorem dX10_apart_15 : decode cX10_apart 15 = .ok (.iload_n 2, 1) := by decide +kernel
theorem dX10_apart_16 : decode cX10_apart 16 = .ok (.invokevirtual 139, 3) := by decide +kernel
theorem dX10_apart_19 : decode cX10_apart 19 = .ok (.ifCond .ne 5, 3) := by decide +kernel
theorem dX10_apart_22 : decode cX10_apart 22 = .ok (.iconst (-1), 1) := by decide +kernel
theorem dX10_apart_23 : decode cX10_apart 23 = .ok (.ireturn, 1) := by decide +kernel
theorem dX10_apart_24 : decode cX10_apart 24 = .ok (.aload_n 0, 1) := by decide +kernel
theorem dX10_apart_25 : decode cX10_apart 25 = .ok (.getfield 10, 3) := by decide +kernel
theorem dX10_apart_28 : decode cX10_apart 28 = .ok (.aload_n 0, 1) := by decide +kernel
theorem dX10_apart_29 : decode cX10_apart 29 = .ok (.getfield 26, 3) := by decide +kernel
theorem dX10_apart_32 : decode cX10_apart 32 = .ok (.getfield 145, 3) := by decide +kernel
theorem dX10_apart_35 : decode cX10_apart 35 = .ok (.aload_n 0, 1) := by decide +kernel
theorem dX10_apart_36 : decode cX10_apart 36 = .ok (.getfield 26, 3) := by decide +kernel
theorem dX10_apart_39 : decode cX10_apart 39 = .ok (.iload_n 1, 1) := by decide +kernel
theorem dX10_apart_40 : decode cX10_apart 40 = .ok (.invokevirtual 148, 3) := by decide +kernel
theorem dX10_apart_43 : decode cX10_apart 43 = .ok (.aload_n 0, 1) := by decide +kernel
theorem dX10_apart_44 : decode cX10_apart 44 = .ok (.getfield 26, 3) := by decide +kernel
theorem dX10_apart_47 : decode cX10_apart 47 = .ok (.getfield 145, 3) := by decide +kernel
theorem dX10_apart_50 : decode cX10_apart 50 = .ok (.aload_n 0, 1) := by decide +kernel
theorem dX10_apart_51 : decode cX10_apart 51 = .ok (.getfield 26, 3) := by decide +kernel
theorem dX10_apart_54 : decode cX10_apart 54 = .ok (.iload_n 2, 1) := by decide +kernel
theorem dX10_apart_55 : decode cX10_apart 55 = .ok (.invokevirtual 148, 3) := by decide +kernel
theorem dX10_apart_58 : decode cX10_apart 58 = .ok (.aload_n 0, 1) := by decide +kernel
theorem dX10_apart_59 : decode cX10_apart 59 = .ok (.getfield 26, 3) := by decide +kernel
theorem dX10_apart_62 : decode cX10_apart 62 = .ok (.getfield 122, 3) := by decide +kernel
theorem dX10_apart_65 : decode cX10_apart 65 = .ok (.invokevirtual 151, 3) := by decide +kernel
theorem dX10_apart_68 : decode cX10_apart 68 = .ok (.ireturn, 1) := by decide +kernel
theorem dX10_from_0 : decode cX10_from 0 = .ok (.aload_n 0, 1) := by decide +kernel
theorem dX10_from_1 : decode cX10_from 1 = .ok (.getfield 19, 3) := by decide +kernel
theorem dX10_from_4 : decode cX10_from 4 = .ok (.aload_n 0, 1) := by decide +kernel
theorem dX10_from_5 : decode cX10_from 5 = .ok (.getfield 10, 3) := by decide +kernel
theorem dX10_from_8 : decode cX10_from 8 = .ok (.getfield 83, 3) := by decide +kernel
theorem dX10_from_11 : decode cX10_from 11 = .ok (.invokevirtual 118, 3) := by decide +kernel
theorem dX10_from_14 : decode cX10_from 14 = .ok (.istore_n 2, 1) := by decide +kernel
theorem dX10_from_15 : decode cX10_from 15 = .ok (.aload_n 0, 1) := by decide +kernel
theorem dX10_from_16 : decode cX10_from 16 = .ok (.getfield 26, 3) := by decide +kernel
theorem dX10_from_19 : decode cX10_from 19 = .ok (.iload_n 1, 1) := by decide +kernel
theorem dX10_from_20 : decode cX10_from 20 = .ok (.invokevirtual 139, 3) := by decide +kernel
theorem dX10_from_23 : decode cX10_from 23 = .ok (.ifCond .eq 14, 3) := by decide +kernel
theorem dX10_from_26 : decode cX10_from 26 = .ok (.iload_n 2, 1) := by decide +kernel
theorem dX10_from_27 : decode cX10_from 27 = .ok (.aload_n 0, 1) := by decide +kernel
theorem dX10_from_28 : decode cX10_from 28 = .ok (.getfield 26, 3) := by decide +kernel
theorem dX10_from_31 : decode cX10_from 31 = .ok (.getfield 122, 3) := by decide +kernel
theorem dX10_from_34 : decode cX10_from 34 = .ok (.if_icmp .eq 5, 3) := by decide +kernel
theorem dX10_from_37 : decode cX10_from 37 = .ok (.iconst (-1), 1) := by decide +kernel
theorem dX10_from_38 : decode cX10_from 38 = .ok (.ireturn, 1) := by decide +kernel
theorem dX10_from_39 : decode cX10_from 39 = .ok (.aload_n 0, 1) := by decide +kernel
theorem dX10_from_40 : decode cX10_from 40 = .ok (.getfield 10, 3) := by decide +kernel
theorem dX10_from_43 : decode cX10_from 43 = .ok (.aload_n 0, 1) := by decide +kernel
theorem dX10_from_44 : decode cX10_from 44 = .ok (.getfield 19, 3) := by decide +kernel
theorem dX10_from_47 : decode cX10_from 47 = .ok (.getfield 125, 3) := by decide +kernel
theorem dX10_from_50 : decode cX10_from 50 = .ok (.iconst 0, 1) := by decide +kernel
theorem dX10_from_51 : decode cX10_from 51 = .ok (.aload_n 0, 1) := by decide +kernel
theorem dX10_from_52 : decode cX10_from 52 = .ok (.getfield 26, 3) := by decide +kernel
theorem dX10_from_55 : decode cX10_from 55 = .ok (.getfield 145, 3) := by decide +kernel
theorem dX10_from_58 : decode cX10_from 58 = .ok (.aload_n 0, 1) := by decide +kernel
theorem dX10_from_59 : decode cX10_from 59 = .ok (.getfield 26, 3) := by decide +kernel
theorem dX10_from_62 : decode cX10_from 62 = .ok (.iload_n 1, 1) := by decide +kernel
theorem dX10_from_63 : decode cX10_from 63 = .ok (.invokevirtual 148, 3) := by decide +kernel
theorem dX10_from_66 : decode cX10_from 66 = .ok (.iload_n 2, 1) := by decide +kernel
theorem dX10_from_67 : decode cX10_from 67 = .ok (.invokevirtual 151, 3) := by decide +kernel
theorem dX10_from_70 : decode cX10_from 70 = .ok (.ireturn, 1) := by decide +kernel
theorem dX10_centre_0 : decode cX10_centre 0 = .ok (.aload_n 0, 1) := by decide +kernel
theorem dX10_centre_1 : decode cX10_centre 1 = .ok (.getfield 51, 3) := by decide +kernel
theorem dX10_centre_4 : decode cX10_centre 4 = .ok (.invokevirtual 155, 3) := by decide +kernel
theorem dX10_centre_7 : decode cX10_centre 7 = .ok (.aload_n 0, 1) := by decide +kernel
theorem dX10_centre_8 : decode cX10_centre 8 = .ok (.getfield 51, 3) := by decide +kernel
theorem dX10_centre_11 : decode cX10_centre 11 = .ok (.getfield 158, 3) := by decide +kernel
theorem dX10_centre_14 : decode cX10_centre 14 = .ok (.ireturn, 1) := by decide +kernel
theorem dX10_centreAt_0 : decode cX10_centreAt 0 = .ok (.aload_n 0, 1) := by decide +kernel
theorem dX10_centreAt_1 : decode cX10_centreAt 1 = .ok (.getfield 51, 3) := by decide +kernel
theorem dX10_centreAt_4 : decode cX10_centreAt 4 = .ok (.invokevirtual 155, 3) := by decide +kernel
theorem dX10_centreAt_7 : decode cX10_centreAt 7 = .ok (.aload_n 0, 1) := by decide +kernel
theorem dX10_centreAt_8 : decode cX10_centreAt 8 = .ok (.getfield 51, 3) := by decide +kernel
theorem dX10_centreAt_11 : decode cX10_centreAt 11 = .ok (.getfield 158, 3) := by decide +kernel
theorem dX10_centreAt_14 : decode cX10_centreAt 14 = .ok (.iconst (-1), 1) := by decide +kernel
theorem dX10_centreAt_15 : decode cX10_centreAt 15 = .ok (.if_icmp .ne 7, 3) := by decide +kernel
theorem dX10_centreAt_18 : decode cX10_centreAt 18 = .ok (.iconst (-1), 1) := by decide +kernel
theorem dX10_centreAt_19 : decode cX10_centreAt 19 = .ok (.goto 18, 3) := by decide +kernel
theorem dX10_centreAt_22 : decode cX10_centreAt 22 = .ok (.aload_n 0, 1) := by decide +kernel
theorem dX10_centreAt_23 : decode cX10_centreAt 23 = .ok (.getfield 26, 3) := by decide +kernel
theorem dX10_centreAt_26 : decode cX10_centreAt 26 = .ok (.aload_n 0, 1) := by decide +kernel
theorem dX10_centreAt_27 : decode cX10_centreAt 27 = .ok (.getfield 51, 3) := by decide +kernel
theorem dX10_centreAt_30 : decode cX10_centreAt 30 = .ok (.getfield 161, 3) := by decide +kernel
theorem dX10_centreAt_33 : decode cX10_centreAt 33 = .ok (.iload_n 1, 1) := by decide +kernel
theorem dX10_centreAt_34 : decode cX10_centreAt 34 = .ok (.invokevirtual 164, 3) := by decide +kernel
theorem dX10_centreAt_37 : decode cX10_centreAt 37 = .ok (.ireturn, 1) := by decide +kernel
theorem dX10_without_0 : decode cX10_without 0 = .ok (.aload_n 0, 1) := by decide +kernel
theorem dX10_without_1 : decode cX10_without 1 = .ok (.iload_n 1, 1) := by decide +kernel
theorem dX10_without_2 : decode cX10_without 2 = .ok (.invokevirtual 168, 3) := by decide +kernel
theorem dX10_without_5 : decode cX10_without 5 = .ok (.istore_n 2, 1) := by decide +kernel
theorem dX10_without_6 : decode cX10_without 6 = .ok (.iload_n 2, 1) := by decide +kernel
theorem dX10_without_7 : decode cX10_without 7 = .ok (.ldc 171, 2) := by decide +kernel
theorem dX10_without_9 : decode cX10_without 9 = .ok (.if_icmp .ne 7, 3) := by decide +kernel
theorem dX10_without_12 : decode cX10_without 12 = .ok (.iconst (-1), 1) := by decide +kernel
theorem dX10_without_13 : decode cX10_without 13 = .ok (.goto 11, 3) := by decide +kernel
theorem dX10_without_16 : decode cX10_without 16 = .ok (.aload_n 0, 1) := by decide +kernel
theorem dX10_without_17 : decode cX10_without 17 = .ok (.getfield 58, 3) := by decide +kernel
theorem dX10_without_20 : decode cX10_without 20 = .ok (.iload_n 2, 1) := by decide +kernel
theorem dX10_without_21 : decode cX10_without 21 = .ok (.invokevirtual 172, 3) := by decide +kernel
theorem dX10_without_24 : decode cX10_without 24 = .ok (.ireturn, 1) := by decide +kernel
theorem dX10_leftOut_0 : decode cX10_leftOut 0 = .ok (.aload_n 0, 1) := by decide +kernel
theorem dX10_leftOut_1 : decode cX10_leftOut 1 = .ok (.iload_n 1, 1) := by decide +kernel
theorem dX10_leftOut_2 : decode cX10_leftOut 2 = .ok (.invokevirtual 168, 3) := by decide +kernel
theorem dX10_leftOut_5 : decode cX10_leftOut 5 = .ok (.istore_n 2, 1) := by decide +kernel
theorem dX10_leftOut_6 : decode cX10_leftOut 6 = .ok (.iload_n 2, 1) := by decide +kernel
theorem dX10_leftOut_7 : decode cX10_leftOut 7 = .ok (.ldc 171, 2) := by decide +kernel
theorem dX10_leftOut_9 : decode cX10_leftOut 9 = .ok (.if_icmp .ne 7, 3) := by decide +kernel
theorem dX10_leftOut_12 : decode cX10_leftOut 12 = .ok (.iconst (-1), 1) := by decide +kernel
theorem dX10_leftOut_13 : decode cX10_leftOut 13 = .ok (.goto 26, 3) := by decide +kernel
theorem dX10_leftOut_16 : decode cX10_leftOut 16 = .ok (.aload_n 0, 1) := by decide +kernel
theorem dX10_leftOut_17 : decode cX10_leftOut 17 = .ok (.getfield 42, 3) := by decide +kernel
theorem dX10_leftOut_20 : decode cX10_leftOut 20 = .ok (.aload_n 0, 1) := by decide +kernel
theorem dX10_leftOut_21 : decode cX10_leftOut 21 = .ok (.getfield 58, 3) := by decide +kernel
theorem dX10_leftOut_24 : decode cX10_leftOut 24 = .ok (.iload_n 2, 1) := by decide +kernel
theorem dX10_leftOut_25 : decode cX10_leftOut 25 = .ok (.invokevirtual 172, 3) := by decide +kernel
theorem dX10_leftOut_28 : decode cX10_leftOut 28 = .ok (.aload_n 0, 1) := by decide +kernel
theorem dX10_leftOut_29 : decode cX10_leftOut 29 = .ok (.getfield 58, 3) := by decide +kernel
theorem dX10_leftOut_32 : decode cX10_leftOut 32 = .ok (.iload_n 2, 1) := by decide +kernel
theorem dX10_leftOut_33 : decode cX10_leftOut 33 = .ok (.invokevirtual 175, 3) := by decide +kernel
theorem dX10_leftOut_36 : decode cX10_leftOut 36 = .ok (.invokevirtual 178, 3) := by decide +kernel
theorem dX10_leftOut_39 : decode cX10_leftOut 39 = .ok (.ireturn, 1) := by decide +kernel
theorem dX10_within_0 : decode cX10_within 0 = .ok (.aload_n 0, 1) := by decide +kernel
theorem dX10_within_1 : decode cX10_within 1 = .ok (.iload_n 1, 1) := by decide +kernel
theorem dX10_within_2 : decode cX10_within 2 = .ok (.invokevirtual 181, 3) := by decide +kernel
theorem dX10_within_5 : decode cX10_within 5 = .ok (.ifCond .ne 5, 3) := by decide +kernel
theorem dX10_within_8 : decode cX10_within 8 = .ok (.iconst (-1), 1) := by decide +kernel
theorem dX10_within_9 : decode cX10_within 9 = .ok (.ireturn, 1) := by decide +kernel
theorem dX10_within_10 : decode cX10_within 10 = .ok (.aload_n 0, 1) := by decide +kernel
theorem dX10_within_11 : decode cX10_within 11 = .ok (.getfield 51, 3) := by decide +kernel
theorem dX10_within_14 : decode cX10_within 14 = .ok (.invokevirtual 155, 3) := by decide +kernel
theorem dX10_within_17 : decode cX10_within 17 = .ok (.aload_n 0, 1) := by decide +kernel
theorem dX10_within_18 : decode cX10_within 18 = .ok (.getfield 51, 3) := by decide +kernel
theorem dX10_within_21 : decode cX10_within 21 = .ok (.getfield 184, 3) := by decide +kernel
theorem dX10_within_24 : decode cX10_within 24 = .ok (.iload_n 1, 1) := by decide +kernel
theorem dX10_within_25 : decode cX10_within 25 = .ok (.iaload, 1) := by decide +kernel
theorem dX10_within_26 : decode cX10_within 26 = .ok (.ireturn, 1) := by decide +kernel
theorem dX10_lettersAt_0 : decode cX10_lettersAt 0 = .ok (.aload_n 0, 1) := by decide +kernel
theorem dX10_lettersAt_1 : decode cX10_lettersAt 1 = .ok (.iload_n 1, 1) := by decide +kernel
theorem dX10_lettersAt_2 : decode cX10_lettersAt 2 = .ok (.invokevirtual 181, 3) := by decide +kernel
theorem dX10_lettersAt_5 : decode cX10_lettersAt 5 = .ok (.ifCond .eq 18, 3) := by decide +kernel
theorem dX10_lettersAt_8 : decode cX10_lettersAt 8 = .ok (.iload_n 2, 1) := by decide +kernel
theorem dX10_lettersAt_9 : decode cX10_lettersAt 9 = .ok (.ifCond .lt 14, 3) := by decide +kernel
theorem dX10_lettersAt_12 : decode cX10_lettersAt 12 = .ok (.iload_n 2, 1) := by decide +kernel
theorem dX10_lettersAt_13 : decode cX10_lettersAt 13 = .ok (.aload_n 0, 1) := by decide +kernel
theorem dX10_lettersAt_14 : decode cX10_lettersAt 14 = .ok (.getfield 26, 3) := by decide +kernel
theorem dX10_lettersAt_17 : decode cX10_lettersAt 17 = .ok (.getfield 122, 3) := by decide +kernel
theorem dX10_lettersAt_20 : decode cX10_lettersAt 20 = .ok (.if_icmp .lt 5, 3) := by decide +kernel
theorem dX10_lettersAt_23 : decode cX10_lettersAt 23 = .ok (.iconst (-1), 1) := by decide +kernel
theorem dX10_lettersAt_24 : decode cX10_lettersAt 24 = .ok (.ireturn, 1) := by decide +kernel
theorem dX10_lettersAt_25 : decode cX10_lettersAt 25 = .ok (.aload_n 0, 1) := by decide +kernel
theorem dX10_lettersAt_26 : decode cX10_lettersAt 26 = .ok (.getfield 51, 3) := by decide +kernel
theorem dX10_lettersAt_29 : decode cX10_lettersAt 29 = .ok (.invokevirtual 155, 3) := by decide +kernel
theorem dX10_lettersAt_32 : decode cX10_lettersAt 32 = .ok (.aload_n 0, 1) := by decide +kernel
theorem dX10_lettersAt_33 : decode cX10_lettersAt 33 = .ok (.getfield 51, 3) := by decide +kernel
theorem dX10_lettersAt_36 : decode cX10_lettersAt 36 = .ok (.getfield 187, 3) := by decide +kernel
theorem dX10_lettersAt_39 : decode cX10_lettersAt 39 = .ok (.iload_n 1, 1) := by decide +kernel
theorem dX10_lettersAt_40 : decode cX10_lettersAt 40 = .ok (.iaload, 1) := by decide +kernel
theorem dX10_lettersAt_41 : decode cX10_lettersAt 41 = .ok (.iload_n 2, 1) := by decide +kernel
theorem dX10_lettersAt_42 : decode cX10_lettersAt 42 = .ok (.invokestatic 190, 3) := by decide +kernel
theorem dX10_lettersAt_45 : decode cX10_lettersAt 45 = .ok (.ireturn, 1) := by decide +kernel
theorem dX10_core_0 : decode cX10_core 0 = .ok (.aload_n 0, 1) := by decide +kernel
theorem dX10_core_1 : decode cX10_core 1 = .ok (.iload_n 1, 1) := by decide +kernel
theorem dX10_core_2 : decode cX10_core 2 = .ok (.invokevirtual 195, 3) := by decide +kernel
theorem dX10_core_5 : decode cX10_core 5 = .ok (.istore_n 2, 1) := by decide +kernel
theorem dX10_core_6 : decode cX10_core 6 = .ok (.iload_n 2, 1) := by decide +kernel
theorem dX10_core_7 : decode cX10_core 7 = .ok (.iconst (-1), 1) := by decide +kernel
theorem dX10_core_8 : decode cX10_core 8 = .ok (.if_icmp .ne 7, 3) := by decide +kernel
theorem dX10_core_11 : decode cX10_core 11 = .ok (.iconst (-1), 1) := by decide +kernel
theorem dX10_core_12 : decode cX10_core 12 = .ok (.goto 7, 3) := by decide +kernel
theorem dX10_core_15 : decode cX10_core 15 = .ok (.iload_n 2, 1) := by decide +kernel
theorem dX10_core_16 : decode cX10_core 16 = .ok (.invokestatic 198, 3) := by decide +kernel
theorem dX10_core_19 : decode cX10_core 19 = .ok (.ireturn, 1) := by decide +kernel
theorem dX10_coreSet_0 : decode cX10_coreSet 0 = .ok (.aload_n 0, 1) := by decide +kernel
theorem dX10_coreSet_1 : decode cX10_coreSet 1 = .ok (.iload_n 1, 1) := by decide +kernel
theorem dX10_coreSet_2 : decode cX10_coreSet 2 = .ok (.invokevirtual 181, 3) := by decide +kernel
theorem dX10_coreSet_5 : decode cX10_coreSet 5 = .ok (.ifCond .ne 5, 3) := by decide +kernel
theorem dX10_coreSet_8 : decode cX10_coreSet 8 = .ok (.iconst (-1), 1) := by decide +kernel
theorem dX10_coreSet_9 : decode cX10_coreSet 9 = .ok (.ireturn, 1) := by decide +kernel
theorem dX10_coreSet_10 : decode cX10_coreSet 10 = .ok (.aload_n 0, 1) := by decide +kernel
theorem dX10_coreSet_11 : decode cX10_coreSet 11 = .ok (.getfield 58, 3) := by decide +kernel
theorem dX10_coreSet_14 : decode cX10_coreSet 14 = .ok (.invokevirtual 203, 3) := by decide +kernel
theorem dX10_coreSet_17 : decode cX10_coreSet 17 = .ok (.aload_n 0, 1) := by decide +kernel
theorem dX10_coreSet_18 : decode cX10_coreSet 18 = .ok (.getfield 58, 3) := by decide +kernel
theorem dX10_coreSet_21 : decode cX10_coreSet 21 = .ok (.iload_n 1, 1) := by decide +kernel
theorem dX10_coreSet_22 : decode cX10_coreSet 22 = .ok (.invokevirtual 204, 3) := by decide +kernel
theorem dX10_coreSet_25 : decode cX10_coreSet 25 = .ok (.ireturn, 1) := by decide +kernel
theorem dX10_cover_0 : decode cX10_cover 0 = .ok (.aload_n 0, 1) := by decide +kernel
theorem dX10_cover_1 : decode cX10_cover 1 = .ok (.iload_n 1, 1) := by decide +kernel
theorem dX10_cover_2 : decode cX10_cover 2 = .ok (.invokevirtual 181, 3) := by decide +kernel
theorem dX10_cover_5 : decode cX10_cover 5 = .ok (.ifCond .ne 5, 3) := by decide +kernel
theorem dX10_cover_8 : decode cX10_cover 8 = .ok (.iconst (-1), 1) := by decide +kernel
theorem dX10_cover_9 : decode cX10_cover 9 = .ok (.ireturn, 1) := by decide +kernel
theorem dX10_cover_10 : decode cX10_cover 10 = .ok (.aload_n 0, 1) := by decide +kernel
theorem dX10_cover_11 : decode cX10_cover 11 = .ok (.getfield 58, 3) := by decide +kernel
theorem dX10_cover_14 : decode cX10_cover 14 = .ok (.invokevirtual 203, 3) := by decide +kernel
theorem dX10_cover_17 : decode cX10_cover 17 = .ok (.aload_n 0, 1) := by decide +kernel
theorem dX10_cover_18 : decode cX10_cover 18 = .ok (.getfield 58, 3) := by decide +kernel
theorem dX10_cover_21 : decode cX10_cover 21 = .ok (.iload_n 1, 1) := by decide +kernel
theorem dX10_cover_22 : decode cX10_cover 22 = .ok (.invokevirtual 207, 3) := by decide +kernel
theorem dX10_cover_25 : decode cX10_cover 25 = .ok (.ireturn, 1) := by decide +kernel
theorem dX10_centres_0 : decode cX10_centres 0 = .ok (.iload_n 1, 1) := by decide +kernel
theorem dX10_centres_1 : decode cX10_centres 1 = .ok (.iconst 1, 1) := by decide +kernel
theorem dX10_centres_2 : decode cX10_centres 2 = .ok (.if_icmp .lt 19, 3) := by decide +kernel
theorem dX10_centres_5 : decode cX10_centres 5 = .ok (.iload_n 1, 1) := by decide +kernel
theorem dX10_centres_6 : decode cX10_centres 6 = .ok (.bipush 8, 2) := by decide +kernel
theorem dX10_centres_8 : decode cX10_centres 8 = .ok (.if_icmp .gt 13, 3) := by decide +kernel
theorem dX10_centres_11 : decode cX10_centres 11 = .ok (.aload_n 0, 1) := by decide +kernel
theorem dX10_centres_12 : decode cX10_centres 12 = .ok (.getfield 26, 3) := by decide +kernel
theorem dX10_centres_15 : decode cX10_centres 15 = .ok (.invokevirtual 210, 3) := by decide +kernel
theorem dX10_centres_18 : decode cX10_centres 18 = .ok (.ifCond .ne 5, 3) := by decide +kernel
theorem dX10_centres_21 : decode cX10_centres 21 = .ok (.iconst (-1), 1) := by decide +kernel
theorem dX10_centres_22 : decode cX10_centres 22 = .ok (.ireturn, 1) := by decide +kernel
theorem dX10_centres_23 : decode cX10_centres 23 = .ok (.aload_n 0, 1) := by decide +kernel
theorem dX10_centres_24 : decode cX10_centres 24 = .ok (.getfield 58, 3) := by decide +kernel
theorem dX10_centres_27 : decode cX10_centres 27 = .ok (.invokevirtual 203, 3) := by decide +kernel
theorem dX10_centres_30 : decode cX10_centres 30 = .ok (.aload_n 0, 1) := by decide +kernel
theorem dX10_centres_31 : decode cX10_centres 31 = .ok (.getfield 58, 3) := by decide +kernel
theorem dX10_centres_34 : decode cX10_centres 34 = .ok (.getfield 214, 3) := by decide +kernel
theorem dX10_centres_37 : decode cX10_centres 37 = .ok (.iload_n 1, 1) := by decide +kernel
theorem dX10_centres_38 : decode cX10_centres 38 = .ok (.iaload, 1) := by decide +kernel
theorem dX10_centres_39 : decode cX10_centres 39 = .ok (.istore_n 2, 1) := by decide +kernel
theorem dX10_centres_40 : decode cX10_centres 40 = .ok (.iload_n 2, 1) := by decide +kernel
theorem dX10_centres_41 : decode cX10_centres 41 = .ok (.bipush 63, 2) := by decide +kernel
theorem dX10_centres_43 : decode cX10_centres 43 = .ok (.if_icmp .le 7, 3) := by decide +kernel
theorem dX10_centres_46 : decode cX10_centres 46 = .ok (.iconst (-1), 1) := by decide +kernel
theorem dX10_centres_47 : decode cX10_centres 47 = .ok (.goto 4, 3) := by decide +kernel
theorem dX10_centres_50 : decode cX10_centres 50 = .ok (.iload_n 2, 1) := by decide +kernel
theorem dX10_centres_51 : decode cX10_centres 51 = .ok (.ireturn, 1) := by decide +kernel
theorem dX10_edits_0 : decode cX10_edits 0 = .ok (.aload_n 0, 1) := by decide +kernel
theorem dX10_edits_1 : decode cX10_edits 1 = .ok (.getfield 26, 3) := by decide +kernel
theorem dX10_edits_4 : decode cX10_edits 4 = .ok (.iload_n 1, 1) := by decide +kernel
theorem dX10_edits_5 : decode cX10_edits 5 = .ok (.invokevirtual 139, 3) := by decide +kernel
theorem dX10_edits_8 : decode cX10_edits 8 = .ok (.ifCond .eq 14, 3) := by decide +kernel
theorem dX10_edits_11 : decode cX10_edits 11 = .ok (.aload_n 0, 1) := by decide +kernel
theorem dX10_edits_12 : decode cX10_edits 12 = .ok (.getfield 26, 3) := by decide +kernel
theorem dX10_edits_15 : decode cX10_edits 15 = .ok (.iload_n 2, 1) := by decide +kernel
theorem dX10_edits_16 : decode cX10_edits 16 = .ok (.invokevirtual 139, 3) := by decide +kernel
theorem dX10_edits_19 : decode cX10_edits 19 = .ok (.ifCond .ne 5, 3) := by decide +kernel
theorem dX10_edits_22 : decode cX10_edits 22 = .ok (.iconst (-1), 1) := by decide +kernel
theorem dX10_edits_23 : decode cX10_edits 23 = .ok (.ireturn, 1) := by decide +kernel
theorem dX10_edits_24 : decode cX10_edits 24 = .ok (.aload_n 0, 1) := by decide +kernel
theorem dX10_edits_25 : decode cX10_edits 25 = .ok (.getfield 65, 3) := by decide +kernel
theorem dX10_edits_28 : decode cX10_edits 28 = .ok (.aload_n 0, 1) := by decide +kernel
theorem dX10_edits_29 : decode cX10_edits 29 = .ok (.getfield 26, 3) := by decide +kernel
theorem dX10_edits_32 : decode cX10_edits 32 = .ok (.getfield 145, 3) := by decide +kernel
theorem dX10_edits_35 : decode cX10_edits 35 = .ok (.aload_n 0, 1) := by decide +kernel
theorem dX10_edits_36 : decode cX10_edits 36 = .ok (.getfield 26, 3) := by decide +kernel
theorem dX10_edits_39 : decode cX10_edits 39 = .ok (.iload_n 1, 1) := by decide +kernel
theorem dX10_edits_40 : decode cX10_edits 40 = .ok (.invokevirtual 148, 3) := by decide +kernel
theorem dX10_edits_43 : decode cX10_edits 43 = .ok (.aload_n 0, 1) := by decide +kernel
theorem dX10_edits_44 : decode cX10_edits 44 = .ok (.getfield 26, 3) := by decide +kernel
theorem dX10_edits_47 : decode cX10_edits 47 = .ok (.getfield 122, 3) := by decide +kernel
theorem dX10_edits_50 : decode cX10_edits 50 = .ok (.iload_n 2, 1) := by decide +kernel
theorem dX10_edits_51 : decode cX10_edits 51 = .ok (.invokevirtual 217, 3) := by decide +kernel
theorem dX10_edits_54 : decode cX10_edits 54 = .ok (.ireturn, 1) := by decide +kernel
theorem dX10_editsFrom_0 : decode cX10_editsFrom 0 = .ok (.aload_n 0, 1) := by decide +kernel
theorem dX10_editsFrom_1 : decode cX10_editsFrom 1 = .ok (.getfield 19, 3) := by decide +kernel
theorem dX10_editsFrom_4 : decode cX10_editsFrom 4 = .ok (.aload_n 0, 1) := by decide +kernel
theorem dX10_editsFrom_5 : decode cX10_editsFrom 5 = .ok (.getfield 10, 3) := by decide +kernel
theorem dX10_editsFrom_8 : decode cX10_editsFrom 8 = .ok (.getfield 83, 3) := by decide +kernel
theorem dX10_editsFrom_11 : decode cX10_editsFrom 11 = .ok (.invokevirtual 118, 3) := by decide +kernel
theorem dX10_editsFrom_14 : decode cX10_editsFrom 14 = .ok (.istore_n 2, 1) := by decide +kernel
theorem dX10_editsFrom_15 : decode cX10_editsFrom 15 = .ok (.aload_n 0, 1) := by decide +kernel
theorem dX10_editsFrom_16 : decode cX10_editsFrom 16 = .ok (.getfield 26, 3) := by decide +kernel
theorem dX10_editsFrom_19 : decode cX10_editsFrom 19 = .ok (.iload_n 1, 1) := by decide +kernel
theorem dX10_editsFrom_20 : decode cX10_editsFrom 20 = .ok (.invokevirtual 139, 3) := by decide +kernel
theorem dX10_editsFrom_23 : decode cX10_editsFrom 23 = .ok (.ifCond .eq 14, 3) := by decide +kernel
theorem dX10_editsFrom_26 : decode cX10_editsFrom 26 = .ok (.iload_n 2, 1) := by decide +kernel
theorem dX10_editsFrom_27 : decode cX10_editsFrom 27 = .ok (.iconst 1, 1) := by decide +kernel
theorem dX10_editsFrom_28 : decode cX10_editsFrom 28 = .ok (.if_icmp .lt 9, 3) := by decide +kernel
theorem dX10_editsFrom_31 : decode cX10_editsFrom 31 = .ok (.iload_n 2, 1) := by decide +kernel
theorem dX10_editsFrom_32 : decode cX10_editsFrom 32 = .ok (.bipush 8, 2) := by decide +kernel
theorem dX10_editsFrom_34 : decode cX10_editsFrom 34 = .ok (.if_icmp .le 5, 3) := by decide +kernel
theorem dX10_editsFrom_37 : decode cX10_editsFrom 37 = .ok (.iconst (-1), 1) := by decide +kernel
theorem dX10_editsFrom_38 : decode cX10_editsFrom 38 = .ok (.ireturn, 1) := by decide +kernel
theorem dX10_editsFrom_39 : decode cX10_editsFrom 39 = .ok (.aload_n 0, 1) := by decide +kernel
theorem dX10_editsFrom_40 : decode cX10_editsFrom 40 = .ok (.getfield 65, 3) := by decide +kernel
theorem dX10_editsFrom_43 : decode cX10_editsFrom 43 = .ok (.aload_n 0, 1) := by decide +kernel
theorem dX10_editsFrom_44 : decode cX10_editsFrom 44 = .ok (.getfield 19, 3) := by decide +kernel
theorem dX10_editsFrom_47 : decode cX10_editsFrom 47 = .ok (.getfield 125, 3) := by decide +kernel
theorem dX10_editsFrom_50 : decode cX10_editsFrom 50 = .ok (.iconst 0, 1) := by decide +kernel
theorem dX10_editsFrom_51 : decode cX10_editsFrom 51 = .ok (.iload_n 2, 1) := by decide +kernel
theorem dX10_editsFrom_52 : decode cX10_editsFrom 52 = .ok (.iload_n 1, 1) := by decide +kernel
theorem dX10_editsFrom_53 : decode cX10_editsFrom 53 = .ok (.invokevirtual 217, 3) := by decide +kernel
theorem dX10_editsFrom_56 : decode cX10_editsFrom 56 = .ok (.ireturn, 1) := by decide +kernel
theorem dX10_middle_0 : decode cX10_middle 0 = .ok (.aload_n 0, 1) := by decide +kernel
theorem dX10_middle_1 : decode cX10_middle 1 = .ok (.getfield 65, 3) := by decide +kernel
theorem dX10_middle_4 : decode cX10_middle 4 = .ok (.invokevirtual 221, 3) := by decide +kernel
theorem dX10_middle_7 : decode cX10_middle 7 = .ok (.aload_n 0, 1) := by decide +kernel
theorem dX10_middle_8 : decode cX10_middle 8 = .ok (.getfield 65, 3) := by decide +kernel
theorem dX10_middle_11 : decode cX10_middle 11 = .ok (.getfield 222, 3) := by decide +kernel
theorem dX10_middle_14 : decode cX10_middle 14 = .ok (.ireturn, 1) := by decide +kernel
theorem dX10_middleLength_0 : decode cX10_middleLength 0 = .ok (.aload_n 0, 1) := by decide +kernel
theorem dX10_middleLength_1 : decode cX10_middleLength 1 = .ok (.getfield 65, 3) := by decide +kernel
theorem dX10_middleLength_4 : decode cX10_middleLength 4 = .ok (.invokevirtual 221, 3) := by decide +kernel
theorem dX10_middleLength_7 : decode cX10_middleLength 7 = .ok (.aload_n 0, 1) := by decide +kernel
theorem dX10_middleLength_8 : decode cX10_middleLength 8 = .ok (.getfield 65, 3) := by decide +kernel
theorem dX10_middleLength_11 : decode cX10_middleLength 11 = .ok (.getfield 222, 3) := by decide +kernel
theorem dX10_middleLength_14 : decode cX10_middleLength 14 = .ok (.iconst (-1), 1) := by decide +kernel
theorem dX10_middleLength_15 : decode cX10_middleLength 15 = .ok (.if_icmp .ne 7, 3) := by decide +kernel
theorem dX10_middleLength_18 : decode cX10_middleLength 18 = .ok (.iconst (-1), 1) := by decide +kernel
theorem dX10_middleLength_19 : decode cX10_middleLength 19 = .ok (.goto 10, 3) := by decide +kernel
theorem dX10_middleLength_22 : decode cX10_middleLength 22 = .ok (.aload_n 0, 1) := by decide +kernel
theorem dX10_middleLength_23 : decode cX10_middleLength 23 = .ok (.getfield 65, 3) := by decide +kernel
theorem dX10_middleLength_26 : decode cX10_middleLength 26 = .ok (.getfield 225, 3) := by decide +kernel
theorem dX10_middleLength_29 : decode cX10_middleLength 29 = .ok (.ireturn, 1) := by decide +kernel
theorem dX10_middleAt_0 : decode cX10_middleAt 0 = .ok (.aload_n 0, 1) := by decide +kernel
theorem dX10_middleAt_1 : decode cX10_middleAt 1 = .ok (.getfield 65, 3) := by decide +kernel
theorem dX10_middleAt_4 : decode cX10_middleAt 4 = .ok (.invokevirtual 221, 3) := by decide +kernel
theorem dX10_middleAt_7 : decode cX10_middleAt 7 = .ok (.aload_n 0, 1) := by decide +kernel
theorem dX10_middleAt_8 : decode cX10_middleAt 8 = .ok (.getfield 65, 3) := by decide +kernel
theorem dX10_middleAt_11 : decode cX10_middleAt 11 = .ok (.getfield 222, 3) := by decide +kernel
theorem dX10_middleAt_14 : decode cX10_middleAt 14 = .ok (.iconst (-1), 1) := by decide +kernel
theorem dX10_middleAt_15 : decode cX10_middleAt 15 = .ok (.if_icmp .eq 24, 3) := by decide +kernel
theorem dX10_middleAt_18 : decode cX10_middleAt 18 = .ok (.iload_n 1, 1) := by decide +kernel
theorem dX10_middleAt_19 : decode cX10_middleAt 19 = .ok (.ifCond .lt 20, 3) := by decide +kernel
theorem dX10_middleAt_22 : decode cX10_middleAt 22 = .ok (.iload_n 1, 1) := by decide +kernel
theorem dX10_middleAt_23 : decode cX10_middleAt 23 = .ok (.aload_n 0, 1) := by decide +kernel
theorem dX10_middleAt_24 : decode cX10_middleAt 24 = .ok (.getfield 65, 3) := by decide +kernel
theorem dX10_middleAt_27 : decode cX10_middleAt 27 = .ok (.getfield 225, 3) := by decide +kernel
theorem dX10_middleAt_30 : decode cX10_middleAt 30 = .ok (.if_icmp .ge 9, 3) := by decide +kernel
theorem dX10_middleAt_33 : decode cX10_middleAt 33 = .ok (.iload_n 1, 1) := by decide +kernel
theorem dX10_middleAt_34 : decode cX10_middleAt 34 = .ok (.bipush 8, 2) := by decide +kernel
theorem dX10_middleAt_36 : decode cX10_middleAt 36 = .ok (.if_icmp .lt 5, 3) := by decide +kernel
theorem dX10_middleAt_39 : decode cX10_middleAt 39 = .ok (.iconst (-1), 1) := by decide +kernel
theorem dX10_middleAt_40 : decode cX10_middleAt 40 = .ok (.ireturn, 1) := by decide +kernel
theorem dX10_middleAt_41 : decode cX10_middleAt 41 = .ok (.aload_n 0, 1) := by decide +kernel
theorem dX10_middleAt_42 : decode cX10_middleAt 42 = .ok (.getfield 65, 3) := by decide +kernel
theorem dX10_middleAt_45 : decode cX10_middleAt 45 = .ok (.getfield 226, 3) := by decide +kernel
theorem dX10_middleAt_48 : decode cX10_middleAt 48 = .ok (.iload_n 1, 1) := by decide +kernel
theorem dX10_middleAt_49 : decode cX10_middleAt 49 = .ok (.iaload, 1) := by decide +kernel
theorem dX10_middleAt_50 : decode cX10_middleAt 50 = .ok (.ireturn, 1) := by decide +kernel
theorem dX10_median_0 : decode cX10_median 0 = .ok (.aload_n 0, 1) := by decide +kernel
theorem dX10_median_1 : decode cX10_median 1 = .ok (.getfield 51, 3) := by decide +kernel
theorem dX10_median_4 : decode cX10_median 4 = .ok (.invokevirtual 155, 3) := by decide +kernel
theorem dX10_median_7 : decode cX10_median 7 = .ok (.aload_n 0, 1) := by decide +kernel
theorem dX10_median_8 : decode cX10_median 8 = .ok (.getfield 51, 3) := by decide +kernel
theorem dX10_median_11 : decode cX10_median 11 = .ok (.getfield 229, 3) := by decide +kernel
theorem dX10_median_14 : decode cX10_median 14 = .ok (.ireturn, 1) := by decide +kernel
theorem dX10_medianAt_0 : decode cX10_medianAt 0 = .ok (.aload_n 0, 1) := by decide +kernel
theorem dX10_medianAt_1 : decode cX10_medianAt 1 = .ok (.getfield 51, 3) := by decide +kernel
theorem dX10_medianAt_4 : decode cX10_medianAt 4 = .ok (.invokevirtual 155, 3) := by decide +kernel
theorem dX10_medianAt_7 : decode cX10_medianAt 7 = .ok (.aload_n 0, 1) := by decide +kernel
theorem dX10_medianAt_8 : decode cX10_medianAt 8 = .ok (.getfield 51, 3) := by decide +kernel
theorem dX10_medianAt_11 : decode cX10_medianAt 11 = .ok (.getfield 229, 3) := by decide +kernel
theorem dX10_medianAt_14 : decode cX10_medianAt 14 = .ok (.iconst (-1), 1) := by decide +kernel
theorem dX10_medianAt_15 : decode cX10_medianAt 15 = .ok (.if_icmp .ne 7, 3) := by decide +kernel
theorem dX10_medianAt_18 : decode cX10_medianAt 18 = .ok (.iconst (-1), 1) := by decide +kernel
theorem dX10_medianAt_19 : decode cX10_medianAt 19 = .ok (.goto 18, 3) := by decide +kernel
theorem dX10_medianAt_22 : decode cX10_medianAt 22 = .ok (.aload_n 0, 1) := by decide +kernel
theorem dX10_medianAt_23 : decode cX10_medianAt 23 = .ok (.getfield 26, 3) := by decide +kernel
theorem dX10_medianAt_26 : decode cX10_medianAt 26 = .ok (.aload_n 0, 1) := by decide +kernel
theorem dX10_medianAt_27 : decode cX10_medianAt 27 = .ok (.getfield 51, 3) := by decide +kernel
theorem dX10_medianAt_30 : decode cX10_medianAt 30 = .ok (.getfield 230, 3) := by decide +kernel
theorem dX10_medianAt_33 : decode cX10_medianAt 33 = .ok (.iload_n 1, 1) := by decide +kernel
theorem dX10_medianAt_34 : decode cX10_medianAt 34 = .ok (.invokevirtual 164, 3) := by decide +kernel
theorem dX10_medianAt_37 : decode cX10_medianAt 37 = .ok (.ireturn, 1) := by decide +kernel
theorem dX10_medians_0 : decode cX10_medians 0 = .ok (.aload_n 0, 1) := by decide +kernel
theorem dX10_medians_1 : decode cX10_medians 1 = .ok (.getfield 51, 3) := by decide +kernel
theorem dX10_medians_4 : decode cX10_medians 4 = .ok (.invokevirtual 155, 3) := by decide +kernel
theorem dX10_medians_7 : decode cX10_medians 7 = .ok (.aload_n 0, 1) := by decide +kernel
theorem dX10_medians_8 : decode cX10_medians 8 = .ok (.getfield 51, 3) := by decide +kernel
theorem dX10_medians_11 : decode cX10_medians 11 = .ok (.getfield 229, 3) := by decide +kernel
theorem dX10_medians_14 : decode cX10_medians 14 = .ok (.iconst (-1), 1) := by decide +kernel
theorem dX10_medians_15 : decode cX10_medians 15 = .ok (.if_icmp .ne 7, 3) := by decide +kernel
theorem dX10_medians_18 : decode cX10_medians 18 = .ok (.iconst (-1), 1) := by decide +kernel
theorem dX10_medians_19 : decode cX10_medians 19 = .ok (.goto 10, 3) := by decide +kernel
theorem dX10_medians_22 : decode cX10_medians 22 = .ok (.aload_n 0, 1) := by decide +kernel
theorem dX10_medians_23 : decode cX10_medians 23 = .ok (.getfield 51, 3) := by decide +kernel
theorem dX10_medians_26 : decode cX10_medians 26 = .ok (.getfield 233, 3) := by decide +kernel
theorem dX10_medians_29 : decode cX10_medians 29 = .ok (.ireturn, 1) := by decide +kernel
theorem dX10_motif_0 : decode cX10_motif 0 = .ok (.aload_n 0, 1) := by decide +kernel
theorem dX10_motif_1 : decode cX10_motif 1 = .ok (.getfield 33, 3) := by decide +kernel
theorem dX10_motif_4 : decode cX10_motif 4 = .ok (.iload_n 1, 1) := by decide +kernel
theorem dX10_motif_5 : decode cX10_motif 5 = .ok (.invokevirtual 236, 3) := by decide +kernel
theorem dX10_motif_8 : decode cX10_motif 8 = .ok (.ifCond .ne 5, 3) := by decide +kernel
theorem dX10_motif_11 : decode cX10_motif 11 = .ok (.iconst (-1), 1) := by decide +kernel
theorem dX10_motif_12 : decode cX10_motif 12 = .ok (.ireturn, 1) := by decide +kernel
theorem dX10_motif_13 : decode cX10_motif 13 = .ok (.aload_n 0, 1) := by decide +kernel
theorem dX10_motif_14 : decode cX10_motif 14 = .ok (.getfield 74, 3) := by decide +kernel
theorem dX10_motif_17 : decode cX10_motif 17 = .ok (.iload_n 1, 1) := by decide +kernel
theorem dX10_motif_18 : decode cX10_motif 18 = .ok (.invokevirtual 239, 3) := by decide +kernel
theorem dX10_motif_21 : decode cX10_motif 21 = .ok (.aload_n 0, 1) := by decide +kernel
theorem dX10_motif_22 : decode cX10_motif 22 = .ok (.getfield 74, 3) := by decide +kernel
theorem dX10_motif_25 : decode cX10_motif 25 = .ok (.getfield 241, 3) := by decide +kernel
theorem dX10_motif_28 : decode cX10_motif 28 = .ok (.iload_n 1, 1) := by decide +kernel
theorem dX10_motif_29 : decode cX10_motif 29 = .ok (.iaload, 1) := by decide +kernel
theorem dX10_motif_30 : decode cX10_motif 30 = .ok (.ireturn, 1) := by decide +kernel
theorem dX10_motifAt_0 : decode cX10_motifAt 0 = .ok (.aload_n 0, 1) := by decide +kernel
theorem dX10_motifAt_1 : decode cX10_motifAt 1 = .ok (.getfield 33, 3) := by decide +kernel
theorem dX10_motifAt_4 : decode cX10_motifAt 4 = .ok (.iload_n 1, 1) := by decide +kernel
theorem dX10_motifAt_5 : decode cX10_motifAt 5 = .ok (.invokevirtual 236, 3) := by decide +kernel
theorem dX10_motifAt_8 : decode cX10_motifAt 8 = .ok (.ifCond .eq 12, 3) := by decide +kernel
theorem dX10_motifAt_11 : decode cX10_motifAt 11 = .ok (.iload_n 2, 1) := by decide +kernel
theorem dX10_motifAt_12 : decode cX10_motifAt 12 = .ok (.ifCond .lt 8, 3) := by decide +kernel
theorem dX10_motifAt_15 : decode cX10_motifAt 15 = .ok (.iload_n 2, 1) := by decide +kernel
theorem dX10_motifAt_16 : decode cX10_motifAt 16 = .ok (.iload_n 1, 1) := by decide +kernel
theorem dX10_motifAt_17 : decode cX10_motifAt 17 = .ok (.if_icmp .lt 5, 3) := by decide +kernel
theorem dX10_motifAt_20 : decode cX10_motifAt 20 = .ok (.iconst (-1), 1) := by decide +kernel
theorem dX10_motifAt_21 : decode cX10_motifAt 21 = .ok (.ireturn, 1) := by decide +kernel
theorem dX10_motifAt_22 : decode cX10_motifAt 22 = .ok (.aload_n 0, 1) := by decide +kernel
theorem dX10_motifAt_23 : decode cX10_motifAt 23 = .ok (.getfield 74, 3) := by decide +kernel
theorem dX10_motifAt_26 : decode cX10_motifAt 26 = .ok (.iload_n 1, 1) := by decide +kernel
theorem dX10_motifAt_27 : decode cX10_motifAt 27 = .ok (.invokevirtual 239, 3) := by decide +kernel
theorem dX10_motifAt_30 : decode cX10_motifAt 30 = .ok (.aload_n 0, 1) := by decide +kernel
theorem dX10_motifAt_31 : decode cX10_motifAt 31 = .ok (.getfield 74, 3) := by decide +kernel
theorem dX10_motifAt_34 : decode cX10_motifAt 34 = .ok (.getfield 244, 3) := by decide +kernel
theorem dX10_motifAt_37 : decode cX10_motifAt 37 = .ok (.iload_n 1, 1) := by decide +kernel
theorem dX10_motifAt_38 : decode cX10_motifAt 38 = .ok (.iaload, 1) := by decide +kernel
theorem dX10_motifAt_39 : decode cX10_motifAt 39 = .ok (.iload_n 1, 1) := by decide +kernel
theorem dX10_motifAt_40 : decode cX10_motifAt 40 = .ok (.iload_n 2, 1) := by decide +kernel
theorem dX10_motifAt_41 : decode cX10_motifAt 41 = .ok (.invokestatic 245, 3) := by decide +kernel
theorem dX10_motifAt_44 : decode cX10_motifAt 44 = .ok (.ireturn, 1) := by decide +kernel
theorem dX10_motifIn_0 : decode cX10_motifIn 0 = .ok (.aload_n 0, 1) := by decide +kernel
theorem dX10_motifIn_1 : decode cX10_motifIn 1 = .ok (.getfield 33, 3) := by decide +kernel
theorem dX10_motifIn_4 : decode cX10_motifIn 4 = .ok (.iload_n 2, 1) := by decide +kernel
theorem dX10_motifIn_5 : decode cX10_motifIn 5 = .ok (.invokevirtual 249, 3) := by decide +kernel
theorem dX10_motifIn_8 : decode cX10_motifIn 8 = .ok (.ifCond .ne 13, 3) := by decide +kernel
theorem dX10_motifIn_11 : decode cX10_motifIn 11 = .ok (.new 250, 3) := by decide +kernel
theorem dX10_motifIn_14 : decode cX10_motifIn 14 = .ok (.dup, 1) := by decide +kernel
theorem dX10_motifIn_15 : decode cX10_motifIn 15 = .ok (.ldc 252, 2) := by decide +kernel
theorem dX10_motifIn_17 : decode cX10_motifIn 17 = .ok (.invokespecial 254, 3) := by decide +kernel
theorem dX10_motifIn_20 : decode cX10_motifIn 20 = .ok (.athrow, 1) := by decide +kernel
theorem dX10_motifIn_21 : decode cX10_motifIn 21 = .ok (.aload_n 0, 1) := by decide +kernel
theorem dX10_motifIn_22 : decode cX10_motifIn 22 = .ok (.getfield 33, 3) := by decide +kernel
theorem dX10_motifIn_25 : decode cX10_motifIn 25 = .ok (.iload_n 1, 1) := by decide +kernel
theorem dX10_motifIn_26 : decode cX10_motifIn 26 = .ok (.invokevirtual 236, 3) := by decide +kernel
theorem dX10_motifIn_29 : decode cX10_motifIn 29 = .ok (.ifCond .ne 14, 3) := by decide +kernel
theorem dX10_motifIn_32 : decode cX10_motifIn 32 = .ok (.new 250, 3) := by decide +kernel
theorem dX10_motifIn_35 : decode cX10_motifIn 35 = .ok (.dup, 1) := by decide +kernel
theorem dX10_motifIn_36 : decode cX10_motifIn 36 = .ok (.ldc_w 257, 3) := by decide +kernel
theorem dX10_motifIn_39 : decode cX10_motifIn 39 = .ok (.invokespecial 254, 3) := by decide +kernel
theorem dX10_motifIn_42 : decode cX10_motifIn 42 = .ok (.athrow, 1) := by decide +kernel
theorem dX10_motifIn_43 : decode cX10_motifIn 43 = .ok (.aload_n 0, 1) := by decide +kernel
theorem dX10_motifIn_44 : decode cX10_motifIn 44 = .ok (.getfield 74, 3) := by decide +kernel
theorem dX10_motifIn_47 : decode cX10_motifIn 47 = .ok (.iload_n 1, 1) := by decide +kernel
theorem dX10_motifIn_48 : decode cX10_motifIn 48 = .ok (.invokevirtual 239, 3) := by decide +kernel
theorem dX10_motifIn_51 : decode cX10_motifIn 51 = .ok (.aload_n 0, 1) := by decide +kernel
theorem dX10_motifIn_52 : decode cX10_motifIn 52 = .ok (.getfield 74, 3) := by decide +kernel
theorem dX10_motifIn_55 : decode cX10_motifIn 55 = .ok (.iload_n 1, 1) := by decide +kernel
theorem dX10_motifIn_56 : decode cX10_motifIn 56 = .ok (.iload_n 2, 1) := by decide +kernel
theorem dX10_motifIn_57 : decode cX10_motifIn 57 = .ok (.invokevirtual 259, 3) := by decide +kernel
theorem dX10_motifIn_60 : decode cX10_motifIn 60 = .ok (.ireturn, 1) := by decide +kernel
theorem dX10_of_0 : decode cX10_of 0 = .ok (.aload_n 0, 1) := by decide +kernel
theorem dX10_of_1 : decode cX10_of 1 = .ok (.getfield 26, 3) := by decide +kernel
theorem dX10_of_4 : decode cX10_of 4 = .ok (.iload_n 1, 1) := by decide +kernel
theorem dX10_of_5 : decode cX10_of 5 = .ok (.invokevirtual 139, 3) := by decide +kernel
theorem dX10_of_8 : decode cX10_of 8 = .ok (.ifCond .eq 18, 3) := by decide +kernel
theorem dX10_of_11 : decode cX10_of 11 = .ok (.iload_n 2, 1) := by decide +kernel
theorem dX10_of_12 : decode cX10_of 12 = .ok (.ifCond .lt 14, 3) := by decide +kernel
theorem dX10_of_15 : decode cX10_of 15 = .ok (.iload_n 2, 1) := by decide +kernel
theorem dX10_of_16 : decode cX10_of 16 = .ok (.aload_n 0, 1) := by decide +kernel
theorem dX10_of_17 : decode cX10_of 17 = .ok (.getfield 26, 3) := by decide +kernel
theorem dX10_of_20 : decode cX10_of 20 = .ok (.getfield 122, 3) := by decide +kernel
theorem dX10_of_23 : decode cX10_of 23 = .ok (.if_icmp .le 5, 3) := by decide +kernel
theorem dX10_of_26 : decode cX10_of 26 = .ok (.iconst (-1), 1) := by decide +kernel
theorem dX10_of_27 : decode cX10_of 27 = .ok (.ireturn, 1) := by decide +kernel
theorem dX10_of_28 : decode cX10_of 28 = .ok (.iload_n 2, 1) := by decide +kernel
theorem dX10_of_29 : decode cX10_of 29 = .ok (.ifCond .ne 15, 3) := by decide +kernel
theorem dX10_of_32 : decode cX10_of 32 = .ok (.aload_n 0, 1) := by decide +kernel
theorem dX10_of_33 : decode cX10_of 33 = .ok (.getfield 26, 3) := by decide +kernel
theorem dX10_of_36 : decode cX10_of 36 = .ok (.getfield 142, 3) := by decide +kernel
theorem dX10_of_39 : decode cX10_of 39 = .ok (.iload_n 1, 1) := by decide +kernel
theorem dX10_of_40 : decode cX10_of 40 = .ok (.iaload, 1) := by decide +kernel
theorem dX10_of_41 : decode cX10_of 41 = .ok (.goto 23, 3) := by decide +kernel
theorem dX10_of_44 : decode cX10_of 44 = .ok (.aload_n 0, 1) := by decide +kernel
theorem dX10_of_45 : decode cX10_of 45 = .ok (.getfield 26, 3) := by decide +kernel
theorem dX10_of_48 : decode cX10_of 48 = .ok (.getfield 145, 3) := by decide +kernel
theorem dX10_of_51 : decode cX10_of 51 = .ok (.aload_n 0, 1) := by decide +kernel
theorem dX10_of_52 : decode cX10_of 52 = .ok (.getfield 26, 3) := by decide +kernel
theorem dX10_of_55 : decode cX10_of 55 = .ok (.iload_n 1, 1) := by decide +kernel
theorem dX10_of_56 : decode cX10_of 56 = .ok (.invokevirtual 148, 3) := by decide +kernel
theorem dX10_of_59 : decode cX10_of 59 = .ok (.iload_n 2, 1) := by decide +kernel
theorem dX10_of_60 : decode cX10_of 60 = .ok (.iadd, 1) := by decide +kernel
theorem dX10_of_61 : decode cX10_of 61 = .ok (.iconst 1, 1) := by decide +kernel
theorem dX10_of_62 : decode cX10_of 62 = .ok (.isub, 1) := by decide +kernel
theorem dX10_of_63 : decode cX10_of 63 = .ok (.iaload, 1) := by decide +kernel
theorem dX10_of_64 : decode cX10_of 64 = .ok (.ireturn, 1) := by decide +kernel
theorem dX10_count_0 : decode cX10_count 0 = .ok (.iload_n 1, 1) := by decide +kernel
theorem dX10_count_1 : decode cX10_count 1 = .ok (.tableswitch 157 0 9 #[55, 63, 75, 87, 95, 103, 125, 133, 141, 149], 55) := by decide +kernel
theorem dX10_count_56 : decode cX10_count 56 = .ok (.aload_n 0, 1) := by decide +kernel
theorem dX10_count_57 : decode cX10_count 57 = .ok (.getfield 26, 3) := by decide +kernel
theorem dX10_count_60 : decode cX10_count 60 = .ok (.getfield 78, 3) := by decide +kernel
theorem dX10_count_63 : decode cX10_count 63 = .ok (.ireturn, 1) := by decide +kernel
theorem dX10_count_64 : decode cX10_count 64 = .ok (.aload_n 0, 1) := by decide +kernel
theorem dX10_count_65 : decode cX10_count 65 = .ok (.getfield 26, 3) := by decide +kernel
theorem dX10_count_68 : decode cX10_count 68 = .ok (.iconst 1, 1) := by decide +kernel
theorem dX10_count_69 : decode cX10_count 69 = .ok (.invokevirtual 262, 3) := by decide +kernel
theorem dX10_count_72 : decode cX10_count 72 = .ok (.invokestatic 198, 3) := by decide +kernel
theorem dX10_count_75 : decode cX10_count 75 = .ok (.ireturn, 1) := by decide +kernel
theorem dX10_count_76 : decode cX10_count 76 = .ok (.aload_n 0, 1) := by decide +kernel
theorem dX10_count_77 : decode cX10_count 77 = .ok (.getfield 26, 3) := by decide +kernel
theorem dX10_count_80 : decode cX10_count 80 = .ok (.iconst 2, 1) := by decide +kernel
theorem dX10_count_81 : decode cX10_count 81 = .ok (.invokevirtual 262, 3) := by decide +kernel
theorem dX10_count_84 : decode cX10_count 84 = .ok (.invokestatic 198, 3) := by decide +kernel
theorem dX10_count_87 : decode cX10_count 87 = .ok (.ireturn, 1) := by decide +kernel
theorem dX10_count_88 : decode cX10_count 88 = .ok (.aload_n 0, 1) := by decide +kernel
theorem dX10_count_89 : decode cX10_count 89 = .ok (.getfield 33, 3) := by decide +kernel
theorem dX10_count_92 : decode cX10_count 92 = .ok (.getfield 82, 3) := by decide +kernel
theorem dX10_count_95 : decode cX10_count 95 = .ok (.ireturn, 1) := by decide +kernel
theorem dX10_count_96 : decode cX10_count 96 = .ok (.aload_n 0, 1) := by decide +kernel
theorem dX10_count_97 : decode cX10_count 97 = .ok (.getfield 10, 3) := by decide +kernel
theorem dX10_count_100 : decode cX10_count 100 = .ok (.getfield 83, 3) := by decide +kernel
theorem dX10_count_103 : decode cX10_count 103 = .ok (.ireturn, 1) := by decide +kernel
theorem dX10_count_104 : decode cX10_count 104 = .ok (.aload_n 0, 1) := by decide +kernel
theorem dX10_count_105 : decode cX10_count 105 = .ok (.getfield 26, 3) := by decide +kernel
theorem dX10_count_108 : decode cX10_count 108 = .ok (.getfield 78, 3) := by decide +kernel
theorem dX10_count_111 : decode cX10_count 111 = .ok (.ifCond .ne 7, 3) := by decide +kernel
theorem dX10_count_114 : decode cX10_count 114 = .ok (.iconst (-1), 1) := by decide +kernel
theorem dX10_count_115 : decode cX10_count 115 = .ok (.goto 10, 3) := by decide +kernel
theorem dX10_count_118 : decode cX10_count 118 = .ok (.aload_n 0, 1) := by decide +kernel
theorem dX10_count_119 : decode cX10_count 119 = .ok (.getfield 26, 3) := by decide +kernel
theorem dX10_count_122 : decode cX10_count 122 = .ok (.getfield 122, 3) := by decide +kernel
theorem dX10_count_125 : decode cX10_count 125 = .ok (.ireturn, 1) := by decide +kernel
theorem dX10_count_126 : decode cX10_count 126 = .ok (.aload_n 0, 1) := by decide +kernel
theorem dX10_count_127 : decode cX10_count 127 = .ok (.getfield 10, 3) := by decide +kernel
theorem dX10_count_130 : decode cX10_count 130 = .ok (.getfield 101, 3) := by decide +kernel
theorem dX10_count_133 : decode cX10_count 133 = .ok (.ireturn, 1) := by decide +kernel
theorem dX10_count_134 : decode cX10_count 134 = .ok (.aload_n 0, 1) := by decide +kernel
theorem dX10_count_135 : decode cX10_count 135 = .ok (.getfield 10, 3) := by decide +kernel
theorem dX10_count_138 : decode cX10_count 138 = .ok (.getfield 107, 3) := by decide +kernel
theorem dX10_count_141 : decode cX10_count 141 = .ok (.ireturn, 1) := by decide +kernel
theorem dX10_count_142 : decode cX10_count 142 = .ok (.aload_n 0, 1) := by decide +kernel
theorem dX10_count_143 : decode cX10_count 143 = .ok (.getfield 19, 3) := by decide +kernel
theorem dX10_count_146 : decode cX10_count 146 = .ok (.getfield 113, 3) := by decide +kernel
theorem dX10_count_149 : decode cX10_count 149 = .ok (.ireturn, 1) := by decide +kernel
theorem dX10_count_150 : decode cX10_count 150 = .ok (.aload_n 0, 1) := by decide +kernel
theorem dX10_count_151 : decode cX10_count 151 = .ok (.getfield 10, 3) := by decide +kernel
theorem dX10_count_154 : decode cX10_count 154 = .ok (.getfield 104, 3) := by decide +kernel
theorem dX10_count_157 : decode cX10_count 157 = .ok (.ireturn, 1) := by decide +kernel
theorem dX10_count_158 : decode cX10_count 158 = .ok (.iload_n 1, 1) := by decide +kernel
theorem dX10_count_159 : decode cX10_count 159 = .ok (.bipush 10, 2) := by decide +kernel
theorem dX10_count_161 : decode cX10_count 161 = .ok (.if_icmp .lt 32, 3) := by decide +kernel
theorem dX10_count_164 : decode cX10_count 164 = .ok (.aload_n 0, 1) := by decide +kernel
theorem dX10_count_165 : decode cX10_count 165 = .ok (.getfield 33, 3) := by decide +kernel
theorem dX10_count_168 : decode cX10_count 168 = .ok (.iload_n 1, 1) := by decide +kernel
theorem dX10_count_169 : decode cX10_count 169 = .ok (.bipush 10, 2) := by decide +kernel
theorem dX10_count_171 : decode cX10_count 171 = .ok (.isub, 1) := by decide +kernel
theorem dX10_count_172 : decode cX10_count 172 = .ok (.invokevirtual 249, 3) := by decide +kernel
theorem dX10_count_175 : decode cX10_count 175 = .ok (.ifCond .eq 18, 3) := by decide +kernel
theorem dX10_count_178 : decode cX10_count 178 = .ok (.aload_n 0, 1) := by decide +kernel
theorem dX10_count_179 : decode cX10_count 179 = .ok (.getfield 33, 3) := by decide +kernel
theorem dX10_count_182 : decode cX10_count 182 = .ok (.getfield 265, 3) := by decide +kernel
theorem dX10_count_185 : decode cX10_count 185 = .ok (.iload_n 1, 1) := by decide +kernel
theorem dX10_count_186 : decode cX10_count 186 = .ok (.bipush 10, 2) := by decide +kernel
theorem dX10_count_188 : decode cX10_count 188 = .ok (.isub, 1) := by decide +kernel
theorem dX10_count_189 : decode cX10_count 189 = .ok (.iaload, 1) := by decide +kernel
theorem dX10_count_190 : decode cX10_count 190 = .ok (.goto 4, 3) := by decide +kernel
theorem dX10_count_193 : decode cX10_count 193 = .ok (.iconst (-1), 1) := by decide +kernel
theorem dX10_count_194 : decode cX10_count 194 = .ok (.ireturn, 1) := by decide +kernel
theorem dX10_isLetterOfFour_0 : decode cX10_isLetterOfFour 0 = .ok (.iload_n 0, 1) := by decide +kernel
theorem dX10_isLetterOfFour_1 : decode cX10_isLetterOfFour 1 = .ok (.ifCond .lt 12, 3) := by decide +kernel
theorem dX10_isLetterOfFour_4 : decode cX10_isLetterOfFour 4 = .ok (.iload_n 0, 1) := by decide +kernel
theorem dX10_isLetterOfFour_5 : decode cX10_isLetterOfFour 5 = .ok (.iconst 4, 1) := by decide +kernel
theorem dX10_isLetterOfFour_6 : decode cX10_isLetterOfFour 6 = .ok (.if_icmp .ge 7, 3) := by decide +kernel
theorem dX10_isLetterOfFour_9 : decode cX10_isLetterOfFour 9 = .ok (.iconst 1, 1) := by decide +kernel
theorem dX10_isLetterOfFour_10 : decode cX10_isLetterOfFour 10 = .ok (.goto 4, 3) := by decide +kernel
theorem dX10_isLetterOfFour_13 : decode cX10_isLetterOfFour 13 = .ok (.iconst 0, 1) := by decide +kernel
theorem dX10_isLetterOfFour_14 : decode cX10_isLetterOfFour 14 = .ok (.ireturn, 1) := by decide +kernel
theorem dX10_asksWithin_0 : decode cX10_asksWithin 0 = .ok (.iload_n 1, 1) := by decide +kernel
theorem dX10_asksWithin_1 : decode cX10_asksWithin 1 = .ok (.ifCond .lt 23, 3) := by decide +kernel
theorem dX10_asksWithin_4 : decode cX10_asksWithin 4 = .ok (.iload_n 1, 1) := by decide +kernel
theorem dX10_asksWithin_5 : decode cX10_asksWithin 5 = .ok (.bipush 63, 2) := by decide +kernel
theorem dX10_asksWithin_7 : decode cX10_asksWithin 7 = .ok (.if_icmp .gt 17, 3) := by decide +kernel
theorem dX10_asksWithin_10 : decode cX10_asksWithin 10 = .ok (.aload_n 0, 1) := by decide +kernel
theorem dX10_asksWithin_11 : decode cX10_asksWithin 11 = .ok (.getfield 26, 3) := by decide +kernel
theorem dX10_asksWithin_14 : decode cX10_asksWithin 14 = .ok (.invokevirtual 210, 3) := by decide +kernel
theorem dX10_asksWithin_17 : decode cX10_asksWithin 17 = .ok (.ifCond .eq 7, 3) := by decide +kernel
theorem dX10_asksWithin_20 : decode cX10_asksWithin 20 = .ok (.iconst 1, 1) := by decide +kernel
theorem dX10_asksWithin_21 : decode cX10_asksWithin 21 = .ok (.goto 4, 3) := by decide +kernel
theorem dX10_asksWithin_24 : decode cX10_asksWithin 24 = .ok (.iconst 0, 1) := by decide +kernel
theorem dX10_asksWithin_25 : decode cX10_asksWithin 25 = .ok (.ireturn, 1) := by decide +kernel
theorem dX10_keyWithout_0 : decode cX10_keyWithout 0 = .ok (.iload_n 1, 1) := by decide +kernel
theorem dX10_keyWithout_1 : decode cX10_keyWithout 1 = .ok (.ifCond .lt 19, 3) := by decide +kernel
theorem dX10_keyWithout_4 : decode cX10_keyWithout 4 = .ok (.iload_n 1, 1) := by decide +kernel
theorem dX10_keyWithout_5 : decode cX10_keyWithout 5 = .ok (.bipush 8, 2) := by decide +kernel
theorem dX10_keyWithout_7 : decode cX10_keyWithout 7 = .ok (.if_icmp .ge 13, 3) := by decide +kernel
theorem dX10_keyWithout_10 : decode cX10_keyWithout 10 = .ok (.aload_n 0, 1) := by decide +kernel
theorem dX10_keyWithout_11 : decode cX10_keyWithout 11 = .ok (.getfield 26, 3) := by decide +kernel
theorem dX10_keyWithout_14 : decode cX10_keyWithout 14 = .ok (.invokevirtual 210, 3) := by decide +kernel
theorem dX10_keyWithout_17 : decode cX10_keyWithout 17 = .ok (.ifCond .ne 6, 3) := by decide +kernel
theorem dX10_keyWithout_20 : decode cX10_keyWithout 20 = .ok (.ldc 171, 2) := by decide +kernel
theorem dX10_keyWithout_22 : decode cX10_keyWithout 22 = .ok (.ireturn, 1) := by decide +kernel
theorem dX10_keyWithout_23 : decode cX10_keyWithout 23 = .ok (.aload_n 0, 1) := by decide +kernel
theorem dX10_keyWithout_24 : decode cX10_keyWithout 24 = .ok (.getfield 58, 3) := by decide +kernel
theorem dX10_keyWithout_27 : decode cX10_keyWithout 27 = .ok (.invokevirtual 203, 3) := by decide +kernel
theorem dX10_keyWithout_30 : decode cX10_keyWithout 30 = .ok (.aload_n 0, 1) := by decide +kernel
theorem dX10_keyWithout_31 : decode cX10_keyWithout 31 = .ok (.getfield 58, 3) := by decide +kernel
theorem dX10_keyWithout_34 : decode cX10_keyWithout 34 = .ok (.iload_n 1, 1) := by decide +kernel
theorem dX10_keyWithout_35 : decode cX10_keyWithout 35 = .ok (.invokevirtual 268, 3) := by decide +kernel
theorem dX10_keyWithout_38 : decode cX10_keyWithout 38 = .ok (.ireturn, 1) := by decide +kernel
theorem dX10_forgetCandidates_0 : decode cX10_forgetCandidates 0 = .ok (.aload_n 0, 1) := by decide +kernel
theorem dX10_forgetCandidates_1 : decode cX10_forgetCandidates 1 = .ok (.getfield 51, 3) := by decide +kernel
theorem dX10_forgetCandidates_4 : decode cX10_forgetCandidates 4 = .ok (.iconst 0, 1) := by decide +kernel
theorem dX10_forgetCandidates_5 : decode cX10_forgetCandidates 5 = .ok (.putfield 271, 3) := by decide +kernel
theorem dX10_forgetCandidates_8 : decode cX10_forgetCandidates 8 = .ok (.aload_n 0, 1) := by decide +kernel
theorem dX10_forgetCandidates_9 : decode cX10_forgetCandidates 9 = .ok (.getfield 58, 3) := by decide +kernel
theorem dX10_forgetCandidates_12 : decode cX10_forgetCandidates 12 = .ok (.iconst 0, 1) := by decide +kernel
theorem dX10_forgetCandidates_13 : decode cX10_forgetCandidates 13 = .ok (.putfield 272, 3) := by decide +kernel
theorem dX10_forgetCandidates_16 : decode cX10_forgetCandidates 16 = .ok (.return_, 1) := by decide +kernel
theorem dX10_forgetDistances_0 : decode cX10_forgetDistances 0 = .ok (.aload_n 0, 1) := by decide +kernel
theorem dX10_forgetDistances_1 : decode cX10_forgetDistances 1 = .ok (.invokevirtual 110, 3) := by decide +kernel
theorem dX10_forgetDistances_4 : decode cX10_forgetDistances 4 = .ok (.aload_n 0, 1) := by decide +kernel
theorem dX10_forgetDistances_5 : decode cX10_forgetDistances 5 = .ok (.getfield 74, 3) := by decide +kernel
theorem dX10_forgetDistances_8 : decode cX10_forgetDistances 8 = .ok (.invokevirtual 136, 3) := by decide +kernel
theorem dX10_forgetDistances_11 : decode cX10_forgetDistances 11 = .ok (.return_, 1) := by decide +kernel
theorem dX10_forgetWords_0 : decode cX10_forgetWords 0 = .ok (.aload_n 0, 1) := by decide +kernel
theorem dX10_forgetWords_1 : decode cX10_forgetWords 1 = .ok (.invokevirtual 110, 3) := by decide +kernel
theorem dX10_forgetWords_4 : decode cX10_forgetWords 4 = .ok (.aload_n 0, 1) := by decide +kernel
theorem dX10_forgetWords_5 : decode cX10_forgetWords 5 = .ok (.getfield 65, 3) := by decide +kernel
theorem dX10_forgetWords_8 : decode cX10_forgetWords 8 = .ok (.iconst 0, 1) := by decide +kernel
theorem dX10_forgetWords_9 : decode cX10_forgetWords 9 = .ok (.putfield 97, 3) := by decide +kernel
theorem dX10_forgetWords_12 : decode cX10_forgetWords 12 = .ok (.return_, 1) := by decide +kernel
theorem dX11_thrown_0 : decode cX11_thrown 0 = .ok (.aload_n 0, 1) := by decide +kernel
theorem dX11_thrown_1 : decode cX11_thrown 1 = .ok (.getfield 1, 3) := by decide +kernel
theorem dX11_thrown_4 : decode cX11_thrown 4 = .ok (.ireturn, 1) := by decide +kernel
theorem dX11_within_0 : decode cX11_within 0 = .ok (.iload_n 0, 1) := by decide +kernel
theorem dX11_within_1 : decode cX11_within 1 = .ok (.iload_n 1, 1) := by decide +kernel
theorem dX11_within_2 : decode cX11_within 2 = .ok (.if_icmp .lt 12, 3) := by decide +kernel
theorem dX11_within_5 : decode cX11_within 5 = .ok (.iload_n 0, 1) := by decide +kernel
theorem dX11_within_6 : decode cX11_within 6 = .ok (.iload_n 2, 1) := by decide +kernel
theorem dX11_within_7 : decode cX11_within 7 = .ok (.if_icmp .gt 7, 3) := by decide +kernel
theorem dX11_within_10 : decode cX11_within 10 = .ok (.iconst 1, 1) := by decide +kernel
theorem dX11_within_11 : decode cX11_within 11 = .ok (.goto 4, 3) := by decide +kernel
theorem dX11_within_14 : decode cX11_within 14 = .ok (.iconst 0, 1) := by decide +kernel
theorem dX11_within_15 : decode cX11_within 15 = .ok (.ireturn, 1) := by decide +kernel
theorem dX11_init_0 : decode cX11_init 0 = .ok (.aload_n 0, 1) := by decide +kernel
theorem dX11_init_1 : decode cX11_init 1 = .ok (.invokespecial 7, 3) := by decide +kernel
theorem dX11_init_4 : decode cX11_init 4 = .ok (.aload_n 0, 1) := by decide +kernel
theorem dX11_init_5 : decode cX11_init 5 = .ok (.iconst 4, 1) := by decide +kernel
theorem dX11_init_6 : decode cX11_init 6 = .ok (.putfield 13, 3) := by decide +kernel
theorem dX11_init_9 : decode cX11_init 9 = .ok (.aload_n 0, 1) := by decide +kernel
theorem dX11_init_10 : decode cX11_init 10 = .ok (.bipush 16, 2) := by decide +kernel
theorem dX11_init_12 : decode cX11_init 12 = .ok (.newarray .int, 2) := by decide +kernel
theorem dX11_init_14 : decode cX11_init 14 = .ok (.putfield 16, 3) := by decide +kernel
theorem dX11_init_17 : decode cX11_init 17 = .ok (.aload_n 0, 1) := by decide +kernel
theorem dX11_init_18 : decode cX11_init 18 = .ok (.iconst 2, 1) := by decide +kernel
theorem dX11_init_19 : decode cX11_init 19 = .ok (.putfield 20, 3) := by decide +kernel
theorem dX11_init_22 : decode cX11_init 22 = .ok (.aload_n 0, 1) := by decide +kernel
theorem dX11_init_23 : decode cX11_init 23 = .ok (.bipush 56, 2) := by decide +kernel
theorem dX11_init_25 : decode cX11_init 25 = .ok (.newarray .byte, 2) := by decide +kernel
theorem dX11_init_27 : decode cX11_init 27 = .ok (.putfield 23, 3) := by decide +kernel
theorem dX11_init_30 : decode cX11_init 30 = .ok (.aload_n 0, 1) := by decide +kernel
theorem dX11_init_31 : decode cX11_init 31 = .ok (.bipush 8, 2) := by decide +kernel
theorem dX11_init_33 : decode cX11_init 33 = .ok (.newarray .int, 2) := by decide +kernel
theorem dX11_init_35 : decode cX11_init 35 = .ok (.putfield 27, 3) := by decide +kernel
theorem dX11_init_38 : decode cX11_init 38 = .ok (.aload_n 0, 1) := by decide +kernel
theorem dX11_init_39 : decode cX11_init 39 = .ok (.bipush 120, 2) := by decide +kernel
theorem dX11_init_41 : decode cX11_init 41 = .ok (.newarray .byte, 2) := by decide +kernel
theorem dX11_init_43 : decode cX11_init 43 = .ok (.putfield 30, 3) := by decide +kernel
theorem dX11_init_46 : decode cX11_init 46 = .ok (.aload_n 0, 1) := by decide +kernel
theorem dX11_init_47 : decode cX11_init 47 = .ok (.iconst 5, 1) := by decide +kernel
theorem dX11_init_48 : decode cX11_init 48 = .ok (.newarray .int, 2) := by decide +kernel
theorem dX11_init_50 : decode cX11_init 50 = .ok (.putfield 33, 3) := by decide +kernel
theorem dX11_init_53 : decode cX11_init 53 = .ok (.aload_n 0, 1) := by decide +kernel
theorem dX11_init_54 : decode cX11_init 54 = .ok (.bipush 40, 2) := by decide +kernel
theorem dX11_init_56 : decode cX11_init 56 = .ok (.newarray .byte, 2) := by decide +kernel
theorem dX11_init_58 : decode cX11_init 58 = .ok (.putfield 36, 3) := by decide +kernel
theorem dX11_init_61 : decode cX11_init 61 = .ok (.aload_n 0, 1) := by decide +kernel
theorem dX11_init_62 : decode cX11_init 62 = .ok (.bipush 40, 2) := by decide +kernel
theorem dX11_init_64 : decode cX11_init 64 = .ok (.newarray .byte, 2) := by decide +kernel
theorem dX11_init_66 : decode cX11_init 66 = .ok (.putfield 39, 3) := by decide +kernel
theorem dX11_init_69 : decode cX11_init 69 = .ok (.aload_n 0, 1) := by decide +kernel
theorem dX11_init_70 : decode cX11_init 70 = .ok (.bipush 8, 2) := by decide +kernel
theorem dX11_init_72 : decode cX11_init 72 = .ok (.newarray .int, 2) := by decide +kernel
theorem dX11_init_74 : decode cX11_init 74 = .ok (.putfield 42, 3) := by decide +kernel
theorem dX11_init_77 : decode cX11_init 77 = .ok (.aload_n 0, 1) := by decide +kernel
theorem dX11_init_78 : decode cX11_init 78 = .ok (.ldc 45, 2) := by decide +kernel
theorem dX11_init_80 : decode cX11_init 80 = .ok (.newarray .byte, 2) := by decide +kernel
theorem dX11_init_82 : decode cX11_init 82 = .ok (.putfield 46, 3) := by decide +kernel
theorem dX11_init_85 : decode cX11_init 85 = .ok (.aload_n 0, 1) := by decide +kernel
theorem dX11_init_86 : decode cX11_init 86 = .ok (.bipush 8, 2) := by decide +kernel
theorem dX11_init_88 : decode cX11_init 88 = .ok (.newarray .byte, 2) := by decide +kernel
theorem dX11_init_90 : decode cX11_init 90 = .ok (.putfield 49, 3) := by decide +kernel
theorem dX11_init_93 : decode cX11_init 93 = .ok (.aload_n 0, 1) := by decide +kernel
theorem dX11_init_94 : decode cX11_init 94 = .ok (.sipush 256, 3) := by decide +kernel
theorem dX11_init_97 : decode cX11_init 97 = .ok (.newarray .boolean, 2) := by decide +kernel
theorem dX11_init_99 : decode cX11_init 99 = .ok (.putfield 52, 3) := by decide +kernel
